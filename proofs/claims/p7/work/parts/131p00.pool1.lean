noncomputable def f_X7_sourceAt (G : kG) (s_many : Int32) (p1 : Int32) : Option (Option Nat) :=
    cb1 (f_X11_isWithin p1 0 (s_many - 1)) fun r8_1 =>
    if r8_1 = 0 then
    (some (none))
    else
    (gdN 10 p1 <|
      some ((some (Int32.toNatClampNeg p1))))
abbrev r_X7_sourceAt : Room := { frames := 1, cells := 0, slots := 0, locals := 22 }
set_option maxHeartbeats 4000000 in
set_option maxRecDepth 100000 in
theorem c_X7_sourceAt (l : Launch) (E : kE) (sz : Nat) (a0 a1 : Nat) (w0_1 w0_3 : Value) (G : kG) (s_many : Int32) (p1 : Int32) (r : Option Nat) (h : f_X7_sourceAt G s_many p1 = some (r)) : kMq l yX7_sourceAt cX7_sourceAt 2 (some (.object "ScruffPaper$Source")) r_X7_sourceAt [.ref a0, .int p1] E (([(a0, .inr (7, [.ref a1, w0_1, .int s_many, w0_3])), (a1, .inl (E.2 3, 10, .inr (.inr (.inr (.inr ((kgA G)))))))] : va_W) ++ kpool E G) sz 0 0 (fun x (_ : Unit) => x = r.bind (kgA G)) (fun _ => (([(a0, .inr (7, [.ref a1, w0_1, .int s_many, w0_3])), (a1, .inl (E.2 3, 10, .inr (.inr (.inr (.inr ((kgA G)))))))] : va_W) ++ kpool E G)) := by
  refine kmetq (Or.inl ⟨_, rfl⟩) rfl (Nat.le_of_ble_eq_true rfl) ?_
  intro p e s m args below meth c ls A Q X hV hret hl
  have X : kC p s m c cX7_sourceAt 2 RX7 args E A := X
  have hx := X.1
  have hb := X.2.1
  have hl : lv_has ls 2 [(0, .ref a0), (1, .int p1)] := hl
  rw [f_X7_sourceAt] at h
  refine lv_iload_n hx hb dX7_sourceAt_0 rfl (lv_at hl 1 rfl) ?_
  refine lv_iconst (v := 0) hx hb dX7_sourceAt_1 (by decide) ?_
  refine lv_aload_n hx hb dX7_sourceAt_2 rfl (lv_at hl 0 rfl) ?_
  refine kget X hV (ci := 7) inlX7 rfl 0 rfl 2 (by decide) mw_75 rfl dX7_sourceAt_3 ?_
  refine lv_iconst (v := 1) hx hb dX7_sourceAt_6 (by decide) ?_
  refine lv_isub hx hb dX7_sourceAt_7 ?_
  obtain ⟨r8_1, hc2, h3⟩ := cb1_s h
  clear h
  have hY4 : kV E A s.heap _ _ (([] ++ ([(a0, .inr (7, [.ref a1, w0_1, .int s_many, w0_3])), (a1, .inl (E.2 3, 10, .inr (.inr (.inr (.inr ((kgA G)))))))] : va_W)) ++ kpool E G) := hV.subP [0, 1] rfl rfl
  have hY5 := hY4.swapT
  clear hY4
  refine kgoiT (krunSN (rest := []) X hY5 (List.range _) (c_X11_isWithin l E _ p1 0 (s_many - 1) r8_1 hc2) (List.mem_of_getElem? (i := 2) rfl) kb_X11_isWithin (kndR _) (krg _ _) rfl hl.1 rfl (Nat.le_of_ble_eq_true rfl) dX7_sourceAt_8 (by decide)) X hY5 (fun u9 H locs hV6 => ?_)
  clear hY5 hV
  have hV10 : kV E A s.heap H locs (([(a0, .inr (7, [.ref a1, w0_1, .int s_many, w0_3])), (a1, .inl (E.2 3, 10, .inr (.inr (.inr (.inr ((kgA G)))))))] : va_W) ++ kpool E G) := hV6.subP [0, 1] rfl rfl
  clear hV6
  refine lv_if_eq (tgt := 23) hx hb dX7_sourceAt_11 (by decide) (fun c11 => ?_) (fun c11 => ?_)
  · have h12 := itS c11 h3
    clear h3 c11
    refine lv_null hx hb dX7_sourceAt_23 ?_
    have q14 := tup1_s h12
    clear h12
    exact hret _ () _ _ _ _ (by rw [← q14]) hV10 dX7_sourceAt_24
  · have h13 := ieS c11 h3
    clear h3 c11
    refine lv_aload_n hx hb dX7_sourceAt_14 rfl (lv_at hl 0 rfl) ?_
    refine kget X hV10 (ci := 7) inlX7 rfl 0 rfl 0 (by decide) mw_70 rfl dX7_sourceAt_15 ?_
    refine lv_iload_n hx hb dX7_sourceAt_18 rfl (lv_at hl 1 rfl) ?_
    obtain ⟨hi15, h16⟩ := gdN_s h13
    clear h13
    refine kaald X hV10 1 3 rfl rfl hi15 rfl dX7_sourceAt_19 ?_
    clear hi15
    refine W.eq (g2 := F0 m 20 ls [va_rf ((some (Int32.toNatClampNeg p1)).bind (kgA G))]) rfl ?_
    refine lv_goto (tgt := 24) hx hb dX7_sourceAt_20 (by decide) ?_
    have q17 := tup1_s h16
    clear h16
    exact hret _ () _ _ _ _ (by rw [← q17]) hV10 dX7_sourceAt_24
noncomputable def f_X2_storyAt (G : kG) (p1 : Int32) : Option (Option Nat) :=
    cb1 (f_X11_isStory p1) fun r1_1 =>
    if r1_1 = 0 then
    (some (none))
    else
    (gdN 6 p1 <|
      some ((some (14 + (Int32.toNatClampNeg p1)))))
abbrev r_X2_storyAt : Room := { frames := 2, cells := 0, slots := 0, locals := 42 }
set_option maxHeartbeats 4000000 in
set_option maxRecDepth 100000 in
theorem c_X2_storyAt (l : Launch) (E : kE) (sz : Nat) (a0 a1 : Nat) (w0_0 w0_1 w0_2 w0_3 w0_5 : Value) (G : kG) (p1 : Int32) (r : Option Nat) (h : f_X2_storyAt G p1 = some (r)) : kMq l yX2_storyAt cX2_storyAt 2 (some (.object "ScruffPaper$Text")) r_X2_storyAt [.ref a0, .int p1] E (([(a0, .inr (2, [w0_0, w0_1, w0_2, w0_3, .ref a1, w0_5])), (a1, .inl (E.2 4, 6, .inr (.inr (.inr (.inr ((kgT G)))))))] : va_W) ++ kpool E G) sz 0 0 (fun x (_ : Unit) => x = r.bind (kgX G)) (fun _ => (([(a0, .inr (2, [w0_0, w0_1, w0_2, w0_3, .ref a1, w0_5])), (a1, .inl (E.2 4, 6, .inr (.inr (.inr (.inr ((kgT G)))))))] : va_W) ++ kpool E G)) := by
  refine kmetq (Or.inl ⟨_, rfl⟩) rfl (Nat.le_of_ble_eq_true rfl) ?_
  intro p e s m args below meth c ls A Q X hV hret hl
  have X : kC p s m c cX2_storyAt 2 RX2 args E A := X
  have hx := X.1
  have hb := X.2.1
  have hl : lv_has ls 2 [(0, .ref a0), (1, .int p1)] := hl
  rw [f_X2_storyAt] at h
  refine lv_iload_n hx hb dX2_storyAt_0 rfl (lv_at hl 1 rfl) ?_
  obtain ⟨r1_1, hc2, h3⟩ := cb1_s h
  clear h
  have hY4 : kV E A s.heap _ _ (([] ++ ([(a0, .inr (2, [w0_0, w0_1, w0_2, w0_3, .ref a1, w0_5])), (a1, .inl (E.2 4, 6, .inr (.inr (.inr (.inr ((kgT G)))))))] : va_W)) ++ kpool E G) := hV.subP [0, 1] rfl rfl
  have hY5 := hY4.swapT
  clear hY4
  refine kgoiT (krunSN (rest := []) X hY5 (List.range _) (c_X11_isStory l E _ p1 r1_1 hc2) (List.mem_of_getElem? (i := 7) rfl) kb_X11_isStory (kndR _) (krg _ _) rfl hl.1 rfl (Nat.le_of_ble_eq_true rfl) dX2_storyAt_1 (by decide)) X hY5 (fun u9 H locs hV6 => ?_)
  clear hY5 hV
  have hV10 : kV E A s.heap H locs (([(a0, .inr (2, [w0_0, w0_1, w0_2, w0_3, .ref a1, w0_5])), (a1, .inl (E.2 4, 6, .inr (.inr (.inr (.inr ((kgT G)))))))] : va_W) ++ kpool E G) := hV6.subP [0, 1] rfl rfl
  clear hV6
  refine lv_if_eq (tgt := 16) hx hb dX2_storyAt_4 (by decide) (fun c11 => ?_) (fun c11 => ?_)
  · have h12 := itS c11 h3
    clear h3 c11
    refine lv_null hx hb dX2_storyAt_16 ?_
    have q14 := tup1_s h12
    clear h12
    exact hret _ () _ _ _ _ (by rw [← q14]) hV10 dX2_storyAt_17
  · have h13 := ieS c11 h3
    clear h3 c11
    refine lv_aload_n hx hb dX2_storyAt_7 rfl (lv_at hl 0 rfl) ?_
    refine kget X hV10 (ci := 2) inlX2 rfl 0 rfl 4 (by decide) mw_125 rfl dX2_storyAt_8 ?_
    refine lv_iload_n hx hb dX2_storyAt_11 rfl (lv_at hl 1 rfl) ?_
    obtain ⟨hi15, h16⟩ := gdN_s h13
    clear h13
    refine kaald X hV10 1 4 rfl rfl hi15 rfl dX2_storyAt_12 ?_
    clear hi15
    refine W.eq (g2 := F0 m 13 ls [va_rf ((some (14 + (Int32.toNatClampNeg p1))).bind (kgX G))]) rfl ?_
    refine lv_goto (tgt := 17) hx hb dX2_storyAt_13 (by decide) ?_
    have q17 := tup1_s h16
    clear h16
    exact hret _ () _ _ _ _ (by rw [← q17]) hV10 dX2_storyAt_17
noncomputable def f_X7_lay_L16 (s_many : Int32) (s_seed : Int32) (p2 : Int32) (G : kG) (o_readers11_4 : Int32) (o_day11_5 : Int32)  : Nat → Int32 → (Nat → Int32) → (Nat → Int32) → (Nat → Int32) → (Nat → Int32) → (Nat → Int32) → Option (Int32 × Int32 × (Nat → Int32) × (Nat → Int32) × (Nat → Int32) × (Nat → Int32) × (Nat → Int32))
  | 0, _, _, _, _, _, _ => none
  | n16 + 1, x3_19, p1_heights__20, p1_highest__21, p1_shapes__22, reckoner_letters__23, reckoner_values__24 =>
    if s_many ≤ x3_19 then
    (some (o_readers11_4, o_day11_5, p1_heights__20, p1_highest__21, p1_shapes__22, reckoner_letters__23, reckoner_values__24))
    else
    (gdN 10 x3_19 <|
      oS G (some (Int32.toNatClampNeg x3_19))
      (nmI (x3_19 + 1) fun v61_46 =>
        (f_X7_lay_L16 s_many s_seed p2 G o_readers11_4 o_day11_5  n16) v61_46 p1_heights__20 p1_highest__21 p1_shapes__22 reckoner_letters__23 reckoner_values__24)
      fun _ s_38 =>
      (oT G (some (Int32.toNatClampNeg x3_19))
        (nmI (x3_19 + 1) fun v61_61 =>
          (f_X7_lay_L16 s_many s_seed p2 G o_readers11_4 o_day11_5  n16) v61_61 p1_heights__20 p1_highest__21 p1_shapes__22 reckoner_letters__23 reckoner_values__24)
        fun _ t_53 =>
        (cb1 (f_X8_comesOn (s_38.2.2.2.2.2.2) p2) fun r48_66 =>
          if r48_66 = 0 then
          (nmI (x3_19 + 1) fun v61_80 =>
            (f_X7_lay_L16 s_many s_seed p2 G o_readers11_4 o_day11_5  n16) v61_80 p1_heights__20 p1_highest__21 p1_shapes__22 reckoner_letters__23 reckoner_values__24)
          else
          (cb5 (f_X7_layOne (t_53.2.2.1.1) (t_53.2.2.2.2.1) (t_53.2.2.2.1.1) s_seed o_day11_5 (s_38.2.1) (s_38.2.2.1) (s_38.2.2.2.1) (s_38.2.2.2.2.1) (s_38.2.2.2.2.2.1) (s_38.2.2.2.2.2.2) p1_heights__20 p1_highest__21 p1_shapes__22 (t_53.2.1) (t_53.2.2.1.2) (t_53.2.2.2.2.2) (t_53.2.2.2.1.2) reckoner_letters__23 reckoner_values__24) fun o_p1_heights58_85 o_p1_highest58_86 o_p1_shapes58_87 o_reckoner_letters58_88 o_reckoner_values58_89 =>
            nmI (x3_19 + 1) fun v61_100 =>
            (f_X7_lay_L16 s_many s_seed p2 G o_readers11_4 o_day11_5  n16) v61_100 o_p1_heights58_85 o_p1_highest58_86 o_p1_shapes58_87 o_reckoner_letters58_88 o_reckoner_values58_89))))
noncomputable def f_X7_lay (G : kG) (s_many : Int32) (s_seed : Int32) (s_p1_readers : Int32) (s_p1_day : Int32) (s_p1_heights : Nat → Int32) (s_p1_highest : Nat → Int32) (s_p1_shapes : Nat → Int32) (s_reckoner_letters : Nat → Int32) (s_reckoner_values : Nat → Int32) (p2 : Int32) : Option (Int32 × Int32 × (Nat → Int32) × (Nat → Int32) × (Nat → Int32) × (Nat → Int32) × (Nat → Int32)) :=
    if s_p1_day = p2 then
    (some (s_p1_readers, s_p1_day, s_p1_heights, s_p1_highest, s_p1_shapes, s_reckoner_letters, s_reckoner_values))
    else
    (cb5 (f_X4_clear s_p1_readers s_p1_day s_p1_heights s_p1_highest s_p1_shapes p2) fun o_readers11_4 o_day11_5 o_heights11_6 o_highest11_7 o_shapes11_8 =>
      (f_X7_lay_L16 s_many s_seed p2 G o_readers11_4 o_day11_5  FU) 0 o_heights11_6 o_highest11_7 o_shapes11_8 s_reckoner_letters s_reckoner_values)
abbrev r_X7_lay : Room := { frames := 5, cells := 0, slots := 0, locals := 124 }
set_option maxHeartbeats 4000000 in
set_option maxRecDepth 100000 in
theorem c_X7_lay (l : Launch) (E : kE) (sz : Nat) (a0 a1 a2 a3 a4 a5 a6 a7 a8 : Nat) (w1_3 w1_4 : Value) (G : kG) (s_many : Int32) (s_seed : Int32) (s_p1_readers : Int32) (s_p1_day : Int32) (s_p1_heights : Nat → Int32) (s_p1_highest : Nat → Int32) (s_p1_shapes : Nat → Int32) (s_reckoner_letters : Nat → Int32) (s_reckoner_values : Nat → Int32) (p2 : Int32) (o_p1_readers : Int32) (o_p1_day : Int32) (o_p1_heights : Nat → Int32) (o_p1_highest : Nat → Int32) (o_p1_shapes : Nat → Int32) (o_reckoner_letters : Nat → Int32) (o_reckoner_values : Nat → Int32) (h : f_X7_lay G s_many s_seed s_p1_readers s_p1_day s_p1_heights s_p1_highest s_p1_shapes s_reckoner_letters s_reckoner_values p2 = some (o_p1_readers, o_p1_day, o_p1_heights, o_p1_highest, o_p1_shapes, o_reckoner_letters, o_reckoner_values)) : kMv l yX7_lay cX7_lay 5 r_X7_lay [.ref a0, .ref a1, .int p2] E (([(a0, .inr (7, [.ref a6, .ref a5, .int s_many, .int s_seed])), (a1, .inr (4, [.ref a2, .ref a4, .ref a3, w1_3, w1_4, .int s_p1_readers, .int s_p1_day])), (a2, .inl (E.2 0, 1440, .inl s_p1_heights)), (a3, .inl (E.2 0, 1440, .inl s_p1_highest)), (a4, .inl (E.2 0, 1440, .inl s_p1_shapes)), (a5, .inr (5, [.ref a7, .ref a8])), (a6, .inl (E.2 3, 10, .inr (.inr (.inr (.inr ((kgA G))))))), (a7, .inl (E.2 0, 128, .inl s_reckoner_letters)), (a8, .inl (E.2 0, 32, .inl s_reckoner_values))] : va_W) ++ kpool E G) sz 0 0 (fun (_ : Unit) => True) (fun _ => (([(a0, .inr (7, [.ref a6, .ref a5, .int s_many, .int s_seed])), (a1, .inr (4, [.ref a2, .ref a4, .ref a3, w1_3, w1_4, .int o_p1_readers, .int o_p1_day])), (a2, .inl (E.2 0, 1440, .inl o_p1_heights)), (a3, .inl (E.2 0, 1440, .inl o_p1_highest)), (a4, .inl (E.2 0, 1440, .inl o_p1_shapes)), (a5, .inr (5, [.ref a7, .ref a8])), (a6, .inl (E.2 3, 10, .inr (.inr (.inr (.inr ((kgA G))))))), (a7, .inl (E.2 0, 128, .inl o_reckoner_letters)), (a8, .inl (E.2 0, 32, .inl o_reckoner_values))] : va_W) ++ kpool E G)) := by
  refine kmetv rfl (Nat.le_of_ble_eq_true rfl) ?_
  intro p e s m args below meth c ls A Q X hnm hV hret hl
  have X : kC p s m c cX7_lay 5 RX7 args E A := X
  have hx := X.1
  have hb := X.2.1
  have hl : lv_has ls 5 [(0, .ref a0), (1, .ref a1), (2, .int p2)] := hl
  rw [f_X7_lay] at h
  refine lv_aload_n hx hb dX7_lay_0 rfl (lv_at hl 1 rfl) ?_
  refine kget X hV (ci := 4) inlX4 rfl 1 rfl 6 (by decide) mw_771 rfl dX7_lay_1 ?_
  refine lv_iload_n hx hb dX7_lay_4 rfl (lv_at hl 2 rfl) ?_
  refine lv_icmp_ne (tgt := 9) hx hb dX7_lay_5 (by decide) (fun c1 => ?_) (fun c1 => ?_)
  · have h2 := ieS c1 h
    clear h c1
    refine lv_aload_n hx hb dX7_lay_9 rfl (lv_at hl 1 rfl) ?_
    refine lv_iload_n hx hb dX7_lay_10 rfl (lv_at hl 2 rfl) ?_
    obtain ⟨o_readers11_4, o_day11_5, o_heights11_6, o_highest11_7, o_shapes11_8, hc9, h10⟩ := cb5_s h2
    clear h2
    have hY11 : kV E A s.heap _ _ ((([(a1, .inr (4, [.ref a2, .ref a4, .ref a3, w1_3, w1_4, .int s_p1_readers, .int s_p1_day])), (a2, .inl (E.2 0, 1440, .inl s_p1_heights)), (a3, .inl (E.2 0, 1440, .inl s_p1_highest)), (a4, .inl (E.2 0, 1440, .inl s_p1_shapes))] : va_W) ++ ([(a0, .inr (7, [.ref a6, .ref a5, .int s_many, .int s_seed])), (a5, .inr (5, [.ref a7, .ref a8])), (a6, .inl (E.2 3, 10, .inr (.inr (.inr (.inr ((kgA G))))))), (a7, .inl (E.2 0, 128, .inl s_reckoner_letters)), (a8, .inl (E.2 0, 32, .inl s_reckoner_values))] : va_W)) ++ kpool E G) := hV.subP [1, 2, 3, 4, 0, 5, 6, 7, 8] rfl rfl
    have hY12 := hY11.swapT
    clear hY11
    refine kgovT (krunV (rest := []) X hY12 (List.range _) (c_X4_clear l E _ a1 a2 a3 a4 (w1_3) (w1_4) s_p1_readers s_p1_day s_p1_heights s_p1_highest s_p1_shapes p2 o_readers11_4 o_day11_5 o_heights11_6 o_highest11_7 o_shapes11_8 hc9) mw_772 kb_X4_clear (ci := 4) rfl rfl (kndR _) (krg _ _) rfl hl.1 rfl (Nat.le_of_ble_eq_true rfl) dX7_lay_11 (by decide)) X hY12 (fun u16 H locs hV13 => ?_)
    clear hY12 hV
    have hV17 : kV E A s.heap H locs (([(a0, .inr (7, [.ref a6, .ref a5, .int s_many, .int s_seed])), (a1, .inr (4, [.ref a2, .ref a4, .ref a3, w1_3, w1_4, .int o_readers11_4, .int o_day11_5])), (a2, .inl (E.2 0, 1440, .inl o_heights11_6)), (a3, .inl (E.2 0, 1440, .inl o_highest11_7)), (a4, .inl (E.2 0, 1440, .inl o_shapes11_8)), (a5, .inr (5, [.ref a7, .ref a8])), (a6, .inl (E.2 3, 10, .inr (.inr (.inr (.inr ((kgA G))))))), (a7, .inl (E.2 0, 128, .inl s_reckoner_letters)), (a8, .inl (E.2 0, 32, .inl s_reckoner_values))] : va_W) ++ kpool E G) := hV13.subP [0, 5, 6, 7, 8, 1, 2, 3, 4] rfl rfl
    clear hV13
    refine lv_iconst (v := 0) hx hb dX7_lay_14 (by decide) ?_
    refine lv_istore_n (lv' := [(3, .int 0), (0, .ref a0), (1, .ref a1), (2, .int p2)]) hx hb dX7_lay_15 rfl hl (by decide) rfl (fun ls hl18 => ?_)
    clear hl
    have L16 : ∀ (n16 : Nat) (x3_19 : Int32) (p1_heights__20 : Nat → Int32) (p1_highest__21 : Nat → Int32) (p1_shapes__22 : Nat → Int32) (reckoner_letters__23 : Nat → Int32) (reckoner_values__24 : Nat → Int32) (H : Heap) (locs : List Loc) (ls : Array Slot), (f_X7_lay_L16 s_many s_seed p2 G o_readers11_4 o_day11_5  n16) x3_19 p1_heights__20 p1_highest__21 p1_shapes__22 reckoner_letters__23 reckoner_values__24 = some (o_p1_readers, o_p1_day, o_p1_heights, o_p1_highest, o_p1_shapes, o_reckoner_letters, o_reckoner_values) → kV E A s.heap H locs (([(a0, .inr (7, [.ref a6, .ref a5, .int s_many, .int s_seed])), (a1, .inr (4, [.ref a2, .ref a4, .ref a3, w1_3, w1_4, .int o_readers11_4, .int o_day11_5])), (a2, .inl (E.2 0, 1440, .inl p1_heights__20)), (a3, .inl (E.2 0, 1440, .inl p1_highest__21)), (a4, .inl (E.2 0, 1440, .inl p1_shapes__22)), (a5, .inr (5, [.ref a7, .ref a8])), (a6, .inl (E.2 3, 10, .inr (.inr (.inr (.inr ((kgA G))))))), (a7, .inl (E.2 0, 128, .inl reckoner_letters__23)), (a8, .inl (E.2 0, 32, .inl reckoner_values__24))] : va_W) ++ kpool E G) → lv_has ls 5 [(0, .ref a0), (1, .ref a1), (2, .int p2), (3, .int x3_19)] → W p l e r_X7_lay s m args below meth c H locs 0 0 Q (F0 m 16 ls []) := by
      intro n16
      induction n16 with
      | zero =>
        intro x3_19 p1_heights__20 p1_highest__21 p1_shapes__22 reckoner_letters__23 reckoner_values__24 H locs ls hB16 hVB16 hlB16
        rw [f_X7_lay_L16] at hB16
        exact nomatch hB16
      | succ n16 ih16 =>
        intro x3_19 p1_heights__20 p1_highest__21 p1_shapes__22 reckoner_letters__23 reckoner_values__24 H locs ls hB16 hVB16 hlB16
        rw [f_X7_lay_L16] at hB16
        refine lv_iload_n hx hb dX7_lay_16 rfl (lv_at hlB16 3 rfl) ?_
        refine lv_aload_n hx hb dX7_lay_17 rfl (lv_at hlB16 0 rfl) ?_
        refine kget X hVB16 (ci := 7) inlX7 rfl 0 rfl 2 (by decide) mw_75 rfl dX7_lay_18 ?_
        refine lv_icmp_ge (tgt := 67) hx hb dX7_lay_21 (by decide) (fun c25 => ?_) (fun c25 => ?_)
        · have h26 := itS c25 hB16
          clear hB16 c25
          obtain ⟨q28, q29, q30, q31, q32, q33, q34⟩ := tup7_s h26
          clear h26
          exact hret () _ _ _ _ trivial (by rw [← q28, ← q29, ← q30, ← q31, ← q32, ← q33, ← q34]; exact hVB16) dX7_lay_67
        · have h27 := ieS c25 hB16
          clear hB16 c25
          refine lv_aload_n hx hb dX7_lay_24 rfl (lv_at hlB16 0 rfl) ?_
          refine kget X hVB16 (ci := 7) inlX7 rfl 0 rfl 0 (by decide) mw_70 rfl dX7_lay_25 ?_
          refine lv_iload_n hx hb dX7_lay_28 rfl (lv_at hlB16 3 rfl) ?_
          obtain ⟨hi35, h36⟩ := gdN_s h27
          clear h27
          refine kaald X hVB16 6 3 rfl rfl hi35 rfl dX7_lay_29 ?_
          clear hi35
          refine W.eq (g2 := F0 m 30 ls [va_rf ((some (Int32.toNatClampNeg x3_19)).bind (kgA G))]) rfl ?_
          rcases oS_s h36 with ⟨hq39, h40⟩ | ⟨k37, s_38, hr41, hq39, hk42, ht43, h44⟩
          · skip
            refine ktopq hq39.symm ?_
            refine W.eq (g2 := F0 m 30 ls [.null]) rfl ?_
            refine lv_astoreN (lv' := [(4, .null), (0, .ref a0), (1, .ref a1), (2, .int p2), (3, .int x3_19)]) hx hb dX7_lay_30 hlB16 (by decide) rfl (fun ls hl45 => ?_)
            clear hlB16
            refine lv_aloadN hx hb dX7_lay_32 (lv_at hl45 0 rfl) ?_
            refine lv_ifnullN (tgt := 61) hx hb dX7_lay_34 (by decide) ?_
            obtain ⟨v61_46, e47, h48⟩ := nmI_s h40
            clear h40
            refine lv_iinc (v := v61_46) (lv' := [(3, .int v61_46), (4, .null), (0, .ref a0), (1, .ref a1), (2, .int p2)]) hx hb dX7_lay_61 hl45 (k := 4) rfl (by rw [e47]; rfl) (by decide) rfl (fun ls hl49 => ?_)
            clear hl45 e47
            refine lv_goto (tgt := 16) hx hb dX7_lay_64 (by decide) ?_
            exact ih16 v61_46 p1_heights__20 p1_highest__21 p1_shapes__22 reckoner_letters__23 reckoner_values__24 _ _ _ h48 hVB16 (lv_sub hl49 [2, 3, 4, 0] rfl)
          · skip
            obtain rfl := Option.some.inj hr41
            refine ktopq hq39.symm ?_
            refine W.eq (g2 := F0 m 30 ls [.ref s_38.1]) rfl ?_
            refine lv_astore (lv' := [(4, .ref s_38.1), (0, .ref a0), (1, .ref a1), (2, .int p2), (3, .int x3_19)]) hx hb dX7_lay_30 hlB16 (by decide) rfl (fun ls hl50 => ?_)
            clear hlB16
            refine lv_aload hx hb dX7_lay_32 (lv_at hl50 0 rfl) ?_
            refine lv_ifnull hx hb dX7_lay_34 ?_
            refine lv_aload hx hb dX7_lay_37 (lv_at hl50 0 rfl) ?_
            have hV51 := kdrL (X := [(a0, .inr (7, [.ref a6, .ref a5, .int s_many, .int s_seed])), (a1, .inr (4, [.ref a2, .ref a4, .ref a3, w1_3, w1_4, .int o_readers11_4, .int o_day11_5])), (a2, .inl (E.2 0, 1440, .inl p1_heights__20)), (a3, .inl (E.2 0, 1440, .inl p1_highest__21)), (a4, .inl (E.2 0, 1440, .inl p1_shapes__22)), (a5, .inr (5, [.ref a7, .ref a8])), (a6, .inl (E.2 3, 10, .inr (.inr (.inr (.inr ((kgA G))))))), (a7, .inl (E.2 0, 128, .inl reckoner_letters__23)), (a8, .inl (E.2 0, 32, .inl reckoner_values__24))]) hk42 ht43 hVB16
            refine kget X hV51 (ci := 8) inlX8 rfl 9 rfl 6 (by decide) mw_650 rfl dX7_lay_39 ?_
            clear hV51
            refine W.eq (g2 := F0 m 42 ls [va_rf ((some (Int32.toNatClampNeg x3_19)).bind (kgX G))]) rfl ?_
            rcases oT_s h44 with ⟨hq54, h55⟩ | ⟨k52, t_53, hr56, hq54, hk57, ht58, h59⟩
            · skip
              refine ktopq hq54.symm ?_
              refine W.eq (g2 := F0 m 42 ls [.null]) rfl ?_
              have hn60 := kgXn hq54
              refine lv_ifnullN (tgt := 61) hx hb dX7_lay_42 (by decide) ?_
              obtain ⟨v61_61, e62, h63⟩ := nmI_s h55
              clear h55
              refine lv_iinc (v := v61_61) (lv' := [(3, .int v61_61), (4, .ref s_38.1), (0, .ref a0), (1, .ref a1), (2, .int p2)]) hx hb dX7_lay_61 hl50 (k := 4) rfl (by rw [e62]; rfl) (by decide) rfl (fun ls hl64 => ?_)
              clear hl50 e62
              refine lv_goto (tgt := 16) hx hb dX7_lay_64 (by decide) ?_
              exact ih16 v61_61 p1_heights__20 p1_highest__21 p1_shapes__22 reckoner_letters__23 reckoner_values__24 _ _ _ h63 hVB16 (lv_sub hl64 [2, 3, 4, 0] rfl)
            · skip
              obtain rfl := Option.some.inj hr56
              refine ktopq hq54.symm ?_
              refine W.eq (g2 := F0 m 42 ls [.ref t_53.1.1]) rfl ?_
              refine lv_ifnull hx hb dX7_lay_42 ?_
              refine lv_aload hx hb dX7_lay_45 (lv_at hl50 0 rfl) ?_
              refine lv_iload_n hx hb dX7_lay_47 rfl (lv_at hl50 3 rfl) ?_
              have hV65 := kopL (X := [(a0, .inr (7, [.ref a6, .ref a5, .int s_many, .int s_seed])), (a1, .inr (4, [.ref a2, .ref a4, .ref a3, w1_3, w1_4, .int o_readers11_4, .int o_day11_5])), (a2, .inl (E.2 0, 1440, .inl p1_heights__20)), (a3, .inl (E.2 0, 1440, .inl p1_highest__21)), (a4, .inl (E.2 0, 1440, .inl p1_shapes__22)), (a5, .inr (5, [.ref a7, .ref a8])), (a6, .inl (E.2 3, 10, .inr (.inr (.inr (.inr ((kgA G))))))), (a7, .inl (E.2 0, 128, .inl reckoner_letters__23)), (a8, .inl (E.2 0, 32, .inl reckoner_values__24))]) hk42 ht43 ht58 hVB16
              have hV65 : kV E A s.heap _ _ (([(a0, .inr (7, [.ref a6, .ref a5, .int s_many, .int s_seed])), (a1, .inr (4, [.ref a2, .ref a4, .ref a3, w1_3, w1_4, .int o_readers11_4, .int o_day11_5])), (a2, .inl (E.2 0, 1440, .inl p1_heights__20)), (a3, .inl (E.2 0, 1440, .inl p1_highest__21)), (a4, .inl (E.2 0, 1440, .inl p1_shapes__22)), (a5, .inr (5, [.ref a7, .ref a8])), (a6, .inl (E.2 3, 10, .inr (.inr (.inr (.inr ((kgA G))))))), (a7, .inl (E.2 0, 128, .inl reckoner_letters__23)), (a8, .inl (E.2 0, 32, .inl reckoner_values__24)), ((s_38.1), .inr (8, [.int (s_38.2.1), .int (s_38.2.2.1), .int (s_38.2.2.2.1), .int (s_38.2.2.2.2.1), .int (s_38.2.2.2.2.2.1), .int (s_38.2.2.2.2.2.2), .ref (t_53.1.1)])), ((t_53.1.1), .inr (10, [.int (t_53.2.1), .ref (t_53.1.2.1), .ref (t_53.1.2.2.1), .ref (t_53.1.2.2.2)])), ((t_53.1.2.1), .inl (E.2 0, (t_53.2.2.1.1), .inl ((t_53.2.2.1.2)))), ((t_53.1.2.2.1), .inl (E.2 0, (t_53.2.2.2.1.1), .inl ((t_53.2.2.2.1.2)))), ((t_53.1.2.2.2), .inl (E.2 0, (t_53.2.2.2.2.1), .inl ((t_53.2.2.2.2.2))))] : va_W) ++ kpoolS E G (Int32.toNatClampNeg x3_19)) := hV65
              clear hVB16
              obtain ⟨r48_66, hc67, h68⟩ := cb1_s h59
              clear h59
              have hY69 : kV E A s.heap _ _ ((([((s_38.1), .inr (8, [.int (s_38.2.1), .int (s_38.2.2.1), .int (s_38.2.2.2.1), .int (s_38.2.2.2.2.1), .int (s_38.2.2.2.2.2.1), .int (s_38.2.2.2.2.2.2), .ref (t_53.1.1)]))] : va_W) ++ ([(a0, .inr (7, [.ref a6, .ref a5, .int s_many, .int s_seed])), (a1, .inr (4, [.ref a2, .ref a4, .ref a3, w1_3, w1_4, .int o_readers11_4, .int o_day11_5])), (a2, .inl (E.2 0, 1440, .inl p1_heights__20)), (a3, .inl (E.2 0, 1440, .inl p1_highest__21)), (a4, .inl (E.2 0, 1440, .inl p1_shapes__22)), (a5, .inr (5, [.ref a7, .ref a8])), (a6, .inl (E.2 3, 10, .inr (.inr (.inr (.inr ((kgA G))))))), (a7, .inl (E.2 0, 128, .inl reckoner_letters__23)), (a8, .inl (E.2 0, 32, .inl reckoner_values__24)), ((t_53.1.1), .inr (10, [.int (t_53.2.1), .ref (t_53.1.2.1), .ref (t_53.1.2.2.1), .ref (t_53.1.2.2.2)])), ((t_53.1.2.1), .inl (E.2 0, (t_53.2.2.1.1), .inl ((t_53.2.2.1.2)))), ((t_53.1.2.2.1), .inl (E.2 0, (t_53.2.2.2.1.1), .inl ((t_53.2.2.2.1.2)))), ((t_53.1.2.2.2), .inl (E.2 0, (t_53.2.2.2.2.1), .inl ((t_53.2.2.2.2.2))))] : va_W)) ++ kpoolS E G (Int32.toNatClampNeg x3_19)) := hV65.subP [9, 0, 1, 2, 3, 4, 5, 6, 7, 8, 10, 11, 12, 13] rfl rfl
              have hY70 := hY69.swapT
              clear hY69
              refine kgoiT (krunV (rest := []) X hY70 (List.range _) (c_X8_comesOn l E _ (s_38.1) (.int (s_38.2.1)) (.int (s_38.2.2.1)) (.int (s_38.2.2.2.1)) (.int (s_38.2.2.2.2.1)) (.int (s_38.2.2.2.2.2.1)) (.ref (t_53.1.1)) (s_38.2.2.2.2.2.2) p2 r48_66 hc67) mw_661 kb_X8_comesOn (ci := 8) rfl rfl (kndR _) (krg _ _) rfl hl50.1 rfl (Nat.le_of_ble_eq_true rfl) dX7_lay_48 (by decide)) X hY70 (fun u74 H locs hV71 => ?_)
              clear hY70 hV65
              have hV76 : kV E A s.heap H locs ((([(a0, .inr (7, [.ref a6, .ref a5, .int s_many, .int s_seed])), (a1, .inr (4, [.ref a2, .ref a4, .ref a3, w1_3, w1_4, .int o_readers11_4, .int o_day11_5])), (a2, .inl (E.2 0, 1440, .inl p1_heights__20)), (a3, .inl (E.2 0, 1440, .inl p1_highest__21)), (a4, .inl (E.2 0, 1440, .inl p1_shapes__22)), (a5, .inr (5, [.ref a7, .ref a8])), (a6, .inl (E.2 3, 10, .inr (.inr (.inr (.inr ((kgA G))))))), (a7, .inl (E.2 0, 128, .inl reckoner_letters__23)), (a8, .inl (E.2 0, 32, .inl reckoner_values__24))] : va_W) ++ (ksc s_38 (some (kta t_53)) :: ktc E t_53)) ++ kpoolS E G (Int32.toNatClampNeg x3_19)) := hV71.subP [0, 1, 2, 3, 4, 5, 6, 7, 8, 13, 9, 10, 11, 12] rfl rfl
              have hV75 : kV E A s.heap H locs (([(a0, .inr (7, [.ref a6, .ref a5, .int s_many, .int s_seed])), (a1, .inr (4, [.ref a2, .ref a4, .ref a3, w1_3, w1_4, .int o_readers11_4, .int o_day11_5])), (a2, .inl (E.2 0, 1440, .inl p1_heights__20)), (a3, .inl (E.2 0, 1440, .inl p1_highest__21)), (a4, .inl (E.2 0, 1440, .inl p1_shapes__22)), (a5, .inr (5, [.ref a7, .ref a8])), (a6, .inl (E.2 3, 10, .inr (.inr (.inr (.inr ((kgA G))))))), (a7, .inl (E.2 0, 128, .inl reckoner_letters__23)), (a8, .inl (E.2 0, 32, .inl reckoner_values__24))] : va_W) ++ kpool E G) := kclL hk42 ht43 ht58 hV76
              clear hV76
              clear hV71
              refine lv_if_eq (tgt := 61) hx hb dX7_lay_51 (by decide) (fun c77 => ?_) (fun c77 => ?_)
              · have h78 := itS c77 h68
                clear h68 c77
                obtain ⟨v61_80, e81, h82⟩ := nmI_s h78
                clear h78
                refine lv_iinc (v := v61_80) (lv' := [(3, .int v61_80), (4, .ref s_38.1), (0, .ref a0), (1, .ref a1), (2, .int p2)]) hx hb dX7_lay_61 hl50 (k := 4) rfl (by rw [e81]; rfl) (by decide) rfl (fun ls hl83 => ?_)
                clear hl50 e81
                refine lv_goto (tgt := 16) hx hb dX7_lay_64 (by decide) ?_
                exact ih16 v61_80 p1_heights__20 p1_highest__21 p1_shapes__22 reckoner_letters__23 reckoner_values__24 _ _ _ h82 hV75 (lv_sub hl83 [2, 3, 4, 0] rfl)
              · have h79 := ieS c77 h68
                clear h68 c77
                refine lv_aload_n hx hb dX7_lay_54 rfl (lv_at hl50 1 rfl) ?_
                refine lv_aload_n hx hb dX7_lay_55 rfl (lv_at hl50 2 rfl) ?_
                refine lv_aload hx hb dX7_lay_56 (lv_at hl50 0 rfl) ?_
                have hV84 := kopL (X := [(a0, .inr (7, [.ref a6, .ref a5, .int s_many, .int s_seed])), (a1, .inr (4, [.ref a2, .ref a4, .ref a3, w1_3, w1_4, .int o_readers11_4, .int o_day11_5])), (a2, .inl (E.2 0, 1440, .inl p1_heights__20)), (a3, .inl (E.2 0, 1440, .inl p1_highest__21)), (a4, .inl (E.2 0, 1440, .inl p1_shapes__22)), (a5, .inr (5, [.ref a7, .ref a8])), (a6, .inl (E.2 3, 10, .inr (.inr (.inr (.inr ((kgA G))))))), (a7, .inl (E.2 0, 128, .inl reckoner_letters__23)), (a8, .inl (E.2 0, 32, .inl reckoner_values__24))]) hk42 ht43 ht58 hV75
                have hV84 : kV E A s.heap _ _ (([(a0, .inr (7, [.ref a6, .ref a5, .int s_many, .int s_seed])), (a1, .inr (4, [.ref a2, .ref a4, .ref a3, w1_3, w1_4, .int o_readers11_4, .int o_day11_5])), (a2, .inl (E.2 0, 1440, .inl p1_heights__20)), (a3, .inl (E.2 0, 1440, .inl p1_highest__21)), (a4, .inl (E.2 0, 1440, .inl p1_shapes__22)), (a5, .inr (5, [.ref a7, .ref a8])), (a6, .inl (E.2 3, 10, .inr (.inr (.inr (.inr ((kgA G))))))), (a7, .inl (E.2 0, 128, .inl reckoner_letters__23)), (a8, .inl (E.2 0, 32, .inl reckoner_values__24)), ((s_38.1), .inr (8, [.int (s_38.2.1), .int (s_38.2.2.1), .int (s_38.2.2.2.1), .int (s_38.2.2.2.2.1), .int (s_38.2.2.2.2.2.1), .int (s_38.2.2.2.2.2.2), .ref (t_53.1.1)])), ((t_53.1.1), .inr (10, [.int (t_53.2.1), .ref (t_53.1.2.1), .ref (t_53.1.2.2.1), .ref (t_53.1.2.2.2)])), ((t_53.1.2.1), .inl (E.2 0, (t_53.2.2.1.1), .inl ((t_53.2.2.1.2)))), ((t_53.1.2.2.1), .inl (E.2 0, (t_53.2.2.2.1.1), .inl ((t_53.2.2.2.1.2)))), ((t_53.1.2.2.2), .inl (E.2 0, (t_53.2.2.2.2.1), .inl ((t_53.2.2.2.2.2))))] : va_W) ++ kpoolS E G (Int32.toNatClampNeg x3_19)) := hV84
                clear hV75
                obtain ⟨o_p1_heights58_85, o_p1_highest58_86, o_p1_shapes58_87, o_reckoner_letters58_88, o_reckoner_values58_89, hc90, h91⟩ := cb5_s h79
                clear h79
                have hY92 : kV E A s.heap _ _ ((([(a0, .inr (7, [.ref a6, .ref a5, .int s_many, .int s_seed])), (a1, .inr (4, [.ref a2, .ref a4, .ref a3, w1_3, w1_4, .int o_readers11_4, .int o_day11_5])), ((s_38.1), .inr (8, [.int (s_38.2.1), .int (s_38.2.2.1), .int (s_38.2.2.2.1), .int (s_38.2.2.2.2.1), .int (s_38.2.2.2.2.2.1), .int (s_38.2.2.2.2.2.2), .ref (t_53.1.1)])), (a2, .inl (E.2 0, 1440, .inl p1_heights__20)), (a3, .inl (E.2 0, 1440, .inl p1_highest__21)), (a4, .inl (E.2 0, 1440, .inl p1_shapes__22)), ((t_53.1.1), .inr (10, [.int (t_53.2.1), .ref (t_53.1.2.1), .ref (t_53.1.2.2.1), .ref (t_53.1.2.2.2)])), (a5, .inr (5, [.ref a7, .ref a8])), ((t_53.1.2.1), .inl (E.2 0, (t_53.2.2.1.1), .inl ((t_53.2.2.1.2)))), ((t_53.1.2.2.2), .inl (E.2 0, (t_53.2.2.2.2.1), .inl ((t_53.2.2.2.2.2)))), ((t_53.1.2.2.1), .inl (E.2 0, (t_53.2.2.2.1.1), .inl ((t_53.2.2.2.1.2)))), (a7, .inl (E.2 0, 128, .inl reckoner_letters__23)), (a8, .inl (E.2 0, 32, .inl reckoner_values__24))] : va_W) ++ ([(a6, .inl (E.2 3, 10, .inr (.inr (.inr (.inr ((kgA G)))))))] : va_W)) ++ kpoolS E G (Int32.toNatClampNeg x3_19)) := hV84.subP [0, 1, 9, 2, 3, 4, 10, 5, 11, 13, 12, 7, 8, 6] rfl rfl
                have hY93 := hY92.swapT
                clear hY92
                refine kgovT (krunV (rest := []) X hY93 (List.range _) (c_X7_layOne l E _ a0 a1 (s_38.1) a2 a3 a4 (t_53.1.1) a5 (t_53.1.2.1) (t_53.1.2.2.2) (t_53.1.2.2.1) a7 a8 (.ref a6) (.int s_many) (w1_3) (w1_4) (.int o_readers11_4) (t_53.2.2.1.1) (t_53.2.2.2.2.1) (t_53.2.2.2.1.1) s_seed o_day11_5 (s_38.2.1) (s_38.2.2.1) (s_38.2.2.2.1) (s_38.2.2.2.2.1) (s_38.2.2.2.2.2.1) (s_38.2.2.2.2.2.2) p1_heights__20 p1_highest__21 p1_shapes__22 (t_53.2.1) (t_53.2.2.1.2) (t_53.2.2.2.2.2) (t_53.2.2.2.1.2) reckoner_letters__23 reckoner_values__24 o_p1_heights58_85 o_p1_highest58_86 o_p1_shapes58_87 o_reckoner_letters58_88 o_reckoner_values58_89 hc90) mw_779 kb_X7_layOne (ci := 7) rfl rfl (kndR _) (krg _ _) rfl hl50.1 rfl (Nat.le_of_ble_eq_true rfl) dX7_lay_58 (by decide)) X hY93 (fun u97 H locs hV94 => ?_)
                clear hY93 hV84
                have hV99 : kV E A s.heap H locs ((([(a0, .inr (7, [.ref a6, .ref a5, .int s_many, .int s_seed])), (a1, .inr (4, [.ref a2, .ref a4, .ref a3, w1_3, w1_4, .int o_readers11_4, .int o_day11_5])), (a2, .inl (E.2 0, 1440, .inl o_p1_heights58_85)), (a3, .inl (E.2 0, 1440, .inl o_p1_highest58_86)), (a4, .inl (E.2 0, 1440, .inl o_p1_shapes58_87)), (a5, .inr (5, [.ref a7, .ref a8])), (a6, .inl (E.2 3, 10, .inr (.inr (.inr (.inr ((kgA G))))))), (a7, .inl (E.2 0, 128, .inl o_reckoner_letters58_88)), (a8, .inl (E.2 0, 32, .inl o_reckoner_values58_89))] : va_W) ++ (ksc s_38 (some (kta t_53)) :: ktc E t_53)) ++ kpoolS E G (Int32.toNatClampNeg x3_19)) := hV94.subP [1, 2, 4, 5, 6, 8, 0, 12, 13, 3, 7, 9, 11, 10] rfl rfl
                have hV98 : kV E A s.heap H locs (([(a0, .inr (7, [.ref a6, .ref a5, .int s_many, .int s_seed])), (a1, .inr (4, [.ref a2, .ref a4, .ref a3, w1_3, w1_4, .int o_readers11_4, .int o_day11_5])), (a2, .inl (E.2 0, 1440, .inl o_p1_heights58_85)), (a3, .inl (E.2 0, 1440, .inl o_p1_highest58_86)), (a4, .inl (E.2 0, 1440, .inl o_p1_shapes58_87)), (a5, .inr (5, [.ref a7, .ref a8])), (a6, .inl (E.2 3, 10, .inr (.inr (.inr (.inr ((kgA G))))))), (a7, .inl (E.2 0, 128, .inl o_reckoner_letters58_88)), (a8, .inl (E.2 0, 32, .inl o_reckoner_values58_89))] : va_W) ++ kpool E G) := kclL hk42 ht43 ht58 hV99
                clear hV99
                clear hV94
                obtain ⟨v61_100, e101, h102⟩ := nmI_s h91
                clear h91
                refine lv_iinc (v := v61_100) (lv' := [(3, .int v61_100), (4, .ref s_38.1), (0, .ref a0), (1, .ref a1), (2, .int p2)]) hx hb dX7_lay_61 hl50 (k := 4) rfl (by rw [e101]; rfl) (by decide) rfl (fun ls hl103 => ?_)
                clear hl50 e101
                refine lv_goto (tgt := 16) hx hb dX7_lay_64 (by decide) ?_
                exact ih16 v61_100 o_p1_heights58_85 o_p1_highest58_86 o_p1_shapes58_87 o_reckoner_letters58_88 o_reckoner_values58_89 _ _ _ h102 hV98 (lv_sub hl103 [2, 3, 4, 0] rfl)
    exact L16 FU 0 o_heights11_6 o_highest11_7 o_shapes11_8 s_reckoner_letters s_reckoner_values _ _ _ h10 hV17 (lv_sub hl18 [1, 2, 3, 0] rfl)
  · have h3 := itS c1 h
    clear h c1
    obtain ⟨q104, q105, q106, q107, q108, q109, q110⟩ := tup7_s h3
    clear h3
    exact hret () _ _ _ _ trivial (by rw [← q104, ← q105, ← q106, ← q107, ← q108, ← q109, ← q110]; exact hV) dX7_lay_8
noncomputable def f_X2_alone_J112 (p2 : Int32) (fallen__2 : Nat → Int32) (reckoner_letters__3 : Nat → Int32) (reckoner_values__4 : Nat → Int32)  (x3_6 : Int32) (x5_7 : Int32) : Option (Int32 × (Nat → Int32) × (Nat → Int32) × (Nat → Int32)) :=
    if p2 = 0 then
    (some (x3_6, fallen__2, reckoner_letters__3, reckoner_values__4))
    else
    (some (x5_7, fallen__2, reckoner_letters__3, reckoner_values__4))
noncomputable def f_X2_alone_J106 (x3_19 : Int32) (K46 : Int32 → Option (Int32 × (Nat → Int32) × (Nat → Int32) × (Nat → Int32))) (K112 : Int32 → Int32 → Option (Int32 × (Nat → Int32) × (Nat → Int32) × (Nat → Int32))) (x4_30 : Int32) (x5_31 : Int32) : Option (Int32 × (Nat → Int32) × (Nat → Int32) × (Nat → Int32)) :=
    if x4_30 = 1 then
    (K112 x3_19 x5_31)
    else
    (nmI (x3_19 + 1) fun v123_35 =>
      K46 v123_35)
noncomputable def f_X2_alone_J93 (x4_39 : Int32) (K63 : Int32 → Int32 → Int32 → Option (Int32 × (Nat → Int32) × (Nat → Int32) × (Nat → Int32))) (x6_49 : Int32) : Option (Int32 × (Nat → Int32) × (Nat → Int32) × (Nat → Int32)) :=
    nmI (x4_39 + 1) fun v93_50 =>
    nmI (x6_49 + 1) fun v100_55 =>
    K63 v93_50 x6_49 v100_55
noncomputable def f_X2_alone_L63 (fallen__2 : Nat → Int32) (x3_19 : Int32) (K106 : Int32 → Int32 → Option (Int32 × (Nat → Int32) × (Nat → Int32) × (Nat → Int32))) : Nat → Int32 → Int32 → Int32 → Option (Int32 × (Nat → Int32) × (Nat → Int32) × (Nat → Int32))
  | 0, _, _, _ => none
  | n63 + 1, x4_39, x5_40, x6_41 =>
    if 6 ≤ x6_41 then
    (K106 x4_39 x5_40)
    else
    (rdI fallen__2 6 x6_41 fun v76_45 =>
      if v76_45 = (-2) then
      ((f_X2_alone_J93 x4_39 (f_X2_alone_L63 fallen__2 x3_19 K106 n63)) x6_41)
      else
      (rdI fallen__2 6 x6_41 fun v88_62 =>
        if v88_62 ≤ x3_19 then
        (nmI (x6_41 + 1) fun v100_69 =>
          (f_X2_alone_L63 fallen__2 x3_19 K106 n63) x4_39 x5_40 v100_69)
        else
        ((f_X2_alone_J93 x4_39 (f_X2_alone_L63 fallen__2 x3_19 K106 n63)) x6_41)))
noncomputable def f_X2_alone_L46 (s_many : Int32) (fallen__2 : Nat → Int32) (reckoner_letters__3 : Nat → Int32) (reckoner_values__4 : Nat → Int32) (K112 : Int32 → Int32 → Option (Int32 × (Nat → Int32) × (Nat → Int32) × (Nat → Int32))) : Nat → Int32 → Option (Int32 × (Nat → Int32) × (Nat → Int32) × (Nat → Int32))
  | 0, _ => none
  | n46 + 1, x3_19 =>
    if s_many ≤ x3_19 then
    (some ((-1), fallen__2, reckoner_letters__3, reckoner_values__4))
    else
    ((f_X2_alone_L63 fallen__2 x3_19 (f_X2_alone_J106 x3_19 (f_X2_alone_L46 s_many fallen__2 reckoner_letters__3 reckoner_values__4 K112 n46) K112) FU) 0 (-1) 0)
noncomputable def f_X2_alone_J44 (s_many : Int32) (p2 : Int32)  (fallen__2 : Nat → Int32) (reckoner_letters__3 : Nat → Int32) (reckoner_values__4 : Nat → Int32) : Option (Int32 × (Nat → Int32) × (Nat → Int32) × (Nat → Int32)) :=
    (f_X2_alone_L46 s_many fallen__2 reckoner_letters__3 reckoner_values__4 (f_X2_alone_J112 p2 fallen__2 reckoner_letters__3 reckoner_values__4 ) FU) 0
noncomputable def f_X2_alone_L2 (s_many : Int32) (s_days : Nat → Int32) (s_shifts : Nat → Int32) (p1 : Int32) (G : kG) (K44 : (Nat → Int32) → (Nat → Int32) → (Nat → Int32) → Option (Int32 × (Nat → Int32) × (Nat → Int32) × (Nat → Int32))) : Nat → Int32 → (Nat → Int32) → (Nat → Int32) → (Nat → Int32) → Option (Int32 × (Nat → Int32) × (Nat → Int32) × (Nat → Int32))
  | 0, _, _, _, _ => none
  | n2 + 1, x3_73, fallen__74, reckoner_letters__75, reckoner_values__76 =>
    if 6 ≤ x3_73 then
    (K44 fallen__74 reckoner_letters__75 reckoner_values__76)
    else
    (gdN 6 x3_73 <|
      oT G (some (14 + (Int32.toNatClampNeg x3_73)))
      (wrI fallen__74 6 x3_73 0 fun g37_91 =>
        nmI (x3_73 + 1) fun v38_96 =>
        (f_X2_alone_L2 s_many s_days s_shifts p1 G K44 n2) v38_96 g37_91 reckoner_letters__75 reckoner_values__76)
      fun _ t_83 =>
      (gdN 6 x3_73 <|
        cb3 (f_X2_fallOf (t_83.2.2.1.1) (t_83.2.2.2.2.1) (t_83.2.2.2.1.1) s_many (t_83.2.2.1.2) (t_83.2.2.2.2.2) (t_83.2.2.2.1.2) s_days s_shifts reckoner_letters__75 reckoner_values__76 p1) fun r34_103 o_reckoner_letters34_104 o_reckoner_values34_105 =>
        wrI fallen__74 6 x3_73 r34_103 fun g37_116 =>
        nmI (x3_73 + 1) fun v38_121 =>
        (f_X2_alone_L2 s_many s_days s_shifts p1 G K44 n2) v38_121 g37_116 o_reckoner_letters34_104 o_reckoner_values34_105))
noncomputable def f_X2_alone (G : kG) (s_many : Int32) (s_days : Nat → Int32) (s_fallen : Nat → Int32) (s_shifts : Nat → Int32) (s_reckoner_letters : Nat → Int32) (s_reckoner_values : Nat → Int32) (p1 : Int32) (p2 : Int32) : Option (Int32 × (Nat → Int32) × (Nat → Int32) × (Nat → Int32)) :=
    (f_X2_alone_L2 s_many s_days s_shifts p1 G (f_X2_alone_J44 s_many p2 ) FU) 0 s_fallen s_reckoner_letters s_reckoner_values
abbrev r_X2_alone : Room := { frames := 5, cells := 0, slots := 0, locals := 117 }
set_option maxHeartbeats 4000000 in
set_option maxRecDepth 100000 in
theorem c_X2_alone (l : Launch) (E : kE) (sz : Nat) (a0 a1 a2 a3 a4 a5 a6 a7 : Nat) (G : kG) (s_many : Int32) (s_days : Nat → Int32) (s_fallen : Nat → Int32) (s_shifts : Nat → Int32) (s_reckoner_letters : Nat → Int32) (s_reckoner_values : Nat → Int32) (p1 : Int32) (p2 : Int32) (r : Int32) (o_fallen : Nat → Int32) (o_reckoner_letters : Nat → Int32) (o_reckoner_values : Nat → Int32) (h : f_X2_alone G s_many s_days s_fallen s_shifts s_reckoner_letters s_reckoner_values p1 p2 = some (r, o_fallen, o_reckoner_letters, o_reckoner_values)) : kMi l yX2_alone cX2_alone 7 (some .int) r_X2_alone [.ref a0, .int p1, .int p2] E (([(a0, .inr (2, [.ref a1, .ref a4, .ref a2, .ref a3, .ref a5, .int s_many])), (a1, .inl (E.2 0, 30, .inl s_days)), (a2, .inl (E.2 0, 6, .inl s_fallen)), (a3, .inr (5, [.ref a6, .ref a7])), (a4, .inl (E.2 0, 30, .inl s_shifts)), (a5, .inl (E.2 4, 6, .inr (.inr (.inr (.inr ((kgT G))))))), (a6, .inl (E.2 0, 128, .inl s_reckoner_letters)), (a7, .inl (E.2 0, 32, .inl s_reckoner_values))] : va_W) ++ kpool E G) sz 0 0 (fun x (_ : Unit) => x = r) (fun _ => (([(a0, .inr (2, [.ref a1, .ref a4, .ref a2, .ref a3, .ref a5, .int s_many])), (a1, .inl (E.2 0, 30, .inl s_days)), (a2, .inl (E.2 0, 6, .inl o_fallen)), (a3, .inr (5, [.ref a6, .ref a7])), (a4, .inl (E.2 0, 30, .inl s_shifts)), (a5, .inl (E.2 4, 6, .inr (.inr (.inr (.inr ((kgT G))))))), (a6, .inl (E.2 0, 128, .inl o_reckoner_letters)), (a7, .inl (E.2 0, 32, .inl o_reckoner_values))] : va_W) ++ kpool E G)) := by
  refine kmeti rfl (Nat.le_of_ble_eq_true rfl) ?_
  intro p e s m args below meth c ls A Q X hV hret hl
  have X : kC p s m c cX2_alone 7 RX2 args E A := X
  have hx := X.1
  have hb := X.2.1
  have hl : lv_has ls 7 [(0, .ref a0), (1, .int p1), (2, .int p2)] := hl
  rw [f_X2_alone] at h
  refine lv_iconst (v := 0) hx hb dX2_alone_0 (by decide) ?_
  refine lv_istore_n (lv' := [(3, .int 0), (0, .ref a0), (1, .int p1), (2, .int p2)]) hx hb dX2_alone_1 rfl hl (by decide) rfl (fun ls hl1 => ?_)
  clear hl
  have J44 : ∀ (fallen__2 : Nat → Int32) (reckoner_letters__3 : Nat → Int32) (reckoner_values__4 : Nat → Int32) (H : Heap) (locs : List Loc) (ls : Array Slot), (f_X2_alone_J44 s_many p2 ) fallen__2 reckoner_letters__3 reckoner_values__4 = some (r, o_fallen, o_reckoner_letters, o_reckoner_values) → kV E A s.heap H locs (([(a0, .inr (2, [.ref a1, .ref a4, .ref a2, .ref a3, .ref a5, .int s_many])), (a1, .inl (E.2 0, 30, .inl s_days)), (a2, .inl (E.2 0, 6, .inl fallen__2)), (a3, .inr (5, [.ref a6, .ref a7])), (a4, .inl (E.2 0, 30, .inl s_shifts)), (a5, .inl (E.2 4, 6, .inr (.inr (.inr (.inr ((kgT G))))))), (a6, .inl (E.2 0, 128, .inl reckoner_letters__3)), (a7, .inl (E.2 0, 32, .inl reckoner_values__4))] : va_W) ++ kpool E G) → lv_has ls 7 [(0, .ref a0), (2, .int p2)] → W p l e r_X2_alone s m args below meth c H locs 0 0 Q (F0 m 44 ls []) := by
    intro fallen__2 reckoner_letters__3 reckoner_values__4 H locs ls hB44 hVB44 hlB44
    rw [f_X2_alone_J44] at hB44
    refine lv_iconst (v := 0) hx hb dX2_alone_44 (by decide) ?_
    refine lv_istore_n (lv' := [(3, .int 0), (0, .ref a0), (2, .int p2)]) hx hb dX2_alone_45 rfl hlB44 (by decide) rfl (fun ls hl5 => ?_)
    clear hlB44
    have J112 : ∀ (x3_6 : Int32) (x5_7 : Int32) (H : Heap) (locs : List Loc) (ls : Array Slot), (f_X2_alone_J112 p2 fallen__2 reckoner_letters__3 reckoner_values__4 ) x3_6 x5_7 = some (r, o_fallen, o_reckoner_letters, o_reckoner_values) → kV E A s.heap H locs (([(a0, .inr (2, [.ref a1, .ref a4, .ref a2, .ref a3, .ref a5, .int s_many])), (a1, .inl (E.2 0, 30, .inl s_days)), (a2, .inl (E.2 0, 6, .inl fallen__2)), (a3, .inr (5, [.ref a6, .ref a7])), (a4, .inl (E.2 0, 30, .inl s_shifts)), (a5, .inl (E.2 4, 6, .inr (.inr (.inr (.inr ((kgT G))))))), (a6, .inl (E.2 0, 128, .inl reckoner_letters__3)), (a7, .inl (E.2 0, 32, .inl reckoner_values__4))] : va_W) ++ kpool E G) → lv_has ls 7 [(2, .int p2), (3, .int x3_6), (5, .int x5_7)] → W p l e r_X2_alone s m args below meth c H locs 0 0 Q (F0 m 112 ls []) := by
      intro x3_6 x5_7 H locs ls hB112 hVB112 hlB112
      rw [f_X2_alone_J112] at hB112
      refine lv_iload_n hx hb dX2_alone_112 rfl (lv_at hlB112 0 rfl) ?_
      refine lv_if_ne (tgt := 120) hx hb dX2_alone_113 (by decide) (fun c8 => ?_) (fun c8 => ?_)
      · have h9 := ieS c8 hB112
        clear hB112 c8
        refine lv_iload hx hb dX2_alone_120 (lv_at hlB112 2 rfl) ?_
        obtain ⟨q11, q12, q13, q14⟩ := tup4_s h9
        clear h9
        exact hret _ () _ _ _ _ q11 rfl (by rw [← q12, ← q13, ← q14]; exact hVB112) dX2_alone_122
      · have h10 := itS c8 hB112
        clear hB112 c8
        refine lv_iload_n hx hb dX2_alone_116 rfl (lv_at hlB112 1 rfl) ?_
        refine lv_goto (tgt := 122) hx hb dX2_alone_117 (by decide) ?_
        obtain ⟨q15, q16, q17, q18⟩ := tup4_s h10
        clear h10
        exact hret _ () _ _ _ _ q15 rfl (by rw [← q16, ← q17, ← q18]; exact hVB112) dX2_alone_122
    have L46 : ∀ (n46 : Nat) (x3_19 : Int32) (H : Heap) (locs : List Loc) (ls : Array Slot), (f_X2_alone_L46 s_many fallen__2 reckoner_letters__3 reckoner_values__4 (f_X2_alone_J112 p2 fallen__2 reckoner_letters__3 reckoner_values__4 ) n46) x3_19 = some (r, o_fallen, o_reckoner_letters, o_reckoner_values) → kV E A s.heap H locs (([(a0, .inr (2, [.ref a1, .ref a4, .ref a2, .ref a3, .ref a5, .int s_many])), (a1, .inl (E.2 0, 30, .inl s_days)), (a2, .inl (E.2 0, 6, .inl fallen__2)), (a3, .inr (5, [.ref a6, .ref a7])), (a4, .inl (E.2 0, 30, .inl s_shifts)), (a5, .inl (E.2 4, 6, .inr (.inr (.inr (.inr ((kgT G))))))), (a6, .inl (E.2 0, 128, .inl reckoner_letters__3)), (a7, .inl (E.2 0, 32, .inl reckoner_values__4))] : va_W) ++ kpool E G) → lv_has ls 7 [(0, .ref a0), (2, .int p2), (3, .int x3_19)] → W p l e r_X2_alone s m args below meth c H locs 0 0 Q (F0 m 46 ls []) := by
      intro n46
      induction n46 with
      | zero =>
        intro x3_19 H locs ls hB46 hVB46 hlB46
        rw [f_X2_alone_L46] at hB46
        exact nomatch hB46
      | succ n46 ih46 =>
        intro x3_19 H locs ls hB46 hVB46 hlB46
        rw [f_X2_alone_L46] at hB46
        refine lv_iload_n hx hb dX2_alone_46 rfl (lv_at hlB46 2 rfl) ?_
        refine lv_aload_n hx hb dX2_alone_47 rfl (lv_at hlB46 0 rfl) ?_
        refine kget X hVB46 (ci := 2) inlX2 rfl 0 rfl 5 (by decide) mw_126 rfl dX2_alone_48 ?_
        refine lv_icmp_ge (tgt := 129) hx hb dX2_alone_51 (by decide) (fun c20 => ?_) (fun c20 => ?_)
        · have h21 := itS c20 hB46
          clear hB46 c20
          refine lv_iconst (v := (-1)) hx hb dX2_alone_129 (by decide) ?_
          obtain ⟨q23, q24, q25, q26⟩ := tup4_s h21
          clear h21
          exact hret _ () _ _ _ _ q23 rfl (by rw [← q24, ← q25, ← q26]; exact hVB46) dX2_alone_130
        · have h22 := ieS c20 hB46
          clear hB46 c20
          refine lv_iconst (v := 0) hx hb dX2_alone_54 (by decide) ?_
          refine lv_istore (lv' := [(4, .int 0), (0, .ref a0), (2, .int p2), (3, .int x3_19)]) hx hb dX2_alone_55 hlB46 (by decide) rfl (fun ls hl27 => ?_)
          clear hlB46
          refine lv_iconst (v := (-1)) hx hb dX2_alone_57 (by decide) ?_
          refine lv_istore (lv' := [(5, .int (-1)), (4, .int 0), (0, .ref a0), (2, .int p2), (3, .int x3_19)]) hx hb dX2_alone_58 hl27 (by decide) rfl (fun ls hl28 => ?_)
          clear hl27
          refine lv_iconst (v := 0) hx hb dX2_alone_60 (by decide) ?_
          refine lv_istore (lv' := [(6, .int 0), (5, .int (-1)), (4, .int 0), (0, .ref a0), (2, .int p2), (3, .int x3_19)]) hx hb dX2_alone_61 hl28 (by decide) rfl (fun ls hl29 => ?_)
          clear hl28
          have J106 : ∀ (x4_30 : Int32) (x5_31 : Int32) (H : Heap) (locs : List Loc) (ls : Array Slot), (f_X2_alone_J106 x3_19 (f_X2_alone_L46 s_many fallen__2 reckoner_letters__3 reckoner_values__4 (f_X2_alone_J112 p2 fallen__2 reckoner_letters__3 reckoner_values__4 ) n46) (f_X2_alone_J112 p2 fallen__2 reckoner_letters__3 reckoner_values__4 )) x4_30 x5_31 = some (r, o_fallen, o_reckoner_letters, o_reckoner_values) → kV E A s.heap H locs (([(a0, .inr (2, [.ref a1, .ref a4, .ref a2, .ref a3, .ref a5, .int s_many])), (a1, .inl (E.2 0, 30, .inl s_days)), (a2, .inl (E.2 0, 6, .inl fallen__2)), (a3, .inr (5, [.ref a6, .ref a7])), (a4, .inl (E.2 0, 30, .inl s_shifts)), (a5, .inl (E.2 4, 6, .inr (.inr (.inr (.inr ((kgT G))))))), (a6, .inl (E.2 0, 128, .inl reckoner_letters__3)), (a7, .inl (E.2 0, 32, .inl reckoner_values__4))] : va_W) ++ kpool E G) → lv_has ls 7 [(0, .ref a0), (2, .int p2), (3, .int x3_19), (4, .int x4_30), (5, .int x5_31)] → W p l e r_X2_alone s m args below meth c H locs 0 0 Q (F0 m 106 ls []) := by
            intro x4_30 x5_31 H locs ls hB106 hVB106 hlB106
            rw [f_X2_alone_J106] at hB106
            refine lv_iload hx hb dX2_alone_106 (lv_at hlB106 3 rfl) ?_
            refine lv_iconst (v := 1) hx hb dX2_alone_108 (by decide) ?_
            refine lv_icmp_ne (tgt := 123) hx hb dX2_alone_109 (by decide) (fun c32 => ?_) (fun c32 => ?_)
            · have h33 := ieS c32 hB106
              clear hB106 c32
              obtain ⟨v123_35, e36, h37⟩ := nmI_s h33
              clear h33
              refine lv_iinc (v := v123_35) (lv' := [(3, .int v123_35), (0, .ref a0), (2, .int p2), (4, .int x4_30), (5, .int x5_31)]) hx hb dX2_alone_123 hlB106 (k := 2) rfl (by rw [e36]; rfl) (by decide) rfl (fun ls hl38 => ?_)
              clear hlB106 e36
              refine lv_goto (tgt := 46) hx hb dX2_alone_126 (by decide) ?_
              exact ih46 v123_35 _ _ _ h37 hVB106 (lv_sub hl38 [1, 2, 0] rfl)
            · have h34 := itS c32 hB106
              clear hB106 c32
              exact J112 x3_19 x5_31 _ _ _ h34 hVB106 (lv_sub hlB106 [1, 2, 4] rfl)
          have L63 : ∀ (n63 : Nat) (x4_39 : Int32) (x5_40 : Int32) (x6_41 : Int32) (H : Heap) (locs : List Loc) (ls : Array Slot), (f_X2_alone_L63 fallen__2 x3_19 (f_X2_alone_J106 x3_19 (f_X2_alone_L46 s_many fallen__2 reckoner_letters__3 reckoner_values__4 (f_X2_alone_J112 p2 fallen__2 reckoner_letters__3 reckoner_values__4 ) n46) (f_X2_alone_J112 p2 fallen__2 reckoner_letters__3 reckoner_values__4 )) n63) x4_39 x5_40 x6_41 = some (r, o_fallen, o_reckoner_letters, o_reckoner_values) → kV E A s.heap H locs (([(a0, .inr (2, [.ref a1, .ref a4, .ref a2, .ref a3, .ref a5, .int s_many])), (a1, .inl (E.2 0, 30, .inl s_days)), (a2, .inl (E.2 0, 6, .inl fallen__2)), (a3, .inr (5, [.ref a6, .ref a7])), (a4, .inl (E.2 0, 30, .inl s_shifts)), (a5, .inl (E.2 4, 6, .inr (.inr (.inr (.inr ((kgT G))))))), (a6, .inl (E.2 0, 128, .inl reckoner_letters__3)), (a7, .inl (E.2 0, 32, .inl reckoner_values__4))] : va_W) ++ kpool E G) → lv_has ls 7 [(0, .ref a0), (2, .int p2), (3, .int x3_19), (4, .int x4_39), (5, .int x5_40), (6, .int x6_41)] → W p l e r_X2_alone s m args below meth c H locs 0 0 Q (F0 m 63 ls []) := by
            intro n63
            induction n63 with
            | zero =>
              intro x4_39 x5_40 x6_41 H locs ls hB63 hVB63 hlB63
              rw [f_X2_alone_L63] at hB63
              exact nomatch hB63
            | succ n63 ih63 =>
              intro x4_39 x5_40 x6_41 H locs ls hB63 hVB63 hlB63
              rw [f_X2_alone_L63] at hB63
              refine lv_iload hx hb dX2_alone_63 (lv_at hlB63 5 rfl) ?_
              refine lv_bipush (v := 6) hx hb dX2_alone_65 (by decide) ?_
              refine lv_icmp_ge (tgt := 106) hx hb dX2_alone_67 (by decide) (fun c42 => ?_) (fun c42 => ?_)
              · have h43 := itS c42 hB63
                clear hB63 c42
                exact J106 x4_39 x5_40 _ _ _ h43 hVB63 (lv_sub hlB63 [0, 1, 2, 3, 4] rfl)
              · have h44 := ieS c42 hB63
                clear hB63 c42
                refine lv_aload_n hx hb dX2_alone_70 rfl (lv_at hlB63 0 rfl) ?_
                refine kget X hVB63 (ci := 2) inlX2 rfl 0 rfl 2 (by decide) mw_121 rfl dX2_alone_71 ?_
                refine lv_iload hx hb dX2_alone_74 (lv_at hlB63 5 rfl) ?_
                obtain ⟨hi46, v76_45, e47, h48⟩ := rdI_s h44
                clear h44
                refine kiald X hVB63 2 rfl hi46 e47 dX2_alone_76 ?_
                clear hi46 e47
                refine lv_bipush (v := (-2)) hx hb dX2_alone_77 (by decide) ?_
                have J93 : ∀ (x6_49 : Int32) (H : Heap) (locs : List Loc) (ls : Array Slot), (f_X2_alone_J93 x4_39 (f_X2_alone_L63 fallen__2 x3_19 (f_X2_alone_J106 x3_19 (f_X2_alone_L46 s_many fallen__2 reckoner_letters__3 reckoner_values__4 (f_X2_alone_J112 p2 fallen__2 reckoner_letters__3 reckoner_values__4 ) n46) (f_X2_alone_J112 p2 fallen__2 reckoner_letters__3 reckoner_values__4 )) n63)) x6_49 = some (r, o_fallen, o_reckoner_letters, o_reckoner_values) → kV E A s.heap H locs (([(a0, .inr (2, [.ref a1, .ref a4, .ref a2, .ref a3, .ref a5, .int s_many])), (a1, .inl (E.2 0, 30, .inl s_days)), (a2, .inl (E.2 0, 6, .inl fallen__2)), (a3, .inr (5, [.ref a6, .ref a7])), (a4, .inl (E.2 0, 30, .inl s_shifts)), (a5, .inl (E.2 4, 6, .inr (.inr (.inr (.inr ((kgT G))))))), (a6, .inl (E.2 0, 128, .inl reckoner_letters__3)), (a7, .inl (E.2 0, 32, .inl reckoner_values__4))] : va_W) ++ kpool E G) → lv_has ls 7 [(0, .ref a0), (2, .int p2), (3, .int x3_19), (4, .int x4_39), (6, .int x6_49)] → W p l e r_X2_alone s m args below meth c H locs 0 0 Q (F0 m 93 ls []) := by
                  intro x6_49 H locs ls hB93 hVB93 hlB93
                  rw [f_X2_alone_J93] at hB93
                  obtain ⟨v93_50, e51, h52⟩ := nmI_s hB93
                  clear hB93
                  refine lv_iinc (v := v93_50) (lv' := [(4, .int v93_50), (0, .ref a0), (2, .int p2), (3, .int x3_19), (6, .int x6_49)]) hx hb dX2_alone_93 hlB93 (k := 3) rfl (by rw [e51]; rfl) (by decide) rfl (fun ls hl53 => ?_)
                  clear hlB93 e51
                  refine lv_iload hx hb dX2_alone_96 (lv_at hl53 4 rfl) ?_
                  refine lv_istore (lv' := [(5, .int x6_49), (4, .int v93_50), (0, .ref a0), (2, .int p2), (3, .int x3_19), (6, .int x6_49)]) hx hb dX2_alone_98 hl53 (by decide) rfl (fun ls hl54 => ?_)
                  clear hl53
                  obtain ⟨v100_55, e56, h57⟩ := nmI_s h52
                  clear h52
                  refine lv_iinc (v := v100_55) (lv' := [(6, .int v100_55), (5, .int x6_49), (4, .int v93_50), (0, .ref a0), (2, .int p2), (3, .int x3_19)]) hx hb dX2_alone_100 hl54 (k := 5) rfl (by rw [e56]; rfl) (by decide) rfl (fun ls hl58 => ?_)
                  clear hl54 e56
                  refine lv_goto (tgt := 63) hx hb dX2_alone_103 (by decide) ?_
                  exact ih63 v93_50 x6_49 v100_55 _ _ _ h57 hVB93 (lv_sub hl58 [3, 4, 5, 2, 1, 0] rfl)
                refine lv_icmp_eq (tgt := 93) hx hb dX2_alone_79 (by decide) (fun c59 => ?_) (fun c59 => ?_)
                · have h60 := itS c59 h48
                  clear h48 c59
                  exact J93 x6_41 _ _ _ h60 hVB63 (lv_sub hlB63 [0, 1, 2, 3, 5] rfl)
                · have h61 := ieS c59 h48
                  clear h48 c59
                  refine lv_aload_n hx hb dX2_alone_82 rfl (lv_at hlB63 0 rfl) ?_
                  refine kget X hVB63 (ci := 2) inlX2 rfl 0 rfl 2 (by decide) mw_121 rfl dX2_alone_83 ?_
                  refine lv_iload hx hb dX2_alone_86 (lv_at hlB63 5 rfl) ?_
                  obtain ⟨hi63, v88_62, e64, h65⟩ := rdI_s h61
                  clear h61
                  refine kiald X hVB63 2 rfl hi63 e64 dX2_alone_88 ?_
                  clear hi63 e64
                  refine lv_iload_n hx hb dX2_alone_89 rfl (lv_at hlB63 2 rfl) ?_
                  refine lv_icmp_le (tgt := 100) hx hb dX2_alone_90 (by decide) (fun c66 => ?_) (fun c66 => ?_)
                  · have h67 := itS c66 h65
                    clear h65 c66
                    obtain ⟨v100_69, e70, h71⟩ := nmI_s h67
                    clear h67
                    refine lv_iinc (v := v100_69) (lv' := [(6, .int v100_69), (0, .ref a0), (2, .int p2), (3, .int x3_19), (4, .int x4_39), (5, .int x5_40)]) hx hb dX2_alone_100 hlB63 (k := 5) rfl (by rw [e70]; rfl) (by decide) rfl (fun ls hl72 => ?_)
                    clear hlB63 e70
                    refine lv_goto (tgt := 63) hx hb dX2_alone_103 (by decide) ?_
                    exact ih63 x4_39 x5_40 v100_69 _ _ _ h71 hVB63 (lv_sub hl72 [1, 2, 3, 4, 5, 0] rfl)
                  · have h68 := ieS c66 h65
                    clear h65 c66
                    exact J93 x6_41 _ _ _ h68 hVB63 (lv_sub hlB63 [0, 1, 2, 3, 5] rfl)
          exact L63 FU 0 (-1) 0 _ _ _ h22 hVB46 (lv_sub hl29 [3, 4, 5, 2, 1, 0] rfl)
    exact L46 FU 0 _ _ _ hB44 hVB44 (lv_sub hl5 [1, 2, 0] rfl)
  have L2 : ∀ (n2 : Nat) (x3_73 : Int32) (fallen__74 : Nat → Int32) (reckoner_letters__75 : Nat → Int32) (reckoner_values__76 : Nat → Int32) (H : Heap) (locs : List Loc) (ls : Array Slot), (f_X2_alone_L2 s_many s_days s_shifts p1 G (f_X2_alone_J44 s_many p2 ) n2) x3_73 fallen__74 reckoner_letters__75 reckoner_values__76 = some (r, o_fallen, o_reckoner_letters, o_reckoner_values) → kV E A s.heap H locs (([(a0, .inr (2, [.ref a1, .ref a4, .ref a2, .ref a3, .ref a5, .int s_many])), (a1, .inl (E.2 0, 30, .inl s_days)), (a2, .inl (E.2 0, 6, .inl fallen__74)), (a3, .inr (5, [.ref a6, .ref a7])), (a4, .inl (E.2 0, 30, .inl s_shifts)), (a5, .inl (E.2 4, 6, .inr (.inr (.inr (.inr ((kgT G))))))), (a6, .inl (E.2 0, 128, .inl reckoner_letters__75)), (a7, .inl (E.2 0, 32, .inl reckoner_values__76))] : va_W) ++ kpool E G) → lv_has ls 7 [(0, .ref a0), (1, .int p1), (2, .int p2), (3, .int x3_73)] → W p l e r_X2_alone s m args below meth c H locs 0 0 Q (F0 m 2 ls []) := by
    intro n2
    induction n2 with
    | zero =>
      intro x3_73 fallen__74 reckoner_letters__75 reckoner_values__76 H locs ls hB2 hVB2 hlB2
      rw [f_X2_alone_L2] at hB2
      exact nomatch hB2
    | succ n2 ih2 =>
      intro x3_73 fallen__74 reckoner_letters__75 reckoner_values__76 H locs ls hB2 hVB2 hlB2
      rw [f_X2_alone_L2] at hB2
      refine lv_iload_n hx hb dX2_alone_2 rfl (lv_at hlB2 3 rfl) ?_
      refine lv_bipush (v := 6) hx hb dX2_alone_3 (by decide) ?_
      refine lv_icmp_ge (tgt := 44) hx hb dX2_alone_5 (by decide) (fun c77 => ?_) (fun c77 => ?_)
      · have h78 := itS c77 hB2
        clear hB2 c77
        exact J44 fallen__74 reckoner_letters__75 reckoner_values__76 _ _ _ h78 hVB2 (lv_sub hlB2 [0, 2] rfl)
      · have h79 := ieS c77 hB2
        clear hB2 c77
        refine lv_aload_n hx hb dX2_alone_8 rfl (lv_at hlB2 0 rfl) ?_
        refine kget X hVB2 (ci := 2) inlX2 rfl 0 rfl 2 (by decide) mw_121 rfl dX2_alone_9 ?_
        refine lv_iload_n hx hb dX2_alone_12 rfl (lv_at hlB2 3 rfl) ?_
        refine lv_aload_n hx hb dX2_alone_13 rfl (lv_at hlB2 0 rfl) ?_
        refine kget X hVB2 (ci := 2) inlX2 rfl 0 rfl 4 (by decide) mw_125 rfl dX2_alone_14 ?_
        refine lv_iload_n hx hb dX2_alone_17 rfl (lv_at hlB2 3 rfl) ?_
        obtain ⟨hi80, h81⟩ := gdN_s h79
        clear h79
        refine kaald X hVB2 5 4 rfl rfl hi80 rfl dX2_alone_18 ?_
        clear hi80
        refine W.eq (g2 := F0 m 19 ls [va_rf ((some (14 + (Int32.toNatClampNeg x3_73))).bind (kgX G)), .int x3_73, .ref a2]) rfl ?_
        rcases oT_s h81 with ⟨hq84, h85⟩ | ⟨k82, t_83, hr86, hq84, hk87, ht88, h89⟩
        · skip
          refine ktopq hq84.symm ?_
          refine W.eq (g2 := F0 m 19 ls [.null, .int x3_73, .ref a2]) rfl ?_
          have hn90 := kgXn hq84
          refine lv_ifnonnullN hx hb dX2_alone_19 ?_
          refine lv_iconst (v := 0) hx hb dX2_alone_22 (by decide) ?_
          refine lv_goto (tgt := 37) hx hb dX2_alone_23 (by decide) ?_
          obtain ⟨hi92, g37_91, e93, h94⟩ := wrI_s h85
          clear h85
          refine kiast X hVB2 2 rfl hi92 e93 dX2_alone_37 (fun H locs hV95 => ?_)
          have hV95 : kV E A s.heap H locs (([(a0, .inr (2, [.ref a1, .ref a4, .ref a2, .ref a3, .ref a5, .int s_many])), (a1, .inl (E.2 0, 30, .inl s_days)), (a2, .inl (E.2 0, 6, .inl g37_91)), (a3, .inr (5, [.ref a6, .ref a7])), (a4, .inl (E.2 0, 30, .inl s_shifts)), (a5, .inl (E.2 4, 6, .inr (.inr (.inr (.inr ((kgT G))))))), (a6, .inl (E.2 0, 128, .inl reckoner_letters__75)), (a7, .inl (E.2 0, 32, .inl reckoner_values__76))] : va_W) ++ kpool E G) := hV95
          clear hVB2 hi92 e93
          obtain ⟨v38_96, e97, h98⟩ := nmI_s h94
          clear h94
          refine lv_iinc (v := v38_96) (lv' := [(3, .int v38_96), (0, .ref a0), (1, .int p1), (2, .int p2)]) hx hb dX2_alone_38 hlB2 (k := 3) rfl (by rw [e97]; rfl) (by decide) rfl (fun ls hl99 => ?_)
          clear hlB2 e97
          refine lv_goto (tgt := 2) hx hb dX2_alone_41 (by decide) ?_
          exact ih2 v38_96 g37_91 reckoner_letters__75 reckoner_values__76 _ _ _ h98 hV95 (lv_sub hl99 [1, 2, 3, 0] rfl)
        · skip
          obtain rfl := Option.some.inj hr86
          refine ktopq hq84.symm ?_
          refine W.eq (g2 := F0 m 19 ls [.ref t_83.1.1, .int x3_73, .ref a2]) rfl ?_
          refine lv_ifnonnull (tgt := 26) hx hb dX2_alone_19 (by decide) ?_
          refine lv_aload_n hx hb dX2_alone_26 rfl (lv_at hlB2 0 rfl) ?_
          refine lv_aload_n hx hb dX2_alone_27 rfl (lv_at hlB2 0 rfl) ?_
          refine kget X hVB2 (ci := 2) inlX2 rfl 0 rfl 4 (by decide) mw_125 rfl dX2_alone_28 ?_
          refine lv_iload_n hx hb dX2_alone_31 rfl (lv_at hlB2 3 rfl) ?_
          obtain ⟨hi100, h101⟩ := gdN_s h89
          clear h89
          refine kaald X hVB2 5 4 rfl rfl hi100 rfl dX2_alone_32 ?_
          clear hi100
          refine W.eq (g2 := F0 m 33 ls [va_rf ((some (14 + (Int32.toNatClampNeg x3_73))).bind (kgX G)), .ref a0, .int x3_73, .ref a2]) rfl ?_
          refine ktopq (show some (kta t_83) = _ from (congrArg (Option.map kta) ht88).symm) ?_
          refine W.eq (g2 := F0 m 33 ls [.ref t_83.1.1, .ref a0, .int x3_73, .ref a2]) rfl ?_
          refine lv_iload_n hx hb dX2_alone_33 rfl (lv_at hlB2 1 rfl) ?_
          have hV102 := kopT (X := [(a0, .inr (2, [.ref a1, .ref a4, .ref a2, .ref a3, .ref a5, .int s_many])), (a1, .inl (E.2 0, 30, .inl s_days)), (a2, .inl (E.2 0, 6, .inl fallen__74)), (a3, .inr (5, [.ref a6, .ref a7])), (a4, .inl (E.2 0, 30, .inl s_shifts)), (a5, .inl (E.2 4, 6, .inr (.inr (.inr (.inr ((kgT G))))))), (a6, .inl (E.2 0, 128, .inl reckoner_letters__75)), (a7, .inl (E.2 0, 32, .inl reckoner_values__76))]) hk87 ht88 hVB2
          have hV102 : kV E A s.heap _ _ (([(a0, .inr (2, [.ref a1, .ref a4, .ref a2, .ref a3, .ref a5, .int s_many])), (a1, .inl (E.2 0, 30, .inl s_days)), (a2, .inl (E.2 0, 6, .inl fallen__74)), (a3, .inr (5, [.ref a6, .ref a7])), (a4, .inl (E.2 0, 30, .inl s_shifts)), (a5, .inl (E.2 4, 6, .inr (.inr (.inr (.inr ((kgT G))))))), (a6, .inl (E.2 0, 128, .inl reckoner_letters__75)), (a7, .inl (E.2 0, 32, .inl reckoner_values__76)), ((t_83.1.1), .inr (10, [.int (t_83.2.1), .ref (t_83.1.2.1), .ref (t_83.1.2.2.1), .ref (t_83.1.2.2.2)])), ((t_83.1.2.1), .inl (E.2 0, (t_83.2.2.1.1), .inl ((t_83.2.2.1.2)))), ((t_83.1.2.2.1), .inl (E.2 0, (t_83.2.2.2.1.1), .inl ((t_83.2.2.2.1.2)))), ((t_83.1.2.2.2), .inl (E.2 0, (t_83.2.2.2.2.1), .inl ((t_83.2.2.2.2.2))))] : va_W) ++ kpoolT E G (14 + (Int32.toNatClampNeg x3_73))) := hV102
          clear hVB2
          obtain ⟨r34_103, o_reckoner_letters34_104, o_reckoner_values34_105, hc106, h107⟩ := cb3_s h101
          clear h101
          have hY108 : kV E A s.heap _ _ ((([(a0, .inr (2, [.ref a1, .ref a4, .ref a2, .ref a3, .ref a5, .int s_many])), ((t_83.1.1), .inr (10, [.int (t_83.2.1), .ref (t_83.1.2.1), .ref (t_83.1.2.2.1), .ref (t_83.1.2.2.2)])), ((t_83.1.2.1), .inl (E.2 0, (t_83.2.2.1.1), .inl ((t_83.2.2.1.2)))), ((t_83.1.2.2.2), .inl (E.2 0, (t_83.2.2.2.2.1), .inl ((t_83.2.2.2.2.2)))), ((t_83.1.2.2.1), .inl (E.2 0, (t_83.2.2.2.1.1), .inl ((t_83.2.2.2.1.2)))), (a1, .inl (E.2 0, 30, .inl s_days)), (a3, .inr (5, [.ref a6, .ref a7])), (a4, .inl (E.2 0, 30, .inl s_shifts)), (a6, .inl (E.2 0, 128, .inl reckoner_letters__75)), (a7, .inl (E.2 0, 32, .inl reckoner_values__76))] : va_W) ++ ([(a2, .inl (E.2 0, 6, .inl fallen__74)), (a5, .inl (E.2 4, 6, .inr (.inr (.inr (.inr ((kgT G)))))))] : va_W)) ++ kpoolT E G (14 + (Int32.toNatClampNeg x3_73))) := hV102.subP [0, 8, 9, 11, 10, 1, 3, 4, 6, 7, 2, 5] rfl rfl
          have hY109 := hY108.swapT
          clear hY108
          refine kgoiT (krunV (rest := [.int x3_73, .ref a2]) X hY109 (List.range _) (c_X2_fallOf l E _ a0 (t_83.1.1) (t_83.1.2.1) (t_83.1.2.2.2) (t_83.1.2.2.1) a1 a3 a4 a6 a7 (.ref a2) (.ref a5) (.int (t_83.2.1)) (t_83.2.2.1.1) (t_83.2.2.2.2.1) (t_83.2.2.2.1.1) s_many (t_83.2.2.1.2) (t_83.2.2.2.2.2) (t_83.2.2.2.1.2) s_days s_shifts reckoner_letters__75 reckoner_values__76 p1 r34_103 o_reckoner_letters34_104 o_reckoner_values34_105 hc106) mw_1176 kb_X2_fallOf (ci := 2) rfl rfl (kndR _) (krg _ _) rfl hlB2.1 rfl (Nat.le_of_ble_eq_true rfl) dX2_alone_34 (by decide)) X hY109 (fun u113 H locs hV110 => ?_)
          clear hY109 hV102
          have hV115 : kV E A s.heap H locs ((([(a0, .inr (2, [.ref a1, .ref a4, .ref a2, .ref a3, .ref a5, .int s_many])), (a1, .inl (E.2 0, 30, .inl s_days)), (a2, .inl (E.2 0, 6, .inl fallen__74)), (a3, .inr (5, [.ref a6, .ref a7])), (a4, .inl (E.2 0, 30, .inl s_shifts)), (a5, .inl (E.2 4, 6, .inr (.inr (.inr (.inr ((kgT G))))))), (a6, .inl (E.2 0, 128, .inl o_reckoner_letters34_104)), (a7, .inl (E.2 0, 32, .inl o_reckoner_values34_105))] : va_W) ++ (ktc E t_83)) ++ kpoolT E G (14 + (Int32.toNatClampNeg x3_73))) := hV110.subP [2, 7, 0, 8, 9, 1, 10, 11, 3, 4, 6, 5] rfl rfl
          have hV114 : kV E A s.heap H locs (([(a0, .inr (2, [.ref a1, .ref a4, .ref a2, .ref a3, .ref a5, .int s_many])), (a1, .inl (E.2 0, 30, .inl s_days)), (a2, .inl (E.2 0, 6, .inl fallen__74)), (a3, .inr (5, [.ref a6, .ref a7])), (a4, .inl (E.2 0, 30, .inl s_shifts)), (a5, .inl (E.2 4, 6, .inr (.inr (.inr (.inr ((kgT G))))))), (a6, .inl (E.2 0, 128, .inl o_reckoner_letters34_104)), (a7, .inl (E.2 0, 32, .inl o_reckoner_values34_105))] : va_W) ++ kpool E G) := kclT hk87 ht88 hV115
          clear hV115
          clear hV110
          obtain ⟨hi117, g37_116, e118, h119⟩ := wrI_s h107
          clear h107
          refine kiast X hV114 2 rfl hi117 e118 dX2_alone_37 (fun H locs hV120 => ?_)
          have hV120 : kV E A s.heap H locs (([(a0, .inr (2, [.ref a1, .ref a4, .ref a2, .ref a3, .ref a5, .int s_many])), (a1, .inl (E.2 0, 30, .inl s_days)), (a2, .inl (E.2 0, 6, .inl g37_116)), (a3, .inr (5, [.ref a6, .ref a7])), (a4, .inl (E.2 0, 30, .inl s_shifts)), (a5, .inl (E.2 4, 6, .inr (.inr (.inr (.inr ((kgT G))))))), (a6, .inl (E.2 0, 128, .inl o_reckoner_letters34_104)), (a7, .inl (E.2 0, 32, .inl o_reckoner_values34_105))] : va_W) ++ kpool E G) := hV120
          clear hV114 hi117 e118
          obtain ⟨v38_121, e122, h123⟩ := nmI_s h119
          clear h119
          refine lv_iinc (v := v38_121) (lv' := [(3, .int v38_121), (0, .ref a0), (1, .int p1), (2, .int p2)]) hx hb dX2_alone_38 hlB2 (k := 3) rfl (by rw [e122]; rfl) (by decide) rfl (fun ls hl124 => ?_)
          clear hlB2 e122
          refine lv_goto (tgt := 2) hx hb dX2_alone_41 (by decide) ?_
          exact ih2 v38_121 g37_116 o_reckoner_letters34_104 o_reckoner_values34_105 _ _ _ h123 hV120 (lv_sub hl124 [1, 2, 3, 0] rfl)
  exact L2 FU 0 s_fallen s_reckoner_letters s_reckoner_values _ _ _ h hV (lv_sub hl1 [1, 2, 3, 0] rfl)
noncomputable def f_X11_textCount (G : kG) (s_sky_many : Int32) (p1 : Int32) : Option (Int32) :=
    cb1 (f_X11_isWithin p1 10 ((10 + s_sky_many) - 1)) fun r15_1 =>
    if r15_1 = 0 then
    (cb1 (f_X11_isWithin p1 20 23) fun r54_14 =>
      if r54_14 = 0 then
      (cb1 (f_X11_isWithin p1 30 35) fun r78_27 =>
        if r78_27 = 0 then
        (some ((-1)))
        else
        (gdN 6 (p1 - 30) <|
          oT G (some (14 + (Int32.toNatClampNeg (p1 - 30))))
          (cb1 (f_X11_clausesOf_N ) fun r96_52 =>
            some (r96_52))
          fun _ t_44 =>
          (cb1 (f_X11_clausesOf (t_44.2.1)) fun r96_64 =>
            some (r96_64))))
      else
      (gdN 4 (p1 - 20) <|
        oT G (some (10 + (Int32.toNatClampNeg (p1 - 20))))
        (cb1 (f_X11_clausesOf_N ) fun r69_87 =>
          some (r69_87))
        fun _ t_79 =>
        (cb1 (f_X11_clausesOf (t_79.2.1)) fun r69_99 =>
          some (r69_99))))
    else
    (cb1 (f_X7_sourceAt G s_sky_many (p1 - 10)) fun r29_111 =>
      oS G r29_111
      (some ((-1)))
      fun k_121 s_122 =>
      (oT G (some k_121)
        (cb1 (f_X11_clausesOf_N ) fun r45_142 =>
          some (r45_142))
        fun _ t_134 =>
        (cb1 (f_X11_clausesOf (t_134.2.1)) fun r45_154 =>
          some (r45_154))))
abbrev r_X11_textCount : Room := { frames := 2, cells := 0, slots := 0, locals := 43 }
set_option maxHeartbeats 4000000 in
set_option maxRecDepth 100000 in
theorem c_X11_textCount (l : Launch) (E : kE) (sz : Nat) (a0 a1 a2 a3 a4 a5 : Nat) (w0_0 w0_1 w0_3 w0_5 w0_6 w0_8 w1_0 w1_1 w1_2 w1_3 w1_5 w2_1 w2_3 : Value) (G : kG) (s_sky_many : Int32) (p1 : Int32) (r : Int32) (h : f_X11_textCount G s_sky_many p1 = some (r)) : kMi l yX11_textCount cX11_textCount 3 (some .int) r_X11_textCount [.ref a0, .int p1] E (([(a0, .inr (11, [w0_0, w0_1, .ref a2, w0_3, .ref a3, w0_5, w0_6, .ref a1, w0_8])), (a1, .inr (2, [w1_0, w1_1, w1_2, w1_3, .ref a4, w1_5])), (a2, .inr (7, [.ref a5, w2_1, .int s_sky_many, w2_3])), (a3, .inl (E.2 4, 4, .inr (.inr (.inr (.inr ((kgW G))))))), (a4, .inl (E.2 4, 6, .inr (.inr (.inr (.inr ((kgT G))))))), (a5, .inl (E.2 3, 10, .inr (.inr (.inr (.inr ((kgA G)))))))] : va_W) ++ kpool E G) sz 0 0 (fun x (_ : Unit) => x = r) (fun _ => (([(a0, .inr (11, [w0_0, w0_1, .ref a2, w0_3, .ref a3, w0_5, w0_6, .ref a1, w0_8])), (a1, .inr (2, [w1_0, w1_1, w1_2, w1_3, .ref a4, w1_5])), (a2, .inr (7, [.ref a5, w2_1, .int s_sky_many, w2_3])), (a3, .inl (E.2 4, 4, .inr (.inr (.inr (.inr ((kgW G))))))), (a4, .inl (E.2 4, 6, .inr (.inr (.inr (.inr ((kgT G))))))), (a5, .inl (E.2 3, 10, .inr (.inr (.inr (.inr ((kgA G)))))))] : va_W) ++ kpool E G)) := by
  refine kmeti rfl (Nat.le_of_ble_eq_true rfl) ?_
  intro p e s m args below meth c ls A Q X hV hret hl
  have X : kC p s m c cX11_textCount 3 RX11 args E A := X
  have hx := X.1
  have hb := X.2.1
  have hl : lv_has ls 3 [(0, .ref a0), (1, .int p1)] := hl
  rw [f_X11_textCount] at h
  refine lv_iload_n hx hb dX11_textCount_0 rfl (lv_at hl 1 rfl) ?_
  refine lv_bipush (v := 10) hx hb dX11_textCount_1 (by decide) ?_
  refine lv_bipush (v := 10) hx hb dX11_textCount_3 (by decide) ?_
  refine lv_aload_n hx hb dX11_textCount_5 rfl (lv_at hl 0 rfl) ?_
  refine kget X hV (ci := 11) inlX11 rfl 0 rfl 2 (by decide) mw_23 rfl dX11_textCount_6 ?_
  refine kget X hV (ci := 7) inlX7 rfl 2 rfl 2 (by decide) mw_180 rfl dX11_textCount_9 ?_
  refine lv_iadd hx hb dX11_textCount_12 ?_
  refine lv_iconst (v := 1) hx hb dX11_textCount_13 (by decide) ?_
  refine lv_isub hx hb dX11_textCount_14 ?_
  obtain ⟨r15_1, hc2, h3⟩ := cb1_s h
  clear h
  have hY4 : kV E A s.heap _ _ (([] ++ ([(a0, .inr (11, [w0_0, w0_1, .ref a2, w0_3, .ref a3, w0_5, w0_6, .ref a1, w0_8])), (a1, .inr (2, [w1_0, w1_1, w1_2, w1_3, .ref a4, w1_5])), (a2, .inr (7, [.ref a5, w2_1, .int s_sky_many, w2_3])), (a3, .inl (E.2 4, 4, .inr (.inr (.inr (.inr ((kgW G))))))), (a4, .inl (E.2 4, 6, .inr (.inr (.inr (.inr ((kgT G))))))), (a5, .inl (E.2 3, 10, .inr (.inr (.inr (.inr ((kgA G)))))))] : va_W)) ++ kpool E G) := hV.subP [0, 1, 2, 3, 4, 5] rfl rfl
  have hY5 := hY4.swapT
  clear hY4
  refine kgoiT (krunS (rest := []) X hY5 (List.range _) (c_X11_isWithin l E _ p1 10 ((10 + s_sky_many) - 1) r15_1 hc2) mw_187 kb_X11_isWithin (kndR _) (krg _ _) rfl hl.1 rfl (Nat.le_of_ble_eq_true rfl) dX11_textCount_15 (by decide)) X hY5 (fun u9 H locs hV6 => ?_)
  clear hY5 hV
  have hV10 : kV E A s.heap H locs (([(a0, .inr (11, [w0_0, w0_1, .ref a2, w0_3, .ref a3, w0_5, w0_6, .ref a1, w0_8])), (a1, .inr (2, [w1_0, w1_1, w1_2, w1_3, .ref a4, w1_5])), (a2, .inr (7, [.ref a5, w2_1, .int s_sky_many, w2_3])), (a3, .inl (E.2 4, 4, .inr (.inr (.inr (.inr ((kgW G))))))), (a4, .inl (E.2 4, 6, .inr (.inr (.inr (.inr ((kgT G))))))), (a5, .inl (E.2 3, 10, .inr (.inr (.inr (.inr ((kgA G)))))))] : va_W) ++ kpool E G) := hV6.subP [0, 1, 2, 3, 4, 5] rfl rfl
  clear hV6
  refine lv_if_eq (tgt := 49) hx hb dX11_textCount_18 (by decide) (fun c11 => ?_) (fun c11 => ?_)
  · have h12 := itS c11 h3
    clear h3 c11
    refine lv_iload_n hx hb dX11_textCount_49 rfl (lv_at hl 1 rfl) ?_
    refine lv_bipush (v := 20) hx hb dX11_textCount_50 (by decide) ?_
    refine lv_bipush (v := 23) hx hb dX11_textCount_52 (by decide) ?_
    obtain ⟨r54_14, hc15, h16⟩ := cb1_s h12
    clear h12
    have hY17 : kV E A s.heap _ _ (([] ++ ([(a0, .inr (11, [w0_0, w0_1, .ref a2, w0_3, .ref a3, w0_5, w0_6, .ref a1, w0_8])), (a1, .inr (2, [w1_0, w1_1, w1_2, w1_3, .ref a4, w1_5])), (a2, .inr (7, [.ref a5, w2_1, .int s_sky_many, w2_3])), (a3, .inl (E.2 4, 4, .inr (.inr (.inr (.inr ((kgW G))))))), (a4, .inl (E.2 4, 6, .inr (.inr (.inr (.inr ((kgT G))))))), (a5, .inl (E.2 3, 10, .inr (.inr (.inr (.inr ((kgA G)))))))] : va_W)) ++ kpool E G) := hV10.subP [0, 1, 2, 3, 4, 5] rfl rfl
    have hY18 := hY17.swapT
    clear hY17
    refine kgoiT (krunS (rest := []) X hY18 (List.range _) (c_X11_isWithin l E _ p1 20 23 r54_14 hc15) mw_187 kb_X11_isWithin (kndR _) (krg _ _) rfl hl.1 rfl (Nat.le_of_ble_eq_true rfl) dX11_textCount_54 (by decide)) X hY18 (fun u22 H locs hV19 => ?_)
    clear hY18 hV10
    have hV23 : kV E A s.heap H locs (([(a0, .inr (11, [w0_0, w0_1, .ref a2, w0_3, .ref a3, w0_5, w0_6, .ref a1, w0_8])), (a1, .inr (2, [w1_0, w1_1, w1_2, w1_3, .ref a4, w1_5])), (a2, .inr (7, [.ref a5, w2_1, .int s_sky_many, w2_3])), (a3, .inl (E.2 4, 4, .inr (.inr (.inr (.inr ((kgW G))))))), (a4, .inl (E.2 4, 6, .inr (.inr (.inr (.inr ((kgT G))))))), (a5, .inl (E.2 3, 10, .inr (.inr (.inr (.inr ((kgA G)))))))] : va_W) ++ kpool E G) := hV19.subP [0, 1, 2, 3, 4, 5] rfl rfl
    clear hV19
    refine lv_if_eq (tgt := 73) hx hb dX11_textCount_57 (by decide) (fun c24 => ?_) (fun c24 => ?_)
    · have h25 := itS c24 h16
      clear h16 c24
      refine lv_iload_n hx hb dX11_textCount_73 rfl (lv_at hl 1 rfl) ?_
      refine lv_bipush (v := 30) hx hb dX11_textCount_74 (by decide) ?_
      refine lv_bipush (v := 35) hx hb dX11_textCount_76 (by decide) ?_
      obtain ⟨r78_27, hc28, h29⟩ := cb1_s h25
      clear h25
      have hY30 : kV E A s.heap _ _ (([] ++ ([(a0, .inr (11, [w0_0, w0_1, .ref a2, w0_3, .ref a3, w0_5, w0_6, .ref a1, w0_8])), (a1, .inr (2, [w1_0, w1_1, w1_2, w1_3, .ref a4, w1_5])), (a2, .inr (7, [.ref a5, w2_1, .int s_sky_many, w2_3])), (a3, .inl (E.2 4, 4, .inr (.inr (.inr (.inr ((kgW G))))))), (a4, .inl (E.2 4, 6, .inr (.inr (.inr (.inr ((kgT G))))))), (a5, .inl (E.2 3, 10, .inr (.inr (.inr (.inr ((kgA G)))))))] : va_W)) ++ kpool E G) := hV23.subP [0, 1, 2, 3, 4, 5] rfl rfl
      have hY31 := hY30.swapT
      clear hY30
      refine kgoiT (krunS (rest := []) X hY31 (List.range _) (c_X11_isWithin l E _ p1 30 35 r78_27 hc28) mw_187 kb_X11_isWithin (kndR _) (krg _ _) rfl hl.1 rfl (Nat.le_of_ble_eq_true rfl) dX11_textCount_78 (by decide)) X hY31 (fun u35 H locs hV32 => ?_)
      clear hY31 hV23
      have hV36 : kV E A s.heap H locs (([(a0, .inr (11, [w0_0, w0_1, .ref a2, w0_3, .ref a3, w0_5, w0_6, .ref a1, w0_8])), (a1, .inr (2, [w1_0, w1_1, w1_2, w1_3, .ref a4, w1_5])), (a2, .inr (7, [.ref a5, w2_1, .int s_sky_many, w2_3])), (a3, .inl (E.2 4, 4, .inr (.inr (.inr (.inr ((kgW G))))))), (a4, .inl (E.2 4, 6, .inr (.inr (.inr (.inr ((kgT G))))))), (a5, .inl (E.2 3, 10, .inr (.inr (.inr (.inr ((kgA G)))))))] : va_W) ++ kpool E G) := hV32.subP [0, 1, 2, 3, 4, 5] rfl rfl
      clear hV32
      refine lv_if_eq (tgt := 100) hx hb dX11_textCount_81 (by decide) (fun c37 => ?_) (fun c37 => ?_)
      · have h38 := itS c37 h29
        clear h29 c37
        refine lv_iconst (v := (-1)) hx hb dX11_textCount_100 (by decide) ?_
        have q40 := tup1_s h38
        clear h38
        exact hret _ () _ _ _ _ q40 rfl hV36 dX11_textCount_101
      · have h39 := ieS c37 h29
        clear h29 c37
        refine lv_aload_n hx hb dX11_textCount_84 rfl (lv_at hl 0 rfl) ?_
        refine kget X hV36 (ci := 11) inlX11 rfl 0 rfl 7 (by decide) mw_41 rfl dX11_textCount_85 ?_
        refine kget X hV36 (ci := 2) inlX2 rfl 1 rfl 4 (by decide) mw_602 rfl dX11_textCount_88 ?_
        refine lv_iload_n hx hb dX11_textCount_91 rfl (lv_at hl 1 rfl) ?_
        refine lv_bipush (v := 30) hx hb dX11_textCount_92 (by decide) ?_
        refine lv_isub hx hb dX11_textCount_94 ?_
        obtain ⟨hi41, h42⟩ := gdN_s h39
        clear h39
        refine kaald X hV36 4 4 rfl rfl hi41 rfl dX11_textCount_95 ?_
        clear hi41
        refine W.eq (g2 := F0 m 96 ls [va_rf ((some (14 + (Int32.toNatClampNeg (p1 - 30)))).bind (kgX G))]) rfl ?_
        rcases oT_s h42 with ⟨hq45, h46⟩ | ⟨k43, t_44, hr47, hq45, hk48, ht49, h50⟩
        · skip
          refine ktopq hq45.symm ?_
          refine W.eq (g2 := F0 m 96 ls [.null]) rfl ?_
          have hn51 := kgXn hq45
          obtain ⟨r96_52, hc53, h54⟩ := cb1_s h46
          clear h46
          have hY55 : kV E A s.heap _ _ (([] ++ ([(a0, .inr (11, [w0_0, w0_1, .ref a2, w0_3, .ref a3, w0_5, w0_6, .ref a1, w0_8])), (a1, .inr (2, [w1_0, w1_1, w1_2, w1_3, .ref a4, w1_5])), (a2, .inr (7, [.ref a5, w2_1, .int s_sky_many, w2_3])), (a3, .inl (E.2 4, 4, .inr (.inr (.inr (.inr ((kgW G))))))), (a4, .inl (E.2 4, 6, .inr (.inr (.inr (.inr ((kgT G))))))), (a5, .inl (E.2 3, 10, .inr (.inr (.inr (.inr ((kgA G)))))))] : va_W)) ++ kpool E G) := hV36.subP [0, 1, 2, 3, 4, 5] rfl rfl
          have hY56 := hY55.swapT
          clear hY55
          refine kgoiT (krunS (rest := []) X hY56 (List.range _) (c_X11_clausesOf_N l E _ r96_52 hc53) mw_1333 kb_X11_clausesOf (kndR _) (krg _ _) rfl hl.1 rfl (Nat.le_of_ble_eq_true rfl) dX11_textCount_96 (by decide)) X hY56 (fun u60 H locs hV57 => ?_)
          clear hY56 hV36
          have hV61 : kV E A s.heap H locs (([(a0, .inr (11, [w0_0, w0_1, .ref a2, w0_3, .ref a3, w0_5, w0_6, .ref a1, w0_8])), (a1, .inr (2, [w1_0, w1_1, w1_2, w1_3, .ref a4, w1_5])), (a2, .inr (7, [.ref a5, w2_1, .int s_sky_many, w2_3])), (a3, .inl (E.2 4, 4, .inr (.inr (.inr (.inr ((kgW G))))))), (a4, .inl (E.2 4, 6, .inr (.inr (.inr (.inr ((kgT G))))))), (a5, .inl (E.2 3, 10, .inr (.inr (.inr (.inr ((kgA G)))))))] : va_W) ++ kpool E G) := hV57.subP [0, 1, 2, 3, 4, 5] rfl rfl
          clear hV57
          have q62 := tup1_s h54
          clear h54
          exact hret _ () _ _ _ _ q62 rfl hV61 dX11_textCount_99
        · skip
          obtain rfl := Option.some.inj hr47
          refine ktopq hq45.symm ?_
          refine W.eq (g2 := F0 m 96 ls [.ref t_44.1.1]) rfl ?_
          have hV63 := kopT (X := [(a0, .inr (11, [w0_0, w0_1, .ref a2, w0_3, .ref a3, w0_5, w0_6, .ref a1, w0_8])), (a1, .inr (2, [w1_0, w1_1, w1_2, w1_3, .ref a4, w1_5])), (a2, .inr (7, [.ref a5, w2_1, .int s_sky_many, w2_3])), (a3, .inl (E.2 4, 4, .inr (.inr (.inr (.inr ((kgW G))))))), (a4, .inl (E.2 4, 6, .inr (.inr (.inr (.inr ((kgT G))))))), (a5, .inl (E.2 3, 10, .inr (.inr (.inr (.inr ((kgA G)))))))]) hk48 ht49 hV36
          have hV63 : kV E A s.heap _ _ (([(a0, .inr (11, [w0_0, w0_1, .ref a2, w0_3, .ref a3, w0_5, w0_6, .ref a1, w0_8])), (a1, .inr (2, [w1_0, w1_1, w1_2, w1_3, .ref a4, w1_5])), (a2, .inr (7, [.ref a5, w2_1, .int s_sky_many, w2_3])), (a3, .inl (E.2 4, 4, .inr (.inr (.inr (.inr ((kgW G))))))), (a4, .inl (E.2 4, 6, .inr (.inr (.inr (.inr ((kgT G))))))), (a5, .inl (E.2 3, 10, .inr (.inr (.inr (.inr ((kgA G))))))), ((t_44.1.1), .inr (10, [.int (t_44.2.1), .ref (t_44.1.2.1), .ref (t_44.1.2.2.1), .ref (t_44.1.2.2.2)])), ((t_44.1.2.1), .inl (E.2 0, (t_44.2.2.1.1), .inl ((t_44.2.2.1.2)))), ((t_44.1.2.2.1), .inl (E.2 0, (t_44.2.2.2.1.1), .inl ((t_44.2.2.2.1.2)))), ((t_44.1.2.2.2), .inl (E.2 0, (t_44.2.2.2.2.1), .inl ((t_44.2.2.2.2.2))))] : va_W) ++ kpoolT E G (14 + (Int32.toNatClampNeg (p1 - 30)))) := hV63
          clear hV36
          obtain ⟨r96_64, hc65, h66⟩ := cb1_s h50
          clear h50
          have hY67 : kV E A s.heap _ _ ((([((t_44.1.1), .inr (10, [.int (t_44.2.1), .ref (t_44.1.2.1), .ref (t_44.1.2.2.1), .ref (t_44.1.2.2.2)]))] : va_W) ++ ([(a0, .inr (11, [w0_0, w0_1, .ref a2, w0_3, .ref a3, w0_5, w0_6, .ref a1, w0_8])), (a1, .inr (2, [w1_0, w1_1, w1_2, w1_3, .ref a4, w1_5])), (a2, .inr (7, [.ref a5, w2_1, .int s_sky_many, w2_3])), (a3, .inl (E.2 4, 4, .inr (.inr (.inr (.inr ((kgW G))))))), (a4, .inl (E.2 4, 6, .inr (.inr (.inr (.inr ((kgT G))))))), (a5, .inl (E.2 3, 10, .inr (.inr (.inr (.inr ((kgA G))))))), ((t_44.1.2.1), .inl (E.2 0, (t_44.2.2.1.1), .inl ((t_44.2.2.1.2)))), ((t_44.1.2.2.1), .inl (E.2 0, (t_44.2.2.2.1.1), .inl ((t_44.2.2.2.1.2)))), ((t_44.1.2.2.2), .inl (E.2 0, (t_44.2.2.2.2.1), .inl ((t_44.2.2.2.2.2))))] : va_W)) ++ kpoolT E G (14 + (Int32.toNatClampNeg (p1 - 30)))) := hV63.subP [6, 0, 1, 2, 3, 4, 5, 7, 8, 9] rfl rfl
          have hY68 := hY67.swapT
          clear hY67
          refine kgoiT (krunS (rest := []) X hY68 (List.range _) (c_X11_clausesOf l E _ (t_44.1.1) (.ref (t_44.1.2.1)) (.ref (t_44.1.2.2.1)) (.ref (t_44.1.2.2.2)) (t_44.2.1) r96_64 hc65) mw_1333 kb_X11_clausesOf (kndR _) (krg _ _) rfl hl.1 rfl (Nat.le_of_ble_eq_true rfl) dX11_textCount_96 (by decide)) X hY68 (fun u72 H locs hV69 => ?_)
          clear hY68 hV63
          have hV74 : kV E A s.heap H locs ((([(a0, .inr (11, [w0_0, w0_1, .ref a2, w0_3, .ref a3, w0_5, w0_6, .ref a1, w0_8])), (a1, .inr (2, [w1_0, w1_1, w1_2, w1_3, .ref a4, w1_5])), (a2, .inr (7, [.ref a5, w2_1, .int s_sky_many, w2_3])), (a3, .inl (E.2 4, 4, .inr (.inr (.inr (.inr ((kgW G))))))), (a4, .inl (E.2 4, 6, .inr (.inr (.inr (.inr ((kgT G))))))), (a5, .inl (E.2 3, 10, .inr (.inr (.inr (.inr ((kgA G)))))))] : va_W) ++ (ktc E t_44)) ++ kpoolT E G (14 + (Int32.toNatClampNeg (p1 - 30)))) := hV69.subP [0, 1, 2, 3, 4, 5, 9, 6, 7, 8] rfl rfl
          have hV73 : kV E A s.heap H locs (([(a0, .inr (11, [w0_0, w0_1, .ref a2, w0_3, .ref a3, w0_5, w0_6, .ref a1, w0_8])), (a1, .inr (2, [w1_0, w1_1, w1_2, w1_3, .ref a4, w1_5])), (a2, .inr (7, [.ref a5, w2_1, .int s_sky_many, w2_3])), (a3, .inl (E.2 4, 4, .inr (.inr (.inr (.inr ((kgW G))))))), (a4, .inl (E.2 4, 6, .inr (.inr (.inr (.inr ((kgT G))))))), (a5, .inl (E.2 3, 10, .inr (.inr (.inr (.inr ((kgA G)))))))] : va_W) ++ kpool E G) := kclT hk48 ht49 hV74
          clear hV74
          clear hV69
          have q75 := tup1_s h66
          clear h66
          exact hret _ () _ _ _ _ q75 rfl hV73 dX11_textCount_99
    · have h26 := ieS c24 h16
      clear h16 c24
      refine lv_aload_n hx hb dX11_textCount_60 rfl (lv_at hl 0 rfl) ?_
      refine kget X hV23 (ci := 11) inlX11 rfl 0 rfl 4 (by decide) mw_29 rfl dX11_textCount_61 ?_
      refine lv_iload_n hx hb dX11_textCount_64 rfl (lv_at hl 1 rfl) ?_
      refine lv_bipush (v := 20) hx hb dX11_textCount_65 (by decide) ?_
      refine lv_isub hx hb dX11_textCount_67 ?_
      obtain ⟨hi76, h77⟩ := gdN_s h26
      clear h26
      refine kaald X hV23 3 4 rfl rfl hi76 rfl dX11_textCount_68 ?_
      clear hi76
      refine W.eq (g2 := F0 m 69 ls [va_rf ((some (10 + (Int32.toNatClampNeg (p1 - 20)))).bind (kgX G))]) rfl ?_
      rcases oT_s h77 with ⟨hq80, h81⟩ | ⟨k78, t_79, hr82, hq80, hk83, ht84, h85⟩
      · skip
        refine ktopq hq80.symm ?_
        refine W.eq (g2 := F0 m 69 ls [.null]) rfl ?_
        have hn86 := kgXn hq80
        obtain ⟨r69_87, hc88, h89⟩ := cb1_s h81
        clear h81
        have hY90 : kV E A s.heap _ _ (([] ++ ([(a0, .inr (11, [w0_0, w0_1, .ref a2, w0_3, .ref a3, w0_5, w0_6, .ref a1, w0_8])), (a1, .inr (2, [w1_0, w1_1, w1_2, w1_3, .ref a4, w1_5])), (a2, .inr (7, [.ref a5, w2_1, .int s_sky_many, w2_3])), (a3, .inl (E.2 4, 4, .inr (.inr (.inr (.inr ((kgW G))))))), (a4, .inl (E.2 4, 6, .inr (.inr (.inr (.inr ((kgT G))))))), (a5, .inl (E.2 3, 10, .inr (.inr (.inr (.inr ((kgA G)))))))] : va_W)) ++ kpool E G) := hV23.subP [0, 1, 2, 3, 4, 5] rfl rfl
        have hY91 := hY90.swapT
        clear hY90
        refine kgoiT (krunS (rest := []) X hY91 (List.range _) (c_X11_clausesOf_N l E _ r69_87 hc88) mw_1333 kb_X11_clausesOf (kndR _) (krg _ _) rfl hl.1 rfl (Nat.le_of_ble_eq_true rfl) dX11_textCount_69 (by decide)) X hY91 (fun u95 H locs hV92 => ?_)
        clear hY91 hV23
        have hV96 : kV E A s.heap H locs (([(a0, .inr (11, [w0_0, w0_1, .ref a2, w0_3, .ref a3, w0_5, w0_6, .ref a1, w0_8])), (a1, .inr (2, [w1_0, w1_1, w1_2, w1_3, .ref a4, w1_5])), (a2, .inr (7, [.ref a5, w2_1, .int s_sky_many, w2_3])), (a3, .inl (E.2 4, 4, .inr (.inr (.inr (.inr ((kgW G))))))), (a4, .inl (E.2 4, 6, .inr (.inr (.inr (.inr ((kgT G))))))), (a5, .inl (E.2 3, 10, .inr (.inr (.inr (.inr ((kgA G)))))))] : va_W) ++ kpool E G) := hV92.subP [0, 1, 2, 3, 4, 5] rfl rfl
        clear hV92
        have q97 := tup1_s h89
        clear h89
        exact hret _ () _ _ _ _ q97 rfl hV96 dX11_textCount_72
      · skip
        obtain rfl := Option.some.inj hr82
        refine ktopq hq80.symm ?_
        refine W.eq (g2 := F0 m 69 ls [.ref t_79.1.1]) rfl ?_
        have hV98 := kopT (X := [(a0, .inr (11, [w0_0, w0_1, .ref a2, w0_3, .ref a3, w0_5, w0_6, .ref a1, w0_8])), (a1, .inr (2, [w1_0, w1_1, w1_2, w1_3, .ref a4, w1_5])), (a2, .inr (7, [.ref a5, w2_1, .int s_sky_many, w2_3])), (a3, .inl (E.2 4, 4, .inr (.inr (.inr (.inr ((kgW G))))))), (a4, .inl (E.2 4, 6, .inr (.inr (.inr (.inr ((kgT G))))))), (a5, .inl (E.2 3, 10, .inr (.inr (.inr (.inr ((kgA G)))))))]) hk83 ht84 hV23
        have hV98 : kV E A s.heap _ _ (([(a0, .inr (11, [w0_0, w0_1, .ref a2, w0_3, .ref a3, w0_5, w0_6, .ref a1, w0_8])), (a1, .inr (2, [w1_0, w1_1, w1_2, w1_3, .ref a4, w1_5])), (a2, .inr (7, [.ref a5, w2_1, .int s_sky_many, w2_3])), (a3, .inl (E.2 4, 4, .inr (.inr (.inr (.inr ((kgW G))))))), (a4, .inl (E.2 4, 6, .inr (.inr (.inr (.inr ((kgT G))))))), (a5, .inl (E.2 3, 10, .inr (.inr (.inr (.inr ((kgA G))))))), ((t_79.1.1), .inr (10, [.int (t_79.2.1), .ref (t_79.1.2.1), .ref (t_79.1.2.2.1), .ref (t_79.1.2.2.2)])), ((t_79.1.2.1), .inl (E.2 0, (t_79.2.2.1.1), .inl ((t_79.2.2.1.2)))), ((t_79.1.2.2.1), .inl (E.2 0, (t_79.2.2.2.1.1), .inl ((t_79.2.2.2.1.2)))), ((t_79.1.2.2.2), .inl (E.2 0, (t_79.2.2.2.2.1), .inl ((t_79.2.2.2.2.2))))] : va_W) ++ kpoolT E G (10 + (Int32.toNatClampNeg (p1 - 20)))) := hV98
        clear hV23
        obtain ⟨r69_99, hc100, h101⟩ := cb1_s h85
        clear h85
        have hY102 : kV E A s.heap _ _ ((([((t_79.1.1), .inr (10, [.int (t_79.2.1), .ref (t_79.1.2.1), .ref (t_79.1.2.2.1), .ref (t_79.1.2.2.2)]))] : va_W) ++ ([(a0, .inr (11, [w0_0, w0_1, .ref a2, w0_3, .ref a3, w0_5, w0_6, .ref a1, w0_8])), (a1, .inr (2, [w1_0, w1_1, w1_2, w1_3, .ref a4, w1_5])), (a2, .inr (7, [.ref a5, w2_1, .int s_sky_many, w2_3])), (a3, .inl (E.2 4, 4, .inr (.inr (.inr (.inr ((kgW G))))))), (a4, .inl (E.2 4, 6, .inr (.inr (.inr (.inr ((kgT G))))))), (a5, .inl (E.2 3, 10, .inr (.inr (.inr (.inr ((kgA G))))))), ((t_79.1.2.1), .inl (E.2 0, (t_79.2.2.1.1), .inl ((t_79.2.2.1.2)))), ((t_79.1.2.2.1), .inl (E.2 0, (t_79.2.2.2.1.1), .inl ((t_79.2.2.2.1.2)))), ((t_79.1.2.2.2), .inl (E.2 0, (t_79.2.2.2.2.1), .inl ((t_79.2.2.2.2.2))))] : va_W)) ++ kpoolT E G (10 + (Int32.toNatClampNeg (p1 - 20)))) := hV98.subP [6, 0, 1, 2, 3, 4, 5, 7, 8, 9] rfl rfl
        have hY103 := hY102.swapT
        clear hY102
        refine kgoiT (krunS (rest := []) X hY103 (List.range _) (c_X11_clausesOf l E _ (t_79.1.1) (.ref (t_79.1.2.1)) (.ref (t_79.1.2.2.1)) (.ref (t_79.1.2.2.2)) (t_79.2.1) r69_99 hc100) mw_1333 kb_X11_clausesOf (kndR _) (krg _ _) rfl hl.1 rfl (Nat.le_of_ble_eq_true rfl) dX11_textCount_69 (by decide)) X hY103 (fun u107 H locs hV104 => ?_)
        clear hY103 hV98
        have hV109 : kV E A s.heap H locs ((([(a0, .inr (11, [w0_0, w0_1, .ref a2, w0_3, .ref a3, w0_5, w0_6, .ref a1, w0_8])), (a1, .inr (2, [w1_0, w1_1, w1_2, w1_3, .ref a4, w1_5])), (a2, .inr (7, [.ref a5, w2_1, .int s_sky_many, w2_3])), (a3, .inl (E.2 4, 4, .inr (.inr (.inr (.inr ((kgW G))))))), (a4, .inl (E.2 4, 6, .inr (.inr (.inr (.inr ((kgT G))))))), (a5, .inl (E.2 3, 10, .inr (.inr (.inr (.inr ((kgA G)))))))] : va_W) ++ (ktc E t_79)) ++ kpoolT E G (10 + (Int32.toNatClampNeg (p1 - 20)))) := hV104.subP [0, 1, 2, 3, 4, 5, 9, 6, 7, 8] rfl rfl
        have hV108 : kV E A s.heap H locs (([(a0, .inr (11, [w0_0, w0_1, .ref a2, w0_3, .ref a3, w0_5, w0_6, .ref a1, w0_8])), (a1, .inr (2, [w1_0, w1_1, w1_2, w1_3, .ref a4, w1_5])), (a2, .inr (7, [.ref a5, w2_1, .int s_sky_many, w2_3])), (a3, .inl (E.2 4, 4, .inr (.inr (.inr (.inr ((kgW G))))))), (a4, .inl (E.2 4, 6, .inr (.inr (.inr (.inr ((kgT G))))))), (a5, .inl (E.2 3, 10, .inr (.inr (.inr (.inr ((kgA G)))))))] : va_W) ++ kpool E G) := kclT hk83 ht84 hV109
        clear hV109
        clear hV104
        have q110 := tup1_s h101
        clear h101
        exact hret _ () _ _ _ _ q110 rfl hV108 dX11_textCount_72
  · have h13 := ieS c11 h3
    clear h3 c11
    refine lv_aload_n hx hb dX11_textCount_21 rfl (lv_at hl 0 rfl) ?_
    refine kget X hV10 (ci := 11) inlX11 rfl 0 rfl 2 (by decide) mw_23 rfl dX11_textCount_22 ?_
    refine lv_iload_n hx hb dX11_textCount_25 rfl (lv_at hl 1 rfl) ?_
    refine lv_bipush (v := 10) hx hb dX11_textCount_26 (by decide) ?_
    refine lv_isub hx hb dX11_textCount_28 ?_
    obtain ⟨r29_111, hc112, h113⟩ := cb1_s h13
    clear h13
    have hY114 : kV E A s.heap _ _ ((([(a2, .inr (7, [.ref a5, w2_1, .int s_sky_many, w2_3])), (a5, .inl (E.2 3, 10, .inr (.inr (.inr (.inr ((kgA G)))))))] : va_W) ++ ([(a0, .inr (11, [w0_0, w0_1, .ref a2, w0_3, .ref a3, w0_5, w0_6, .ref a1, w0_8])), (a1, .inr (2, [w1_0, w1_1, w1_2, w1_3, .ref a4, w1_5])), (a3, .inl (E.2 4, 4, .inr (.inr (.inr (.inr ((kgW G))))))), (a4, .inl (E.2 4, 6, .inr (.inr (.inr (.inr ((kgT G)))))))] : va_W)) ++ kpool E G) := hV10.subP [2, 5, 0, 1, 3, 4] rfl rfl
    have hY115 := hY114.swap
    clear hY114
    refine kgoq2 (krunV (rest := []) X hY115 (List.range _) (c_X7_sourceAt l E _ a2 a5 (w2_1) (w2_3) G s_sky_many (p1 - 10) r29_111 hc112) mw_263 kb_X7_sourceAt (ci := 7) rfl rfl (kndR _) (krg _ _) rfl hl.1 rfl (Nat.le_of_ble_eq_true rfl) dX11_textCount_29 (by decide)) X hY115 (fun x118 u119 H locs hp117 hV116 => ?_)
    clear hY115 hV10
    have hV120 : kV E A s.heap H locs (([(a0, .inr (11, [w0_0, w0_1, .ref a2, w0_3, .ref a3, w0_5, w0_6, .ref a1, w0_8])), (a1, .inr (2, [w1_0, w1_1, w1_2, w1_3, .ref a4, w1_5])), (a2, .inr (7, [.ref a5, w2_1, .int s_sky_many, w2_3])), (a3, .inl (E.2 4, 4, .inr (.inr (.inr (.inr ((kgW G))))))), (a4, .inl (E.2 4, 6, .inr (.inr (.inr (.inr ((kgT G))))))), (a5, .inl (E.2 3, 10, .inr (.inr (.inr (.inr ((kgA G)))))))] : va_W) ++ kpool E G) := kV.subP (X := (([(a0, .inr (11, [w0_0, w0_1, .ref a2, w0_3, .ref a3, w0_5, w0_6, .ref a1, w0_8])), (a1, .inr (2, [w1_0, w1_1, w1_2, w1_3, .ref a4, w1_5])), (a3, .inl (E.2 4, 4, .inr (.inr (.inr (.inr ((kgW G))))))), (a4, .inl (E.2 4, 6, .inr (.inr (.inr (.inr ((kgT G)))))))] : va_W) ++ ([(a2, .inr (7, [.ref a5, w2_1, .int s_sky_many, w2_3])), (a5, .inl (E.2 3, 10, .inr (.inr (.inr (.inr ((kgA G)))))))] : va_W))) (P := kpool E G) hV116 [0, 1, 4, 2, 3, 5] rfl rfl
    clear hV116
    subst hp117
    refine W.eq (g2 := F0 m 32 ls [va_rf (r29_111.bind (kgA G))]) rfl ?_
    rcases oS_s h113 with ⟨hq123, h124⟩ | ⟨k_121, s_122, hr125, hq123, hk126, ht127, h128⟩
    · skip
      refine ktopq hq123.symm ?_
      refine W.eq (g2 := F0 m 32 ls [.null]) rfl ?_
      refine lv_astore_nN (lv' := [(2, .null), (0, .ref a0), (1, .int p1)]) hx hb dX11_textCount_32 rfl hl (by decide) rfl (fun ls hl129 => ?_)
      clear hl
      refine lv_aload_nN hx hb dX11_textCount_33 rfl (lv_at hl129 0 rfl) ?_
      refine lv_ifnonnullN hx hb dX11_textCount_34 ?_
      refine lv_iconst (v := (-1)) hx hb dX11_textCount_37 (by decide) ?_
      refine lv_goto (tgt := 48) hx hb dX11_textCount_38 (by decide) ?_
      have q130 := tup1_s h124
      clear h124
      exact hret _ () _ _ _ _ q130 rfl hV120 dX11_textCount_48
    · skip
      subst hr125
      refine ktopq hq123.symm ?_
      refine W.eq (g2 := F0 m 32 ls [.ref s_122.1]) rfl ?_
      refine lv_astore_n (lv' := [(2, .ref s_122.1), (0, .ref a0), (1, .int p1)]) hx hb dX11_textCount_32 rfl hl (by decide) rfl (fun ls hl131 => ?_)
      clear hl
      refine lv_aload_n hx hb dX11_textCount_33 rfl (lv_at hl131 0 rfl) ?_
      refine lv_ifnonnull (tgt := 41) hx hb dX11_textCount_34 (by decide) ?_
      refine lv_aload_n hx hb dX11_textCount_41 rfl (lv_at hl131 0 rfl) ?_
      have hV132 := kdrL (X := [(a0, .inr (11, [w0_0, w0_1, .ref a2, w0_3, .ref a3, w0_5, w0_6, .ref a1, w0_8])), (a1, .inr (2, [w1_0, w1_1, w1_2, w1_3, .ref a4, w1_5])), (a2, .inr (7, [.ref a5, w2_1, .int s_sky_many, w2_3])), (a3, .inl (E.2 4, 4, .inr (.inr (.inr (.inr ((kgW G))))))), (a4, .inl (E.2 4, 6, .inr (.inr (.inr (.inr ((kgT G))))))), (a5, .inl (E.2 3, 10, .inr (.inr (.inr (.inr ((kgA G)))))))]) hk126 ht127 hV120
      refine kget X hV132 (ci := 8) inlX8 rfl 6 rfl 6 (by decide) mw_261 rfl dX11_textCount_42 ?_
      clear hV132
      refine W.eq (g2 := F0 m 45 ls [va_rf ((some k_121).bind (kgX G))]) rfl ?_
      rcases oT_s h128 with ⟨hq135, h136⟩ | ⟨k133, t_134, hr137, hq135, hk138, ht139, h140⟩
      · skip
        refine ktopq hq135.symm ?_
        refine W.eq (g2 := F0 m 45 ls [.null]) rfl ?_
        have hn141 := kgXn hq135
        obtain ⟨r45_142, hc143, h144⟩ := cb1_s h136
        clear h136
        have hY145 : kV E A s.heap _ _ (([] ++ ([(a0, .inr (11, [w0_0, w0_1, .ref a2, w0_3, .ref a3, w0_5, w0_6, .ref a1, w0_8])), (a1, .inr (2, [w1_0, w1_1, w1_2, w1_3, .ref a4, w1_5])), (a2, .inr (7, [.ref a5, w2_1, .int s_sky_many, w2_3])), (a3, .inl (E.2 4, 4, .inr (.inr (.inr (.inr ((kgW G))))))), (a4, .inl (E.2 4, 6, .inr (.inr (.inr (.inr ((kgT G))))))), (a5, .inl (E.2 3, 10, .inr (.inr (.inr (.inr ((kgA G)))))))] : va_W)) ++ kpool E G) := hV120.subP [0, 1, 2, 3, 4, 5] rfl rfl
        have hY146 := hY145.swapT
        clear hY145
        refine kgoiT (krunS (rest := []) X hY146 (List.range _) (c_X11_clausesOf_N l E _ r45_142 hc143) mw_1333 kb_X11_clausesOf (kndR _) (krg _ _) rfl hl131.1 rfl (Nat.le_of_ble_eq_true rfl) dX11_textCount_45 (by decide)) X hY146 (fun u150 H locs hV147 => ?_)
        clear hY146 hV120
        have hV151 : kV E A s.heap H locs (([(a0, .inr (11, [w0_0, w0_1, .ref a2, w0_3, .ref a3, w0_5, w0_6, .ref a1, w0_8])), (a1, .inr (2, [w1_0, w1_1, w1_2, w1_3, .ref a4, w1_5])), (a2, .inr (7, [.ref a5, w2_1, .int s_sky_many, w2_3])), (a3, .inl (E.2 4, 4, .inr (.inr (.inr (.inr ((kgW G))))))), (a4, .inl (E.2 4, 6, .inr (.inr (.inr (.inr ((kgT G))))))), (a5, .inl (E.2 3, 10, .inr (.inr (.inr (.inr ((kgA G)))))))] : va_W) ++ kpool E G) := hV147.subP [0, 1, 2, 3, 4, 5] rfl rfl
        clear hV147
        have q152 := tup1_s h144
        clear h144
        exact hret _ () _ _ _ _ q152 rfl hV151 dX11_textCount_48
      · skip
        obtain rfl := Option.some.inj hr137
        refine ktopq hq135.symm ?_
        refine W.eq (g2 := F0 m 45 ls [.ref t_134.1.1]) rfl ?_
        have hV153 := kopT (X := [(a0, .inr (11, [w0_0, w0_1, .ref a2, w0_3, .ref a3, w0_5, w0_6, .ref a1, w0_8])), (a1, .inr (2, [w1_0, w1_1, w1_2, w1_3, .ref a4, w1_5])), (a2, .inr (7, [.ref a5, w2_1, .int s_sky_many, w2_3])), (a3, .inl (E.2 4, 4, .inr (.inr (.inr (.inr ((kgW G))))))), (a4, .inl (E.2 4, 6, .inr (.inr (.inr (.inr ((kgT G))))))), (a5, .inl (E.2 3, 10, .inr (.inr (.inr (.inr ((kgA G)))))))]) hk138 ht139 hV120
        have hV153 : kV E A s.heap _ _ (([(a0, .inr (11, [w0_0, w0_1, .ref a2, w0_3, .ref a3, w0_5, w0_6, .ref a1, w0_8])), (a1, .inr (2, [w1_0, w1_1, w1_2, w1_3, .ref a4, w1_5])), (a2, .inr (7, [.ref a5, w2_1, .int s_sky_many, w2_3])), (a3, .inl (E.2 4, 4, .inr (.inr (.inr (.inr ((kgW G))))))), (a4, .inl (E.2 4, 6, .inr (.inr (.inr (.inr ((kgT G))))))), (a5, .inl (E.2 3, 10, .inr (.inr (.inr (.inr ((kgA G))))))), ((t_134.1.1), .inr (10, [.int (t_134.2.1), .ref (t_134.1.2.1), .ref (t_134.1.2.2.1), .ref (t_134.1.2.2.2)])), ((t_134.1.2.1), .inl (E.2 0, (t_134.2.2.1.1), .inl ((t_134.2.2.1.2)))), ((t_134.1.2.2.1), .inl (E.2 0, (t_134.2.2.2.1.1), .inl ((t_134.2.2.2.1.2)))), ((t_134.1.2.2.2), .inl (E.2 0, (t_134.2.2.2.2.1), .inl ((t_134.2.2.2.2.2))))] : va_W) ++ kpoolT E G k_121) := hV153
        clear hV120
        obtain ⟨r45_154, hc155, h156⟩ := cb1_s h140
        clear h140
        have hY157 : kV E A s.heap _ _ ((([((t_134.1.1), .inr (10, [.int (t_134.2.1), .ref (t_134.1.2.1), .ref (t_134.1.2.2.1), .ref (t_134.1.2.2.2)]))] : va_W) ++ ([(a0, .inr (11, [w0_0, w0_1, .ref a2, w0_3, .ref a3, w0_5, w0_6, .ref a1, w0_8])), (a1, .inr (2, [w1_0, w1_1, w1_2, w1_3, .ref a4, w1_5])), (a2, .inr (7, [.ref a5, w2_1, .int s_sky_many, w2_3])), (a3, .inl (E.2 4, 4, .inr (.inr (.inr (.inr ((kgW G))))))), (a4, .inl (E.2 4, 6, .inr (.inr (.inr (.inr ((kgT G))))))), (a5, .inl (E.2 3, 10, .inr (.inr (.inr (.inr ((kgA G))))))), ((t_134.1.2.1), .inl (E.2 0, (t_134.2.2.1.1), .inl ((t_134.2.2.1.2)))), ((t_134.1.2.2.1), .inl (E.2 0, (t_134.2.2.2.1.1), .inl ((t_134.2.2.2.1.2)))), ((t_134.1.2.2.2), .inl (E.2 0, (t_134.2.2.2.2.1), .inl ((t_134.2.2.2.2.2))))] : va_W)) ++ kpoolT E G k_121) := hV153.subP [6, 0, 1, 2, 3, 4, 5, 7, 8, 9] rfl rfl
        have hY158 := hY157.swapT
        clear hY157
        refine kgoiT (krunS (rest := []) X hY158 (List.range _) (c_X11_clausesOf l E _ (t_134.1.1) (.ref (t_134.1.2.1)) (.ref (t_134.1.2.2.1)) (.ref (t_134.1.2.2.2)) (t_134.2.1) r45_154 hc155) mw_1333 kb_X11_clausesOf (kndR _) (krg _ _) rfl hl131.1 rfl (Nat.le_of_ble_eq_true rfl) dX11_textCount_45 (by decide)) X hY158 (fun u162 H locs hV159 => ?_)
        clear hY158 hV153
        have hV164 : kV E A s.heap H locs ((([(a0, .inr (11, [w0_0, w0_1, .ref a2, w0_3, .ref a3, w0_5, w0_6, .ref a1, w0_8])), (a1, .inr (2, [w1_0, w1_1, w1_2, w1_3, .ref a4, w1_5])), (a2, .inr (7, [.ref a5, w2_1, .int s_sky_many, w2_3])), (a3, .inl (E.2 4, 4, .inr (.inr (.inr (.inr ((kgW G))))))), (a4, .inl (E.2 4, 6, .inr (.inr (.inr (.inr ((kgT G))))))), (a5, .inl (E.2 3, 10, .inr (.inr (.inr (.inr ((kgA G)))))))] : va_W) ++ (ktc E t_134)) ++ kpoolT E G k_121) := hV159.subP [0, 1, 2, 3, 4, 5, 9, 6, 7, 8] rfl rfl
        have hV163 : kV E A s.heap H locs (([(a0, .inr (11, [w0_0, w0_1, .ref a2, w0_3, .ref a3, w0_5, w0_6, .ref a1, w0_8])), (a1, .inr (2, [w1_0, w1_1, w1_2, w1_3, .ref a4, w1_5])), (a2, .inr (7, [.ref a5, w2_1, .int s_sky_many, w2_3])), (a3, .inl (E.2 4, 4, .inr (.inr (.inr (.inr ((kgW G))))))), (a4, .inl (E.2 4, 6, .inr (.inr (.inr (.inr ((kgT G))))))), (a5, .inl (E.2 3, 10, .inr (.inr (.inr (.inr ((kgA G)))))))] : va_W) ++ kpool E G) := kclT hk138 ht139 hV164
        clear hV164
        clear hV159
        have q165 := tup1_s h156
        clear h156
        exact hret _ () _ _ _ _ q165 rfl hV163 dX11_textCount_48
