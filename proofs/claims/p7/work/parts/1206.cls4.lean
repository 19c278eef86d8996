noncomputable def f_X0_add_J33 (s_many : Int32) (s_times : Nat → Int32) (p1 : Int32)   : Option (Int32 × Int32 × (Nat → Int32)) :=
    wrI s_times 40 s_many p1 fun g42_7 =>
    nmI (s_many + 1) fun v50_12 =>
    some ((v50_12 - 1), v50_12, g42_7)
noncomputable def f_X0_add (s_many : Int32) (s_times : Nat → Int32) (p1 : Int32) : Option (Int32 × Int32 × (Nat → Int32)) :=
    if 40 ≤ s_many then
    (some ((-1), s_many, s_times))
    else
    (if s_many ≤ 0 then
      ((f_X0_add_J33 s_many s_times p1 ))
      else
      (rdI s_times 40 (s_many - 1) fun v27_22 =>
        if v27_22 < p1 then
        ((f_X0_add_J33 s_many s_times p1 ))
        else
        (some ((-1), s_many, s_times))))
abbrev r_X0_add : Room := { frames := 0, cells := 0, slots := 0, locals := 0 }
set_option maxHeartbeats 4000000 in
set_option maxRecDepth 100000 in
theorem c_X0_add (l : Launch) (E : kE) (sz : Nat) (a0 a1 : Nat) (w0_1 w0_3 w0_4 w0_5 : Value) (s_many : Int32) (s_times : Nat → Int32) (p1 : Int32) (r : Int32) (o_many : Int32) (o_times : Nat → Int32) (h : f_X0_add s_many s_times p1 = some (r, o_many, o_times)) : kMi l yX0_add cX0_add 2 (some .int) r_X0_add [.ref a0, .int p1] E [(a0, .inr (0, [.ref a1, w0_1, .int s_many, w0_3, w0_4, w0_5])), (a1, .inl (E.2 0, 40, .inl s_times))] sz 0 0 (fun x (_ : Unit) => x = r) (fun _ => [(a0, .inr (0, [.ref a1, w0_1, .int o_many, w0_3, w0_4, w0_5])), (a1, .inl (E.2 0, 40, .inl o_times))]) := by
  refine kmeti rfl (Nat.le_of_ble_eq_true rfl) ?_
  intro p e s m args below meth c ls A Q X hV hret hl
  have X : kC p s m c cX0_add 2 RX0 args E A := X
  have hx := X.1
  have hb := X.2.1
  have hl : lv_has ls 2 [(0, .ref a0), (1, .int p1)] := hl
  rw [f_X0_add] at h
  refine lv_aload_n hx hb dX0_add_0 rfl (lv_at hl 0 rfl) ?_
  refine kget X hV (ci := 0) inlX0 rfl 0 rfl 2 (by decide) mw_111 rfl dX0_add_1 ?_
  refine lv_bipush (v := 40) hx hb dX0_add_4 (by decide) ?_
  refine lv_icmp_ge (tgt := 31) hx hb dX0_add_6 (by decide) (fun c1 => ?_) (fun c1 => ?_)
  · have h2 := itS c1 h
    clear h c1
    refine lv_iconst (v := (-1)) hx hb dX0_add_31 (by decide) ?_
    obtain ⟨q4, q5, q6⟩ := tup3_s h2
    clear h2
    exact hret _ () _ _ _ _ q4 rfl (by rw [← q5, ← q6]; exact hV) dX0_add_32
  · have h3 := ieS c1 h
    clear h c1
    refine lv_aload_n hx hb dX0_add_9 rfl (lv_at hl 0 rfl) ?_
    refine kget X hV (ci := 0) inlX0 rfl 0 rfl 2 (by decide) mw_111 rfl dX0_add_10 ?_
    have J33 : ∀  (H : Heap) (locs : List Loc) (ls : Array Slot), (f_X0_add_J33 s_many s_times p1 ) = some (r, o_many, o_times) → kV E A s.heap H locs [(a0, .inr (0, [.ref a1, w0_1, .int s_many, w0_3, w0_4, w0_5])), (a1, .inl (E.2 0, 40, .inl s_times))] → lv_has ls 2 [(0, .ref a0), (1, .int p1)] → W p l e r_X0_add s m args below meth c H locs 0 0 Q (F0 m 33 ls []) := by
      intro  H locs ls hB33 hVB33 hlB33
      rw [f_X0_add_J33] at hB33
      refine lv_aload_n hx hb dX0_add_33 rfl (lv_at hlB33 0 rfl) ?_
      refine kget X hVB33 (ci := 0) inlX0 rfl 0 rfl 0 (by decide) mw_109 rfl dX0_add_34 ?_
      refine lv_aload_n hx hb dX0_add_37 rfl (lv_at hlB33 0 rfl) ?_
      refine kget X hVB33 (ci := 0) inlX0 rfl 0 rfl 2 (by decide) mw_111 rfl dX0_add_38 ?_
      refine lv_iload_n hx hb dX0_add_41 rfl (lv_at hlB33 1 rfl) ?_
      obtain ⟨hi8, g42_7, e9, h10⟩ := wrI_s hB33
      clear hB33
      refine kiast X hVB33 1 rfl hi8 e9 dX0_add_42 (fun H locs hV11 => ?_)
      have hV11 : kV E A s.heap H locs [(a0, .inr (0, [.ref a1, w0_1, .int s_many, w0_3, w0_4, w0_5])), (a1, .inl (E.2 0, 40, .inl g42_7))] := hV11
      clear hVB33 hi8 e9
      refine lv_aload_n hx hb dX0_add_43 rfl (lv_at hlB33 0 rfl) ?_
      refine lv_dup hx hb dX0_add_44 rfl ?_
      refine kget X hV11 (ci := 0) inlX0 rfl 0 rfl 2 (by decide) mw_111 rfl dX0_add_45 ?_
      refine lv_iconst (v := 1) hx hb dX0_add_48 (by decide) ?_
      refine lv_iadd hx hb dX0_add_49 ?_
      obtain ⟨v50_12, e13, h14⟩ := nmI_s h10
      clear h10
      refine ktopi e13 ?_
      clear e13
      refine kput X hV11 (ci := 0) inlX0 rfl tyX0 tyX0_ok nmX0 0 rfl 2 (by decide) mw_111 rfl rfl rfl (Nat.le_of_ble_eq_true rfl) dX0_add_50 (fun H locs hV15 => ?_)
      have hV15 : kV E A s.heap H locs [(a0, .inr (0, [.ref a1, w0_1, .int v50_12, w0_3, w0_4, w0_5])), (a1, .inl (E.2 0, 40, .inl g42_7))] := hV15
      clear hV11
      refine lv_aload_n hx hb dX0_add_53 rfl (lv_at hlB33 0 rfl) ?_
      refine kget X hV15 (ci := 0) inlX0 rfl 0 rfl 2 (by decide) mw_111 rfl dX0_add_54 ?_
      refine lv_iconst (v := 1) hx hb dX0_add_57 (by decide) ?_
      refine lv_isub hx hb dX0_add_58 ?_
      obtain ⟨q16, q17, q18⟩ := tup3_s h14
      clear h14
      exact hret _ () _ _ _ _ q16 rfl (by rw [← q17, ← q18]; exact hV15) dX0_add_59
    refine lv_if_le (tgt := 33) hx hb dX0_add_13 (by decide) (fun c19 => ?_) (fun c19 => ?_)
    · have h20 := itS c19 h3
      clear h3 c19
      exact J33  _ _ _ h20 hV (lv_sub hl [0, 1] rfl)
    · have h21 := ieS c19 h3
      clear h3 c19
      refine lv_iload_n hx hb dX0_add_16 rfl (lv_at hl 1 rfl) ?_
      refine lv_aload_n hx hb dX0_add_17 rfl (lv_at hl 0 rfl) ?_
      refine kget X hV (ci := 0) inlX0 rfl 0 rfl 0 (by decide) mw_109 rfl dX0_add_18 ?_
      refine lv_aload_n hx hb dX0_add_21 rfl (lv_at hl 0 rfl) ?_
      refine kget X hV (ci := 0) inlX0 rfl 0 rfl 2 (by decide) mw_111 rfl dX0_add_22 ?_
      refine lv_iconst (v := 1) hx hb dX0_add_25 (by decide) ?_
      refine lv_isub hx hb dX0_add_26 ?_
      obtain ⟨hi23, v27_22, e24, h25⟩ := rdI_s h21
      clear h21
      refine kiald X hV 1 rfl hi23 e24 dX0_add_27 ?_
      clear hi23 e24
      refine lv_icmp_gt (tgt := 33) hx hb dX0_add_28 (by decide) (fun c26 => ?_) (fun c26 => ?_)
      · have h27 := itS c26 h25
        clear h25 c26
        exact J33  _ _ _ h27 hV (lv_sub hl [0, 1] rfl)
      · have h28 := ieS c26 h25
        clear h25 c26
        refine lv_iconst (v := (-1)) hx hb dX0_add_31 (by decide) ?_
        obtain ⟨q29, q30, q31⟩ := tup3_s h28
        clear h28
        exact hret _ () _ _ _ _ q29 rfl (by rw [← q30, ← q31]; exact hV) dX0_add_32
noncomputable def f_X0_fitTo_J37 (s_many : Int32) (p1 : Int32) (p2 : Int32)  (rests__5 : Nat → Int32) : Option (Int32 × (Nat → Int32)) :=
    cb1 (f_X11_lieOnArc 40 rests__5 s_many p1 (2 * p2)) fun r49_6 =>
    bo r49_6 <|
    some (r49_6, rests__5)
noncomputable def f_X0_fitTo_L9 (s_many : Int32) (s_times : Nat → Int32) (p1 : Int32) (K37 : (Nat → Int32) → Option (Int32 × (Nat → Int32))) : Nat → Int32 → (Nat → Int32) → Option (Int32 × (Nat → Int32))
  | 0, _, _ => none
  | n9 + 1, x3_15, rests__16 =>
    if s_many ≤ x3_15 then
    (K37 rests__16)
    else
    (rdI s_times 40 x3_15 fun v27_20 =>
      dvI p1 <|
      nmI (jrem v27_20 p1) fun v30_26 =>
      wrI rests__16 40 x3_15 v30_26 fun g30_29 =>
      nmI (x3_15 + 1) fun v31_34 =>
      (f_X0_fitTo_L9 s_many s_times p1 K37 n9) v31_34 g30_29)
noncomputable def f_X0_fitTo (s_many : Int32) (s_rests : Nat → Int32) (s_times : Nat → Int32) (p1 : Int32) (p2 : Int32) : Option (Int32 × (Nat → Int32)) :=
    if 1 ≤ p1 then
    ((f_X0_fitTo_L9 s_many s_times p1 (f_X0_fitTo_J37 s_many p1 p2 ) FU) 0 s_rests)
    else
    (some (0, s_rests))
abbrev r_X0_fitTo : Room := { frames := 2, cells := 0, slots := 0, locals := 50 }
set_option maxHeartbeats 4000000 in
set_option maxRecDepth 100000 in
theorem c_X0_fitTo (l : Launch) (E : kE) (sz : Nat) (a0 a1 a2 : Nat) (w0_3 w0_4 w0_5 : Value) (s_many : Int32) (s_rests : Nat → Int32) (s_times : Nat → Int32) (p1 : Int32) (p2 : Int32) (r : Int32) (o_rests : Nat → Int32) (h : f_X0_fitTo s_many s_rests s_times p1 p2 = some (r, o_rests)) : kMi l yX0_fitTo cX0_fitTo 4 (some .boolean) r_X0_fitTo [.ref a0, .int p1, .int p2] E [(a0, .inr (0, [.ref a2, .ref a1, .int s_many, w0_3, w0_4, w0_5])), (a1, .inl (E.2 0, 40, .inl s_rests)), (a2, .inl (E.2 0, 40, .inl s_times))] sz 0 0 (fun x (_ : Unit) => x = r) (fun _ => [(a0, .inr (0, [.ref a2, .ref a1, .int s_many, w0_3, w0_4, w0_5])), (a1, .inl (E.2 0, 40, .inl o_rests)), (a2, .inl (E.2 0, 40, .inl s_times))]) := by
  refine kmeti rfl (Nat.le_of_ble_eq_true rfl) ?_
  intro p e s m args below meth c ls A Q X hV hret hl
  have X : kC p s m c cX0_fitTo 4 RX0 args E A := X
  have hx := X.1
  have hb := X.2.1
  have hl : lv_has ls 4 [(0, .ref a0), (1, .int p1), (2, .int p2)] := hl
  rw [f_X0_fitTo] at h
  refine lv_iload_n hx hb dX0_fitTo_0 rfl (lv_at hl 1 rfl) ?_
  refine lv_iconst (v := 1) hx hb dX0_fitTo_1 (by decide) ?_
  refine lv_icmp_ge (tgt := 7) hx hb dX0_fitTo_2 (by decide) (fun c1 => ?_) (fun c1 => ?_)
  · have h2 := itS c1 h
    clear h c1
    refine lv_iconst (v := 0) hx hb dX0_fitTo_7 (by decide) ?_
    refine lv_istore_n (lv' := [(3, .int 0), (0, .ref a0), (1, .int p1), (2, .int p2)]) hx hb dX0_fitTo_8 rfl hl (by decide) rfl (fun ls hl4 => ?_)
    clear hl
    have J37 : ∀ (rests__5 : Nat → Int32) (H : Heap) (locs : List Loc) (ls : Array Slot), (f_X0_fitTo_J37 s_many p1 p2 ) rests__5 = some (r, o_rests) → kV E A s.heap H locs [(a0, .inr (0, [.ref a2, .ref a1, .int s_many, w0_3, w0_4, w0_5])), (a1, .inl (E.2 0, 40, .inl rests__5)), (a2, .inl (E.2 0, 40, .inl s_times))] → lv_has ls 4 [(0, .ref a0), (1, .int p1), (2, .int p2)] → W p l e r_X0_fitTo s m args below meth c H locs 0 0 Q (F0 m 37 ls []) := by
      intro rests__5 H locs ls hB37 hVB37 hlB37
      rw [f_X0_fitTo_J37] at hB37
      refine lv_aload_n hx hb dX0_fitTo_37 rfl (lv_at hlB37 0 rfl) ?_
      refine kget X hVB37 (ci := 0) inlX0 rfl 0 rfl 1 (by decide) mw_110 rfl dX0_fitTo_38 ?_
      refine lv_aload_n hx hb dX0_fitTo_41 rfl (lv_at hlB37 0 rfl) ?_
      refine kget X hVB37 (ci := 0) inlX0 rfl 0 rfl 2 (by decide) mw_111 rfl dX0_fitTo_42 ?_
      refine lv_iload_n hx hb dX0_fitTo_45 rfl (lv_at hlB37 1 rfl) ?_
      refine lv_iconst (v := 2) hx hb dX0_fitTo_46 (by decide) ?_
      refine lv_iload_n hx hb dX0_fitTo_47 rfl (lv_at hlB37 2 rfl) ?_
      refine lv_imul hx hb dX0_fitTo_48 ?_
      obtain ⟨r49_6, hc7, h8⟩ := cb1_s hB37
      clear hB37
      refine kgoiE (krunSN (rest := []) X hVB37 [1] (c_X11_lieOnArc l E _ a1 40 rests__5 s_many p1 (2 * p2) r49_6 hc7) (List.mem_of_getElem? (i := 8) rfl) kb_X11_lieOnArc (by decide) rfl rfl hlB37.1 rfl (Nat.le_of_ble_eq_true rfl) dX0_fitTo_49 (by decide)) X hVB37 [1] [0, 2] rfl rfl rfl (by decide) (fun u H locs hV9 => ?_)
      have hV9 : kV E A s.heap H locs [(a0, .inr (0, [.ref a2, .ref a1, .int s_many, w0_3, w0_4, w0_5])), (a1, .inl (E.2 0, 40, .inl rests__5)), (a2, .inl (E.2 0, 40, .inl s_times))] := hV9.sub [0, 2, 1] rfl rfl
      clear hVB37
      obtain ⟨hb11, h12⟩ := bo_s h8
      clear h8
      obtain ⟨q13, q14⟩ := tup2_s h12
      clear h12
      exact hret _ () _ _ _ _ q13 hb11 (by rw [← q14]; exact hV9) dX0_fitTo_52
    have L9 : ∀ (n9 : Nat) (x3_15 : Int32) (rests__16 : Nat → Int32) (H : Heap) (locs : List Loc) (ls : Array Slot), (f_X0_fitTo_L9 s_many s_times p1 (f_X0_fitTo_J37 s_many p1 p2 ) n9) x3_15 rests__16 = some (r, o_rests) → kV E A s.heap H locs [(a0, .inr (0, [.ref a2, .ref a1, .int s_many, w0_3, w0_4, w0_5])), (a1, .inl (E.2 0, 40, .inl rests__16)), (a2, .inl (E.2 0, 40, .inl s_times))] → lv_has ls 4 [(0, .ref a0), (1, .int p1), (2, .int p2), (3, .int x3_15)] → W p l e r_X0_fitTo s m args below meth c H locs 0 0 Q (F0 m 9 ls []) := by
      intro n9
      induction n9 with
      | zero =>
        intro x3_15 rests__16 H locs ls hB9 hVB9 hlB9
        rw [f_X0_fitTo_L9] at hB9
        exact nomatch hB9
      | succ n9 ih9 =>
        intro x3_15 rests__16 H locs ls hB9 hVB9 hlB9
        rw [f_X0_fitTo_L9] at hB9
        refine lv_iload_n hx hb dX0_fitTo_9 rfl (lv_at hlB9 3 rfl) ?_
        refine lv_aload_n hx hb dX0_fitTo_10 rfl (lv_at hlB9 0 rfl) ?_
        refine kget X hVB9 (ci := 0) inlX0 rfl 0 rfl 2 (by decide) mw_111 rfl dX0_fitTo_11 ?_
        refine lv_icmp_ge (tgt := 37) hx hb dX0_fitTo_14 (by decide) (fun c17 => ?_) (fun c17 => ?_)
        · have h18 := itS c17 hB9
          clear hB9 c17
          exact J37 rests__16 _ _ _ h18 hVB9 (lv_sub hlB9 [0, 1, 2] rfl)
        · have h19 := ieS c17 hB9
          clear hB9 c17
          refine lv_aload_n hx hb dX0_fitTo_17 rfl (lv_at hlB9 0 rfl) ?_
          refine kget X hVB9 (ci := 0) inlX0 rfl 0 rfl 1 (by decide) mw_110 rfl dX0_fitTo_18 ?_
          refine lv_iload_n hx hb dX0_fitTo_21 rfl (lv_at hlB9 3 rfl) ?_
          refine lv_aload_n hx hb dX0_fitTo_22 rfl (lv_at hlB9 0 rfl) ?_
          refine kget X hVB9 (ci := 0) inlX0 rfl 0 rfl 0 (by decide) mw_109 rfl dX0_fitTo_23 ?_
          refine lv_iload_n hx hb dX0_fitTo_26 rfl (lv_at hlB9 3 rfl) ?_
          obtain ⟨hi21, v27_20, e22, h23⟩ := rdI_s h19
          clear h19
          refine kiald X hVB9 2 rfl hi21 e22 dX0_fitTo_27 ?_
          clear hi21 e22
          refine lv_iload_n hx hb dX0_fitTo_28 rfl (lv_at hlB9 1 rfl) ?_
          obtain ⟨hn24, h25⟩ := dvI_s h23
          clear h23
          refine lv_irem hx hb dX0_fitTo_29 hn24 ?_
          obtain ⟨v30_26, e27, h28⟩ := nmI_s h25
          clear h25
          refine ktopi e27 ?_
          clear e27
          obtain ⟨hi30, g30_29, e31, h32⟩ := wrI_s h28
          clear h28
          refine kiast X hVB9 1 rfl hi30 e31 dX0_fitTo_30 (fun H locs hV33 => ?_)
          have hV33 : kV E A s.heap H locs [(a0, .inr (0, [.ref a2, .ref a1, .int s_many, w0_3, w0_4, w0_5])), (a1, .inl (E.2 0, 40, .inl g30_29)), (a2, .inl (E.2 0, 40, .inl s_times))] := hV33
          clear hVB9 hi30 e31
          obtain ⟨v31_34, e35, h36⟩ := nmI_s h32
          clear h32
          refine lv_iinc (v := v31_34) (lv' := [(3, .int v31_34), (0, .ref a0), (1, .int p1), (2, .int p2)]) hx hb dX0_fitTo_31 hlB9 (k := 3) rfl (by rw [e35]; rfl) (by decide) rfl (fun ls hl37 => ?_)
          clear hlB9 e35
          refine lv_goto (tgt := 9) hx hb dX0_fitTo_34 (by decide) ?_
          exact ih9 v31_34 g30_29 _ _ _ h36 hV33 (lv_sub hl37 [1, 2, 3, 0] rfl)
    exact L9 FU 0 s_rests _ _ _ h2 hV (lv_sub hl4 [1, 2, 3, 0] rfl)
  · have h3 := ieS c1 h
    clear h c1
    refine lv_iconst (v := 0) hx hb dX0_fitTo_5 (by decide) ?_
    obtain ⟨q38, q39⟩ := tup2_s h3
    clear h3
    exact hret _ () _ _ _ _ q38 rfl (by rw [← q39]; exact hV) dX0_fitTo_6
noncomputable def f_X0_scan_J51 (x4_5 : Int32) (fitting__6 : Int32) (o_rests28_18 : Nat → Int32) (K18 : Int32 → Int32 → Int32 → Int32 → (Nat → Int32) → Option (Int32 × Int32 × Int32 × (Nat → Int32))) (t1_30 : Int32) : Option (Int32 × Int32 × Int32 × (Nat → Int32)) :=
    nmI (fitting__6 + 1) fun v67_33 =>
    nmI (x4_5 + 1) fun v70_37 =>
    K18 v70_37 v67_33 x4_5 t1_30 o_rests28_18
noncomputable def f_X0_scan_L18 (s_many : Int32) (s_times : Nat → Int32) (p2 : Int32) (p3 : Int32)  : Nat → Int32 → Int32 → Int32 → Int32 → (Nat → Int32) → Option (Int32 × Int32 × Int32 × (Nat → Int32))
  | 0, _, _, _, _, _ => none
  | n18 + 1, x4_5, fitting__6, greatest__7, least__8, rests__9 =>
    if p2 < x4_5 then
    (some (fitting__6, least__8, greatest__7, rests__9))
    else
    (cb2 (f_X0_fitTo s_many rests__9 s_times x4_5 p3) fun r28_17 o_rests28_18 =>
      if r28_17 = 0 then
      (nmI (x4_5 + 1) fun v70_26 =>
        (f_X0_scan_L18 s_many s_times p2 p3  n18) v70_26 fitting__6 greatest__7 least__8 o_rests28_18)
      else
      (if fitting__6 = 0 then
        ((f_X0_scan_J51 x4_5 fitting__6 o_rests28_18 (f_X0_scan_L18 s_many s_times p2 p3  n18)) x4_5)
        else
        ((f_X0_scan_J51 x4_5 fitting__6 o_rests28_18 (f_X0_scan_L18 s_many s_times p2 p3  n18)) least__8)))
noncomputable def f_X0_scan (s_many : Int32) (s_fitting : Int32) (s_least : Int32) (s_greatest : Int32) (s_rests : Nat → Int32) (s_times : Nat → Int32) (p1 : Int32) (p2 : Int32) (p3 : Int32) : Option (Int32 × Int32 × Int32 × (Nat → Int32)) :=
    (f_X0_scan_L18 s_many s_times p2 p3  FU) p1 0 (-1) (-1) s_rests
abbrev r_X0_scan : Room := { frames := 3, cells := 0, slots := 0, locals := 73 }
set_option maxHeartbeats 4000000 in
set_option maxRecDepth 100000 in
theorem c_X0_scan (l : Launch) (E : kE) (sz : Nat) (a0 a1 a2 : Nat) (s_many : Int32) (s_fitting : Int32) (s_least : Int32) (s_greatest : Int32) (s_rests : Nat → Int32) (s_times : Nat → Int32) (p1 : Int32) (p2 : Int32) (p3 : Int32) (o_fitting : Int32) (o_least : Int32) (o_greatest : Int32) (o_rests : Nat → Int32) (h : f_X0_scan s_many s_fitting s_least s_greatest s_rests s_times p1 p2 p3 = some (o_fitting, o_least, o_greatest, o_rests)) : kMv l yX0_scan cX0_scan 5 r_X0_scan [.ref a0, .int p1, .int p2, .int p3] E [(a0, .inr (0, [.ref a2, .ref a1, .int s_many, .int s_fitting, .int s_least, .int s_greatest])), (a1, .inl (E.2 0, 40, .inl s_rests)), (a2, .inl (E.2 0, 40, .inl s_times))] sz 0 0 (fun (_ : Unit) => True) (fun _ => [(a0, .inr (0, [.ref a2, .ref a1, .int s_many, .int o_fitting, .int o_least, .int o_greatest])), (a1, .inl (E.2 0, 40, .inl o_rests)), (a2, .inl (E.2 0, 40, .inl s_times))]) := by
  refine kmetv rfl (Nat.le_of_ble_eq_true rfl) ?_
  intro p e s m args below meth c ls A Q X hnm hV hret hl
  have X : kC p s m c cX0_scan 5 RX0 args E A := X
  have hx := X.1
  have hb := X.2.1
  have hl : lv_has ls 5 [(0, .ref a0), (1, .int p1), (2, .int p2), (3, .int p3)] := hl
  rw [f_X0_scan] at h
  refine lv_aload_n hx hb dX0_scan_0 rfl (lv_at hl 0 rfl) ?_
  refine lv_iconst (v := 0) hx hb dX0_scan_1 (by decide) ?_
  refine kput X hV (ci := 0) inlX0 rfl tyX0 tyX0_ok nmX0 0 rfl 3 (by decide) mw_112 rfl rfl rfl (Nat.le_of_ble_eq_true rfl) dX0_scan_2 (fun H locs hV1 => ?_)
  have hV1 : kV E A s.heap H locs [(a0, .inr (0, [.ref a2, .ref a1, .int s_many, .int 0, .int s_least, .int s_greatest])), (a1, .inl (E.2 0, 40, .inl s_rests)), (a2, .inl (E.2 0, 40, .inl s_times))] := hV1
  clear hV
  refine lv_aload_n hx hb dX0_scan_5 rfl (lv_at hl 0 rfl) ?_
  refine lv_iconst (v := (-1)) hx hb dX0_scan_6 (by decide) ?_
  refine kput X hV1 (ci := 0) inlX0 rfl tyX0 tyX0_ok nmX0 0 rfl 4 (by decide) mw_113 rfl rfl rfl (Nat.le_of_ble_eq_true rfl) dX0_scan_7 (fun H locs hV2 => ?_)
  have hV2 : kV E A s.heap H locs [(a0, .inr (0, [.ref a2, .ref a1, .int s_many, .int 0, .int (-1), .int s_greatest])), (a1, .inl (E.2 0, 40, .inl s_rests)), (a2, .inl (E.2 0, 40, .inl s_times))] := hV2
  clear hV1
  refine lv_aload_n hx hb dX0_scan_10 rfl (lv_at hl 0 rfl) ?_
  refine lv_iconst (v := (-1)) hx hb dX0_scan_11 (by decide) ?_
  refine kput X hV2 (ci := 0) inlX0 rfl tyX0 tyX0_ok nmX0 0 rfl 5 (by decide) mw_114 rfl rfl rfl (Nat.le_of_ble_eq_true rfl) dX0_scan_12 (fun H locs hV3 => ?_)
  have hV3 : kV E A s.heap H locs [(a0, .inr (0, [.ref a2, .ref a1, .int s_many, .int 0, .int (-1), .int (-1)])), (a1, .inl (E.2 0, 40, .inl s_rests)), (a2, .inl (E.2 0, 40, .inl s_times))] := hV3
  clear hV2
  refine lv_iload_n hx hb dX0_scan_15 rfl (lv_at hl 1 rfl) ?_
  refine lv_istore (lv' := [(4, .int p1), (0, .ref a0), (1, .int p1), (2, .int p2), (3, .int p3)]) hx hb dX0_scan_16 hl (by decide) rfl (fun ls hl4 => ?_)
  clear hl
  have L18 : ∀ (n18 : Nat) (x4_5 : Int32) (fitting__6 : Int32) (greatest__7 : Int32) (least__8 : Int32) (rests__9 : Nat → Int32) (H : Heap) (locs : List Loc) (ls : Array Slot), (f_X0_scan_L18 s_many s_times p2 p3  n18) x4_5 fitting__6 greatest__7 least__8 rests__9 = some (o_fitting, o_least, o_greatest, o_rests) → kV E A s.heap H locs [(a0, .inr (0, [.ref a2, .ref a1, .int s_many, .int fitting__6, .int least__8, .int greatest__7])), (a1, .inl (E.2 0, 40, .inl rests__9)), (a2, .inl (E.2 0, 40, .inl s_times))] → lv_has ls 5 [(0, .ref a0), (2, .int p2), (3, .int p3), (4, .int x4_5)] → W p l e r_X0_scan s m args below meth c H locs 0 0 Q (F0 m 18 ls []) := by
    intro n18
    induction n18 with
    | zero =>
      intro x4_5 fitting__6 greatest__7 least__8 rests__9 H locs ls hB18 hVB18 hlB18
      rw [f_X0_scan_L18] at hB18
      exact nomatch hB18
    | succ n18 ih18 =>
      intro x4_5 fitting__6 greatest__7 least__8 rests__9 H locs ls hB18 hVB18 hlB18
      rw [f_X0_scan_L18] at hB18
      refine lv_iload hx hb dX0_scan_18 (lv_at hlB18 3 rfl) ?_
      refine lv_iload_n hx hb dX0_scan_20 rfl (lv_at hlB18 1 rfl) ?_
      refine lv_icmp_gt (tgt := 76) hx hb dX0_scan_21 (by decide) (fun c10 => ?_) (fun c10 => ?_)
      · have h11 := itS c10 hB18
        clear hB18 c10
        obtain ⟨q13, q14, q15, q16⟩ := tup4_s h11
        clear h11
        exact hret () _ _ _ _ trivial (by rw [← q13, ← q14, ← q15, ← q16]; exact hVB18) dX0_scan_76
      · have h12 := ieS c10 hB18
        clear hB18 c10
        refine lv_aload_n hx hb dX0_scan_24 rfl (lv_at hlB18 0 rfl) ?_
        refine lv_iload hx hb dX0_scan_25 (lv_at hlB18 3 rfl) ?_
        refine lv_iload_n hx hb dX0_scan_27 rfl (lv_at hlB18 2 rfl) ?_
        obtain ⟨r28_17, o_rests28_18, hc19, h20⟩ := cb2_s h12
        clear h12
        refine kgoiE (krunV (rest := []) X hVB18 [0, 1, 2] (c_X0_fitTo l E _ a0 a1 a2 (.int fitting__6) (.int least__8) (.int greatest__7) s_many rests__9 s_times x4_5 p3 r28_17 o_rests28_18 hc19) mw_1034 kb_X0_fitTo (ci := 0) rfl rfl (by decide) rfl rfl hlB18.1 rfl (Nat.le_of_ble_eq_true rfl) dX0_scan_28 (by decide)) X hVB18 [0, 1, 2] [] rfl rfl rfl (by decide) (fun u H locs hV21 => ?_)
        have hV21 : kV E A s.heap H locs [(a0, .inr (0, [.ref a2, .ref a1, .int s_many, .int fitting__6, .int least__8, .int greatest__7])), (a1, .inl (E.2 0, 40, .inl o_rests28_18)), (a2, .inl (E.2 0, 40, .inl s_times))] := hV21.sub [0, 1, 2] rfl rfl
        clear hVB18
        refine lv_if_eq (tgt := 70) hx hb dX0_scan_31 (by decide) (fun c23 => ?_) (fun c23 => ?_)
        · have h24 := itS c23 h20
          clear h20 c23
          obtain ⟨v70_26, e27, h28⟩ := nmI_s h24
          clear h24
          refine lv_iinc (v := v70_26) (lv' := [(4, .int v70_26), (0, .ref a0), (2, .int p2), (3, .int p3)]) hx hb dX0_scan_70 hlB18 (k := 3) rfl (by rw [e27]; rfl) (by decide) rfl (fun ls hl29 => ?_)
          clear hlB18 e27
          refine lv_goto (tgt := 18) hx hb dX0_scan_73 (by decide) ?_
          exact ih18 v70_26 fitting__6 greatest__7 least__8 o_rests28_18 _ _ _ h28 hV21 (lv_sub hl29 [1, 2, 3, 0] rfl)
        · have h25 := ieS c23 h20
          clear h20 c23
          refine lv_aload_n hx hb dX0_scan_34 rfl (lv_at hlB18 0 rfl) ?_
          refine lv_aload_n hx hb dX0_scan_35 rfl (lv_at hlB18 0 rfl) ?_
          refine kget X hV21 (ci := 0) inlX0 rfl 0 rfl 3 (by decide) mw_112 rfl dX0_scan_36 ?_
          have J51 : ∀ (t1_30 : Int32) (H : Heap) (locs : List Loc) (ls : Array Slot), (f_X0_scan_J51 x4_5 fitting__6 o_rests28_18 (f_X0_scan_L18 s_many s_times p2 p3  n18)) t1_30 = some (o_fitting, o_least, o_greatest, o_rests) → kV E A s.heap H locs [(a0, .inr (0, [.ref a2, .ref a1, .int s_many, .int fitting__6, .int least__8, .int greatest__7])), (a1, .inl (E.2 0, 40, .inl o_rests28_18)), (a2, .inl (E.2 0, 40, .inl s_times))] → lv_has ls 5 [(0, .ref a0), (2, .int p2), (3, .int p3), (4, .int x4_5)] → W p l e r_X0_scan s m args below meth c H locs 0 0 Q (F0 m 51 ls [.int t1_30, .ref a0]) := by
            intro t1_30 H locs ls hB51 hVB51 hlB51
            rw [f_X0_scan_J51] at hB51
            refine kput X hVB51 (ci := 0) inlX0 rfl tyX0 tyX0_ok nmX0 0 rfl 4 (by decide) mw_113 rfl rfl rfl (Nat.le_of_ble_eq_true rfl) dX0_scan_51 (fun H locs hV31 => ?_)
            have hV31 : kV E A s.heap H locs [(a0, .inr (0, [.ref a2, .ref a1, .int s_many, .int fitting__6, .int t1_30, .int greatest__7])), (a1, .inl (E.2 0, 40, .inl o_rests28_18)), (a2, .inl (E.2 0, 40, .inl s_times))] := hV31
            clear hVB51
            refine lv_aload_n hx hb dX0_scan_54 rfl (lv_at hlB51 0 rfl) ?_
            refine lv_iload hx hb dX0_scan_55 (lv_at hlB51 3 rfl) ?_
            refine kput X hV31 (ci := 0) inlX0 rfl tyX0 tyX0_ok nmX0 0 rfl 5 (by decide) mw_114 rfl rfl rfl (Nat.le_of_ble_eq_true rfl) dX0_scan_57 (fun H locs hV32 => ?_)
            have hV32 : kV E A s.heap H locs [(a0, .inr (0, [.ref a2, .ref a1, .int s_many, .int fitting__6, .int t1_30, .int x4_5])), (a1, .inl (E.2 0, 40, .inl o_rests28_18)), (a2, .inl (E.2 0, 40, .inl s_times))] := hV32
            clear hV31
            refine lv_aload_n hx hb dX0_scan_60 rfl (lv_at hlB51 0 rfl) ?_
            refine lv_dup hx hb dX0_scan_61 rfl ?_
            refine kget X hV32 (ci := 0) inlX0 rfl 0 rfl 3 (by decide) mw_112 rfl dX0_scan_62 ?_
            refine lv_iconst (v := 1) hx hb dX0_scan_65 (by decide) ?_
            refine lv_iadd hx hb dX0_scan_66 ?_
            obtain ⟨v67_33, e34, h35⟩ := nmI_s hB51
            clear hB51
            refine ktopi e34 ?_
            clear e34
            refine kput X hV32 (ci := 0) inlX0 rfl tyX0 tyX0_ok nmX0 0 rfl 3 (by decide) mw_112 rfl rfl rfl (Nat.le_of_ble_eq_true rfl) dX0_scan_67 (fun H locs hV36 => ?_)
            have hV36 : kV E A s.heap H locs [(a0, .inr (0, [.ref a2, .ref a1, .int s_many, .int v67_33, .int t1_30, .int x4_5])), (a1, .inl (E.2 0, 40, .inl o_rests28_18)), (a2, .inl (E.2 0, 40, .inl s_times))] := hV36
            clear hV32
            obtain ⟨v70_37, e38, h39⟩ := nmI_s h35
            clear h35
            refine lv_iinc (v := v70_37) (lv' := [(4, .int v70_37), (0, .ref a0), (2, .int p2), (3, .int p3)]) hx hb dX0_scan_70 hlB51 (k := 3) rfl (by rw [e38]; rfl) (by decide) rfl (fun ls hl40 => ?_)
            clear hlB51 e38
            refine lv_goto (tgt := 18) hx hb dX0_scan_73 (by decide) ?_
            exact ih18 v70_37 v67_33 x4_5 t1_30 o_rests28_18 _ _ _ h39 hV36 (lv_sub hl40 [1, 2, 3, 0] rfl)
          refine lv_if_ne (tgt := 47) hx hb dX0_scan_39 (by decide) (fun c41 => ?_) (fun c41 => ?_)
          · have h42 := ieS c41 h25
            clear h25 c41
            refine lv_aload_n hx hb dX0_scan_47 rfl (lv_at hlB18 0 rfl) ?_
            refine kget X hV21 (ci := 0) inlX0 rfl 0 rfl 4 (by decide) mw_113 rfl dX0_scan_48 ?_
            exact J51 least__8 _ _ _ h42 hV21 (lv_sub hlB18 [0, 1, 2, 3] rfl)
          · have h43 := itS c41 h25
            clear h25 c41
            refine lv_iload hx hb dX0_scan_42 (lv_at hlB18 3 rfl) ?_
            refine lv_goto (tgt := 51) hx hb dX0_scan_44 (by decide) ?_
            exact J51 x4_5 _ _ _ h43 hV21 (lv_sub hlB18 [0, 1, 2, 3] rfl)
  exact L18 FU p1 0 (-1) (-1) s_rests _ _ _ h hV3 (lv_sub hl4 [1, 3, 4, 0] rfl)
noncomputable def f_X0_beatsTo (s_times : Nat → Int32) (p1 : Int32) (p2 : Int32) : Option (Int32) :=
    if 1 ≤ p2 then
    (rdI s_times 40 p1 fun v15_4 =>
      rdI s_times 40 0 fun v21_8 =>
      nmL (2 * (Int32.toInt64 (v15_4 - v21_8))) fun v25_12 =>
      dvL (2 * (Int32.toInt64 p2)) <|
      some ((Int64.toInt32 ((v25_12 + (Int32.toInt64 p2)) / (2 * (Int32.toInt64 p2))))))
    else
    (some ((-1)))
abbrev r_X0_beatsTo : Room := { frames := 0, cells := 0, slots := 0, locals := 0 }
set_option maxHeartbeats 4000000 in
set_option maxRecDepth 100000 in
theorem c_X0_beatsTo (l : Launch) (E : kE) (sz : Nat) (a0 a1 : Nat) (w0_1 w0_2 w0_3 w0_4 w0_5 : Value) (s_times : Nat → Int32) (p1 : Int32) (p2 : Int32) (r : Int32) (h : f_X0_beatsTo s_times p1 p2 = some (r)) : kMi l yX0_beatsTo cX0_beatsTo 5 (some .int) r_X0_beatsTo [.ref a0, .int p1, .int p2] E [(a0, .inr (0, [.ref a1, w0_1, w0_2, w0_3, w0_4, w0_5])), (a1, .inl (E.2 0, 40, .inl s_times))] sz 0 0 (fun x (_ : Unit) => x = r) (fun _ => [(a0, .inr (0, [.ref a1, w0_1, w0_2, w0_3, w0_4, w0_5])), (a1, .inl (E.2 0, 40, .inl s_times))]) := by
  refine kmeti rfl (Nat.le_of_ble_eq_true rfl) ?_
  intro p e s m args below meth c ls A Q X hV hret hl
  have X : kC p s m c cX0_beatsTo 5 RX0 args E A := X
  have hx := X.1
  have hb := X.2.1
  have hl : lv_has ls 5 [(0, .ref a0), (1, .int p1), (2, .int p2)] := hl
  rw [f_X0_beatsTo] at h
  refine lv_iload_n hx hb dX0_beatsTo_0 rfl (lv_at hl 2 rfl) ?_
  refine lv_iconst (v := 1) hx hb dX0_beatsTo_1 (by decide) ?_
  refine lv_icmp_ge (tgt := 7) hx hb dX0_beatsTo_2 (by decide) (fun c1 => ?_) (fun c1 => ?_)
  · have h2 := itS c1 h
    clear h c1
    refine lv_ldc2 (v := 2) hx hb X.2.2.2.1 (X.2.2.2.2.1 _ mw_1058) dX0_beatsTo_7 ?_
    refine lv_aload_n hx hb dX0_beatsTo_10 rfl (lv_at hl 0 rfl) ?_
    refine kget X hV (ci := 0) inlX0 rfl 0 rfl 0 (by decide) mw_109 rfl dX0_beatsTo_11 ?_
    refine lv_iload_n hx hb dX0_beatsTo_14 rfl (lv_at hl 1 rfl) ?_
    obtain ⟨hi5, v15_4, e6, h7⟩ := rdI_s h2
    clear h2
    refine kiald X hV 1 rfl hi5 e6 dX0_beatsTo_15 ?_
    clear hi5 e6
    refine lv_aload_n hx hb dX0_beatsTo_16 rfl (lv_at hl 0 rfl) ?_
    refine kget X hV (ci := 0) inlX0 rfl 0 rfl 0 (by decide) mw_109 rfl dX0_beatsTo_17 ?_
    refine lv_iconst (v := 0) hx hb dX0_beatsTo_20 (by decide) ?_
    obtain ⟨hi9, v21_8, e10, h11⟩ := rdI_s h7
    clear h7
    refine kiald X hV 1 rfl hi9 e10 dX0_beatsTo_21 ?_
    clear hi9 e10
    refine lv_isub hx hb dX0_beatsTo_22 ?_
    refine lv_i2l (v := Int32.toInt64 (v15_4 - v21_8)) hx hb dX0_beatsTo_23 rfl ?_
    refine lv_lmul hx hb dX0_beatsTo_24 ?_
    obtain ⟨v25_12, e13, h14⟩ := nmL_s h11
    clear h11
    refine ktopl e13 ?_
    clear e13
    refine lv_lstore_n (lv' := [(3, .long v25_12), (0, .ref a0), (1, .int p1), (2, .int p2)]) hx hb dX0_beatsTo_25 rfl hl (by decide) rfl (fun ls hl15 => ?_)
    clear hl
    refine lv_lload_n hx hb dX0_beatsTo_26 rfl (lv_at hl15 0 rfl) ?_
    refine lv_iload_n hx hb dX0_beatsTo_27 rfl (lv_at hl15 3 rfl) ?_
    refine lv_i2l (v := Int32.toInt64 p2) hx hb dX0_beatsTo_28 rfl ?_
    refine lv_ladd hx hb dX0_beatsTo_29 ?_
    refine lv_ldc2 (v := 2) hx hb X.2.2.2.1 (X.2.2.2.2.1 _ mw_1058) dX0_beatsTo_30 ?_
    refine lv_iload_n hx hb dX0_beatsTo_33 rfl (lv_at hl15 3 rfl) ?_
    refine lv_i2l (v := Int32.toInt64 p2) hx hb dX0_beatsTo_34 rfl ?_
    refine lv_lmul hx hb dX0_beatsTo_35 ?_
    obtain ⟨hn16, h17⟩ := dvL_s h14
    clear h14
    refine lv_ldiv hx hb dX0_beatsTo_36 hn16 ?_
    refine lv_l2i (v := Int64.toInt32 ((v25_12 + (Int32.toInt64 p2)) / (2 * (Int32.toInt64 p2)))) hx hb dX0_beatsTo_37 rfl ?_
    have q18 := tup1_s h17
    clear h17
    exact hret _ () _ _ _ _ q18 rfl hV dX0_beatsTo_38
  · have h3 := ieS c1 h
    clear h c1
    refine lv_iconst (v := (-1)) hx hb dX0_beatsTo_5 (by decide) ?_
    have q19 := tup1_s h3
    clear h3
    exact hret _ () _ _ _ _ q19 rfl hV dX0_beatsTo_6
noncomputable def f_X0_countAlike_L2 (s_many : Int32) (s_times : Nat → Int32) (p1 : Int32) (p2 : Int32)  : Nat → Int32 → Option (Int32)
  | 0, _ => none
  | n2 + 1, x3_2 =>
    if s_many ≤ x3_2 then
    (some (1))
    else
    (cb1 (f_X0_beatsTo s_times x3_2 p1) fun r13_7 =>
      cb1 (f_X0_beatsTo s_times x3_2 p2) fun r19_12 =>
      if r13_7 = r19_12 then
      (nmI (x3_2 + 1) fun v27_20 =>
        (f_X0_countAlike_L2 s_many s_times p1 p2  n2) v27_20)
      else
      (some (0)))
noncomputable def f_X0_countAlike (s_many : Int32) (s_times : Nat → Int32) (p1 : Int32) (p2 : Int32) : Option (Int32) :=
    (f_X0_countAlike_L2 s_many s_times p1 p2  FU) 0
abbrev r_X0_countAlike : Room := { frames := 1, cells := 0, slots := 0, locals := 24 }
set_option maxHeartbeats 4000000 in
set_option maxRecDepth 100000 in
theorem c_X0_countAlike (l : Launch) (E : kE) (sz : Nat) (a0 a1 : Nat) (w0_1 w0_3 w0_4 w0_5 : Value) (s_many : Int32) (s_times : Nat → Int32) (p1 : Int32) (p2 : Int32) (r : Int32) (h : f_X0_countAlike s_many s_times p1 p2 = some (r)) : kMi l yX0_countAlike cX0_countAlike 4 (some .boolean) r_X0_countAlike [.ref a0, .int p1, .int p2] E [(a0, .inr (0, [.ref a1, w0_1, .int s_many, w0_3, w0_4, w0_5])), (a1, .inl (E.2 0, 40, .inl s_times))] sz 0 0 (fun x (_ : Unit) => x = r) (fun _ => [(a0, .inr (0, [.ref a1, w0_1, .int s_many, w0_3, w0_4, w0_5])), (a1, .inl (E.2 0, 40, .inl s_times))]) := by
  refine kmeti rfl (Nat.le_of_ble_eq_true rfl) ?_
  intro p e s m args below meth c ls A Q X hV hret hl
  have X : kC p s m c cX0_countAlike 4 RX0 args E A := X
  have hx := X.1
  have hb := X.2.1
  have hl : lv_has ls 4 [(0, .ref a0), (1, .int p1), (2, .int p2)] := hl
  rw [f_X0_countAlike] at h
  refine lv_iconst (v := 0) hx hb dX0_countAlike_0 (by decide) ?_
  refine lv_istore_n (lv' := [(3, .int 0), (0, .ref a0), (1, .int p1), (2, .int p2)]) hx hb dX0_countAlike_1 rfl hl (by decide) rfl (fun ls hl1 => ?_)
  clear hl
  have L2 : ∀ (n2 : Nat) (x3_2 : Int32) (H : Heap) (locs : List Loc) (ls : Array Slot), (f_X0_countAlike_L2 s_many s_times p1 p2  n2) x3_2 = some (r) → kV E A s.heap H locs [(a0, .inr (0, [.ref a1, w0_1, .int s_many, w0_3, w0_4, w0_5])), (a1, .inl (E.2 0, 40, .inl s_times))] → lv_has ls 4 [(0, .ref a0), (1, .int p1), (2, .int p2), (3, .int x3_2)] → W p l e r_X0_countAlike s m args below meth c H locs 0 0 Q (F0 m 2 ls []) := by
    intro n2
    induction n2 with
    | zero =>
      intro x3_2 H locs ls hB2 hVB2 hlB2
      rw [f_X0_countAlike_L2] at hB2
      exact nomatch hB2
    | succ n2 ih2 =>
      intro x3_2 H locs ls hB2 hVB2 hlB2
      rw [f_X0_countAlike_L2] at hB2
      refine lv_iload_n hx hb dX0_countAlike_2 rfl (lv_at hlB2 3 rfl) ?_
      refine lv_aload_n hx hb dX0_countAlike_3 rfl (lv_at hlB2 0 rfl) ?_
      refine kget X hVB2 (ci := 0) inlX0 rfl 0 rfl 2 (by decide) mw_111 rfl dX0_countAlike_4 ?_
      refine lv_icmp_ge (tgt := 33) hx hb dX0_countAlike_7 (by decide) (fun c3 => ?_) (fun c3 => ?_)
      · have h4 := itS c3 hB2
        clear hB2 c3
        refine lv_iconst (v := 1) hx hb dX0_countAlike_33 (by decide) ?_
        have q6 := tup1_s h4
        clear h4
        exact hret _ () _ _ _ _ q6 rfl hVB2 dX0_countAlike_34
      · have h5 := ieS c3 hB2
        clear hB2 c3
        refine lv_aload_n hx hb dX0_countAlike_10 rfl (lv_at hlB2 0 rfl) ?_
        refine lv_iload_n hx hb dX0_countAlike_11 rfl (lv_at hlB2 3 rfl) ?_
        refine lv_iload_n hx hb dX0_countAlike_12 rfl (lv_at hlB2 1 rfl) ?_
        obtain ⟨r13_7, hc8, h9⟩ := cb1_s h5
        clear h5
        refine kgoiE (krunV (rest := []) X hVB2 [0, 1] (c_X0_beatsTo l E _ a0 a1 (w0_1) (.int s_many) (w0_3) (w0_4) (w0_5) s_times x3_2 p1 r13_7 hc8) mw_1075 kb_X0_beatsTo (ci := 0) rfl rfl (by decide) rfl rfl hlB2.1 rfl (Nat.le_of_ble_eq_true rfl) dX0_countAlike_13 (by decide)) X hVB2 [0, 1] [] rfl rfl rfl (by decide) (fun u H locs hV10 => ?_)
        have hV10 : kV E A s.heap H locs [(a0, .inr (0, [.ref a1, w0_1, .int s_many, w0_3, w0_4, w0_5])), (a1, .inl (E.2 0, 40, .inl s_times))] := hV10.sub [0, 1] rfl rfl
        clear hVB2
        refine lv_aload_n hx hb dX0_countAlike_16 rfl (lv_at hlB2 0 rfl) ?_
        refine lv_iload_n hx hb dX0_countAlike_17 rfl (lv_at hlB2 3 rfl) ?_
        refine lv_iload_n hx hb dX0_countAlike_18 rfl (lv_at hlB2 2 rfl) ?_
        obtain ⟨r19_12, hc13, h14⟩ := cb1_s h9
        clear h9
        refine kgoiE (krunV (rest := [.int r13_7]) X hV10 [0, 1] (c_X0_beatsTo l E _ a0 a1 (w0_1) (.int s_many) (w0_3) (w0_4) (w0_5) s_times x3_2 p2 r19_12 hc13) mw_1075 kb_X0_beatsTo (ci := 0) rfl rfl (by decide) rfl rfl hlB2.1 rfl (Nat.le_of_ble_eq_true rfl) dX0_countAlike_19 (by decide)) X hV10 [0, 1] [] rfl rfl rfl (by decide) (fun u H locs hV15 => ?_)
        have hV15 : kV E A s.heap H locs [(a0, .inr (0, [.ref a1, w0_1, .int s_many, w0_3, w0_4, w0_5])), (a1, .inl (E.2 0, 40, .inl s_times))] := hV15.sub [0, 1] rfl rfl
        clear hV10
        refine lv_icmp_eq (tgt := 27) hx hb dX0_countAlike_22 (by decide) (fun c17 => ?_) (fun c17 => ?_)
        · have h18 := itS c17 h14
          clear h14 c17
          obtain ⟨v27_20, e21, h22⟩ := nmI_s h18
          clear h18
          refine lv_iinc (v := v27_20) (lv' := [(3, .int v27_20), (0, .ref a0), (1, .int p1), (2, .int p2)]) hx hb dX0_countAlike_27 hlB2 (k := 3) rfl (by rw [e21]; rfl) (by decide) rfl (fun ls hl23 => ?_)
          clear hlB2 e21
          refine lv_goto (tgt := 2) hx hb dX0_countAlike_30 (by decide) ?_
          exact ih2 v27_20 _ _ _ h22 hV15 (lv_sub hl23 [1, 2, 3, 0] rfl)
        · have h19 := ieS c17 h14
          clear h14 c17
          refine lv_iconst (v := 0) hx hb dX0_countAlike_25 (by decide) ?_
          have q24 := tup1_s h19
          clear h19
          exact hret _ () _ _ _ _ q24 rfl hV15 dX0_countAlike_26
  exact L2 FU 0 _ _ _ h hV (lv_sub hl1 [1, 2, 3, 0] rfl)
noncomputable def f_X0_beatsTillLost (s_least : Int32) (s_greatest : Int32) : Option (Int32) :=
    nmI (2 * (s_greatest - s_least)) fun v11_1 =>
    if 0 < v11_1 then
    (dvI v11_1 <|
      some ((((s_least + v11_1) - 1) / v11_1)))
    else
    (some ((-2)))
abbrev r_X0_beatsTillLost : Room := { frames := 0, cells := 0, slots := 0, locals := 0 }
set_option maxHeartbeats 4000000 in
set_option maxRecDepth 100000 in
theorem c_X0_beatsTillLost (l : Launch) (E : kE) (sz : Nat) (a0 : Nat) (w0_0 w0_1 w0_2 w0_3 : Value) (s_least : Int32) (s_greatest : Int32) (r : Int32) (h : f_X0_beatsTillLost s_least s_greatest = some (r)) : kMi l yX0_beatsTillLost cX0_beatsTillLost 2 (some .int) r_X0_beatsTillLost [.ref a0] E [(a0, .inr (0, [w0_0, w0_1, w0_2, w0_3, .int s_least, .int s_greatest]))] sz 0 0 (fun x (_ : Unit) => x = r) (fun _ => [(a0, .inr (0, [w0_0, w0_1, w0_2, w0_3, .int s_least, .int s_greatest]))]) := by
  refine kmeti rfl (Nat.le_of_ble_eq_true rfl) ?_
  intro p e s m args below meth c ls A Q X hV hret hl
  have X : kC p s m c cX0_beatsTillLost 2 RX0 args E A := X
  have hx := X.1
  have hb := X.2.1
  have hl : lv_has ls 2 [(0, .ref a0)] := hl
  rw [f_X0_beatsTillLost] at h
  refine lv_iconst (v := 2) hx hb dX0_beatsTillLost_0 (by decide) ?_
  refine lv_aload_n hx hb dX0_beatsTillLost_1 rfl (lv_at hl 0 rfl) ?_
  refine kget X hV (ci := 0) inlX0 rfl 0 rfl 5 (by decide) mw_114 rfl dX0_beatsTillLost_2 ?_
  refine lv_aload_n hx hb dX0_beatsTillLost_5 rfl (lv_at hl 0 rfl) ?_
  refine kget X hV (ci := 0) inlX0 rfl 0 rfl 4 (by decide) mw_113 rfl dX0_beatsTillLost_6 ?_
  refine lv_isub hx hb dX0_beatsTillLost_9 ?_
  refine lv_imul hx hb dX0_beatsTillLost_10 ?_
  obtain ⟨v11_1, e2, h3⟩ := nmI_s h
  clear h
  refine ktopi e2 ?_
  clear e2
  refine lv_istore_n (lv' := [(1, .int v11_1), (0, .ref a0)]) hx hb dX0_beatsTillLost_11 rfl hl (by decide) rfl (fun ls hl4 => ?_)
  clear hl
  refine lv_iload_n hx hb dX0_beatsTillLost_12 rfl (lv_at hl4 0 rfl) ?_
  refine lv_if_gt (tgt := 21) hx hb dX0_beatsTillLost_13 (by decide) (fun c5 => ?_) (fun c5 => ?_)
  · have h6 := itS c5 h3
    clear h3 c5
    refine lv_aload_n hx hb dX0_beatsTillLost_21 rfl (lv_at hl4 1 rfl) ?_
    refine kget X hV (ci := 0) inlX0 rfl 0 rfl 4 (by decide) mw_113 rfl dX0_beatsTillLost_22 ?_
    refine lv_iload_n hx hb dX0_beatsTillLost_25 rfl (lv_at hl4 0 rfl) ?_
    refine lv_iadd hx hb dX0_beatsTillLost_26 ?_
    refine lv_iconst (v := 1) hx hb dX0_beatsTillLost_27 (by decide) ?_
    refine lv_isub hx hb dX0_beatsTillLost_28 ?_
    refine lv_iload_n hx hb dX0_beatsTillLost_29 rfl (lv_at hl4 0 rfl) ?_
    obtain ⟨hn8, h9⟩ := dvI_s h6
    clear h6
    refine lv_idiv hx hb dX0_beatsTillLost_30 hn8 ?_
    have q10 := tup1_s h9
    clear h9
    exact hret _ () _ _ _ _ q10 rfl hV dX0_beatsTillLost_31
  · have h7 := ieS c5 h3
    clear h3 c5
    refine lv_bipush (v := (-2)) hx hb dX0_beatsTillLost_16 (by decide) ?_
    refine lv_goto (tgt := 31) hx hb dX0_beatsTillLost_18 (by decide) ?_
    have q11 := tup1_s h7
    clear h7
    exact hret _ () _ _ _ _ q11 rfl hV dX0_beatsTillLost_31
noncomputable def f_X2_add (s_many : Int32) (s_days : Nat → Int32) (s_shifts : Nat → Int32) (p1 : Int32) (p2 : Int32) : Option (Int32 × Int32 × (Nat → Int32) × (Nat → Int32)) :=
    if s_many < 30 then
    (wrI s_days 30 s_many p1 fun g20_4 =>
      wrI s_shifts 30 s_many p2 fun g30_9 =>
      nmI (s_many + 1) fun v38_14 =>
      some ((v38_14 - 1), v38_14, g20_4, g30_9))
    else
    (some ((-1), s_many, s_days, s_shifts))
abbrev r_X2_add : Room := { frames := 0, cells := 0, slots := 0, locals := 0 }
set_option maxHeartbeats 4000000 in
set_option maxRecDepth 100000 in
theorem c_X2_add (l : Launch) (E : kE) (sz : Nat) (a0 a1 a2 : Nat) (w0_2 w0_3 w0_4 : Value) (s_many : Int32) (s_days : Nat → Int32) (s_shifts : Nat → Int32) (p1 : Int32) (p2 : Int32) (r : Int32) (o_many : Int32) (o_days : Nat → Int32) (o_shifts : Nat → Int32) (h : f_X2_add s_many s_days s_shifts p1 p2 = some (r, o_many, o_days, o_shifts)) : kMi l yX2_add cX2_add 3 (some .int) r_X2_add [.ref a0, .int p1, .int p2] E [(a0, .inr (2, [.ref a1, .ref a2, w0_2, w0_3, w0_4, .int s_many])), (a1, .inl (E.2 0, 30, .inl s_days)), (a2, .inl (E.2 0, 30, .inl s_shifts))] sz 0 0 (fun x (_ : Unit) => x = r) (fun _ => [(a0, .inr (2, [.ref a1, .ref a2, w0_2, w0_3, w0_4, .int o_many])), (a1, .inl (E.2 0, 30, .inl o_days)), (a2, .inl (E.2 0, 30, .inl o_shifts))]) := by
  refine kmeti rfl (Nat.le_of_ble_eq_true rfl) ?_
  intro p e s m args below meth c ls A Q X hV hret hl
  have X : kC p s m c cX2_add 3 RX2 args E A := X
  have hx := X.1
  have hb := X.2.1
  have hl : lv_has ls 3 [(0, .ref a0), (1, .int p1), (2, .int p2)] := hl
  rw [f_X2_add] at h
  refine lv_aload_n hx hb dX2_add_0 rfl (lv_at hl 0 rfl) ?_
  refine kget X hV (ci := 2) inlX2 rfl 0 rfl 5 (by decide) mw_126 rfl dX2_add_1 ?_
  refine lv_bipush (v := 30) hx hb dX2_add_4 (by decide) ?_
  refine lv_icmp_lt (tgt := 11) hx hb dX2_add_6 (by decide) (fun c1 => ?_) (fun c1 => ?_)
  · have h2 := itS c1 h
    clear h c1
    refine lv_aload_n hx hb dX2_add_11 rfl (lv_at hl 0 rfl) ?_
    refine kget X hV (ci := 2) inlX2 rfl 0 rfl 0 (by decide) mw_119 rfl dX2_add_12 ?_
    refine lv_aload_n hx hb dX2_add_15 rfl (lv_at hl 0 rfl) ?_
    refine kget X hV (ci := 2) inlX2 rfl 0 rfl 5 (by decide) mw_126 rfl dX2_add_16 ?_
    refine lv_iload_n hx hb dX2_add_19 rfl (lv_at hl 1 rfl) ?_
    obtain ⟨hi5, g20_4, e6, h7⟩ := wrI_s h2
    clear h2
    refine kiast X hV 1 rfl hi5 e6 dX2_add_20 (fun H locs hV8 => ?_)
    have hV8 : kV E A s.heap H locs [(a0, .inr (2, [.ref a1, .ref a2, w0_2, w0_3, w0_4, .int s_many])), (a1, .inl (E.2 0, 30, .inl g20_4)), (a2, .inl (E.2 0, 30, .inl s_shifts))] := hV8
    clear hV hi5 e6
    refine lv_aload_n hx hb dX2_add_21 rfl (lv_at hl 0 rfl) ?_
    refine kget X hV8 (ci := 2) inlX2 rfl 0 rfl 1 (by decide) mw_120 rfl dX2_add_22 ?_
    refine lv_aload_n hx hb dX2_add_25 rfl (lv_at hl 0 rfl) ?_
    refine kget X hV8 (ci := 2) inlX2 rfl 0 rfl 5 (by decide) mw_126 rfl dX2_add_26 ?_
    refine lv_iload_n hx hb dX2_add_29 rfl (lv_at hl 2 rfl) ?_
    obtain ⟨hi10, g30_9, e11, h12⟩ := wrI_s h7
    clear h7
    refine kiast X hV8 2 rfl hi10 e11 dX2_add_30 (fun H locs hV13 => ?_)
    have hV13 : kV E A s.heap H locs [(a0, .inr (2, [.ref a1, .ref a2, w0_2, w0_3, w0_4, .int s_many])), (a1, .inl (E.2 0, 30, .inl g20_4)), (a2, .inl (E.2 0, 30, .inl g30_9))] := hV13
    clear hV8 hi10 e11
    refine lv_aload_n hx hb dX2_add_31 rfl (lv_at hl 0 rfl) ?_
    refine lv_dup hx hb dX2_add_32 rfl ?_
    refine kget X hV13 (ci := 2) inlX2 rfl 0 rfl 5 (by decide) mw_126 rfl dX2_add_33 ?_
    refine lv_iconst (v := 1) hx hb dX2_add_36 (by decide) ?_
    refine lv_iadd hx hb dX2_add_37 ?_
    obtain ⟨v38_14, e15, h16⟩ := nmI_s h12
    clear h12
    refine ktopi e15 ?_
    clear e15
    refine kput X hV13 (ci := 2) inlX2 rfl tyX2 tyX2_ok nmX2 0 rfl 5 (by decide) mw_126 rfl rfl rfl (Nat.le_of_ble_eq_true rfl) dX2_add_38 (fun H locs hV17 => ?_)
    have hV17 : kV E A s.heap H locs [(a0, .inr (2, [.ref a1, .ref a2, w0_2, w0_3, w0_4, .int v38_14])), (a1, .inl (E.2 0, 30, .inl g20_4)), (a2, .inl (E.2 0, 30, .inl g30_9))] := hV17
    clear hV13
    refine lv_aload_n hx hb dX2_add_41 rfl (lv_at hl 0 rfl) ?_
    refine kget X hV17 (ci := 2) inlX2 rfl 0 rfl 5 (by decide) mw_126 rfl dX2_add_42 ?_
    refine lv_iconst (v := 1) hx hb dX2_add_45 (by decide) ?_
    refine lv_isub hx hb dX2_add_46 ?_
    obtain ⟨q18, q19, q20, q21⟩ := tup4_s h16
    clear h16
    exact hret _ () _ _ _ _ q18 rfl (by rw [← q19, ← q20, ← q21]; exact hV17) dX2_add_47
  · have h3 := ieS c1 h
    clear h c1
    refine lv_iconst (v := (-1)) hx hb dX2_add_9 (by decide) ?_
    obtain ⟨q22, q23, q24, q25⟩ := tup4_s h3
    clear h3
    exact hret _ () _ _ _ _ q22 rfl (by rw [← q23, ← q24, ← q25]; exact hV) dX2_add_10
noncomputable def f_X2_shiftBy (n_p1_code : Nat) (n_p1_middles : Nat) (n_p1_starts : Nat) (s_p1_code : Nat → Int32) (s_p1_middles : Nat → Int32) (s_p1_starts : Nat → Int32) (s_days : Nat → Int32) (s_reckoner_letters : Nat → Int32) (s_reckoner_values : Nat → Int32) (p2 : Int32) : Option (Int32 × (Nat → Int32) × (Nat → Int32)) :=
    rdI s_days 30 p2 fun v14_1 =>
    wrI s_reckoner_letters 128 100 v14_1 fun g15_5 =>
    wrI g15_5 128 110 p2 fun g26_10 =>
    cb2 (f_X5_worth n_p1_code n_p1_middles n_p1_starts s_p1_code s_p1_middles s_p1_starts g26_10 s_reckoner_values 0) fun r33_15 o_values33_16 =>
    some (r33_15, g26_10, o_values33_16)
abbrev r_X2_shiftBy : Room := { frames := 3, cells := 0, slots := 0, locals := 72 }
set_option maxHeartbeats 4000000 in
set_option maxRecDepth 100000 in
theorem c_X2_shiftBy (l : Launch) (E : kE) (sz : Nat) (a0 a1 a2 a3 a4 a5 a6 a7 a8 : Nat) (w0_1 w0_2 w0_4 w0_5 w1_0 : Value) (n_p1_code n_p1_middles n_p1_starts : Nat) (s_p1_code : Nat → Int32) (s_p1_middles : Nat → Int32) (s_p1_starts : Nat → Int32) (s_days : Nat → Int32) (s_reckoner_letters : Nat → Int32) (s_reckoner_values : Nat → Int32) (p2 : Int32) (r : Int32) (o_reckoner_letters : Nat → Int32) (o_reckoner_values : Nat → Int32) (h : f_X2_shiftBy n_p1_code n_p1_middles n_p1_starts s_p1_code s_p1_middles s_p1_starts s_days s_reckoner_letters s_reckoner_values p2 = some (r, o_reckoner_letters, o_reckoner_values)) : kMi l yX2_shiftBy cX2_shiftBy 3 (some .int) r_X2_shiftBy [.ref a0, .ref a1, .int p2] E [(a0, .inr (2, [.ref a5, w0_1, w0_2, .ref a6, w0_4, w0_5])), (a1, .inr (10, [w1_0, .ref a2, .ref a4, .ref a3])), (a2, .inl (E.2 0, n_p1_code, .inl s_p1_code)), (a3, .inl (E.2 0, n_p1_middles, .inl s_p1_middles)), (a4, .inl (E.2 0, n_p1_starts, .inl s_p1_starts)), (a5, .inl (E.2 0, 30, .inl s_days)), (a6, .inr (5, [.ref a7, .ref a8])), (a7, .inl (E.2 0, 128, .inl s_reckoner_letters)), (a8, .inl (E.2 0, 32, .inl s_reckoner_values))] sz 0 0 (fun x (_ : Unit) => x = r) (fun _ => [(a0, .inr (2, [.ref a5, w0_1, w0_2, .ref a6, w0_4, w0_5])), (a1, .inr (10, [w1_0, .ref a2, .ref a4, .ref a3])), (a2, .inl (E.2 0, n_p1_code, .inl s_p1_code)), (a3, .inl (E.2 0, n_p1_middles, .inl s_p1_middles)), (a4, .inl (E.2 0, n_p1_starts, .inl s_p1_starts)), (a5, .inl (E.2 0, 30, .inl s_days)), (a6, .inr (5, [.ref a7, .ref a8])), (a7, .inl (E.2 0, 128, .inl o_reckoner_letters)), (a8, .inl (E.2 0, 32, .inl o_reckoner_values))]) := by
  refine kmeti rfl (Nat.le_of_ble_eq_true rfl) ?_
  intro p e s m args below meth c ls A Q X hV hret hl
  have X : kC p s m c cX2_shiftBy 3 RX2 args E A := X
  have hx := X.1
  have hb := X.2.1
  have hl : lv_has ls 3 [(0, .ref a0), (1, .ref a1), (2, .int p2)] := hl
  rw [f_X2_shiftBy] at h
  refine lv_aload_n hx hb dX2_shiftBy_0 rfl (lv_at hl 0 rfl) ?_
  refine kget X hV (ci := 2) inlX2 rfl 0 rfl 3 (by decide) mw_123 rfl dX2_shiftBy_1 ?_
  refine kget X hV (ci := 5) inlX5 rfl 6 rfl 0 (by decide) mw_1123 rfl dX2_shiftBy_4 ?_
  refine lv_bipush (v := 100) hx hb dX2_shiftBy_7 (by decide) ?_
  refine lv_aload_n hx hb dX2_shiftBy_9 rfl (lv_at hl 0 rfl) ?_
  refine kget X hV (ci := 2) inlX2 rfl 0 rfl 0 (by decide) mw_119 rfl dX2_shiftBy_10 ?_
  refine lv_iload_n hx hb dX2_shiftBy_13 rfl (lv_at hl 2 rfl) ?_
  obtain ⟨hi2, v14_1, e3, h4⟩ := rdI_s h
  clear h
  refine kiald X hV 5 rfl hi2 e3 dX2_shiftBy_14 ?_
  clear hi2 e3
  obtain ⟨hi6, g15_5, e7, h8⟩ := wrI_s h4
  clear h4
  refine kiast X hV 7 rfl hi6 e7 dX2_shiftBy_15 (fun H locs hV9 => ?_)
  have hV9 : kV E A s.heap H locs [(a0, .inr (2, [.ref a5, w0_1, w0_2, .ref a6, w0_4, w0_5])), (a1, .inr (10, [w1_0, .ref a2, .ref a4, .ref a3])), (a2, .inl (E.2 0, n_p1_code, .inl s_p1_code)), (a3, .inl (E.2 0, n_p1_middles, .inl s_p1_middles)), (a4, .inl (E.2 0, n_p1_starts, .inl s_p1_starts)), (a5, .inl (E.2 0, 30, .inl s_days)), (a6, .inr (5, [.ref a7, .ref a8])), (a7, .inl (E.2 0, 128, .inl g15_5)), (a8, .inl (E.2 0, 32, .inl s_reckoner_values))] := hV9
  clear hV hi6 e7
  refine lv_aload_n hx hb dX2_shiftBy_16 rfl (lv_at hl 0 rfl) ?_
  refine kget X hV9 (ci := 2) inlX2 rfl 0 rfl 3 (by decide) mw_123 rfl dX2_shiftBy_17 ?_
  refine kget X hV9 (ci := 5) inlX5 rfl 6 rfl 0 (by decide) mw_1123 rfl dX2_shiftBy_20 ?_
  refine lv_bipush (v := 110) hx hb dX2_shiftBy_23 (by decide) ?_
  refine lv_iload_n hx hb dX2_shiftBy_25 rfl (lv_at hl 2 rfl) ?_
  obtain ⟨hi11, g26_10, e12, h13⟩ := wrI_s h8
  clear h8
  refine kiast X hV9 7 rfl hi11 e12 dX2_shiftBy_26 (fun H locs hV14 => ?_)
  have hV14 : kV E A s.heap H locs [(a0, .inr (2, [.ref a5, w0_1, w0_2, .ref a6, w0_4, w0_5])), (a1, .inr (10, [w1_0, .ref a2, .ref a4, .ref a3])), (a2, .inl (E.2 0, n_p1_code, .inl s_p1_code)), (a3, .inl (E.2 0, n_p1_middles, .inl s_p1_middles)), (a4, .inl (E.2 0, n_p1_starts, .inl s_p1_starts)), (a5, .inl (E.2 0, 30, .inl s_days)), (a6, .inr (5, [.ref a7, .ref a8])), (a7, .inl (E.2 0, 128, .inl g26_10)), (a8, .inl (E.2 0, 32, .inl s_reckoner_values))] := hV14
  clear hV9 hi11 e12
  refine lv_aload_n hx hb dX2_shiftBy_27 rfl (lv_at hl 0 rfl) ?_
  refine kget X hV14 (ci := 2) inlX2 rfl 0 rfl 3 (by decide) mw_123 rfl dX2_shiftBy_28 ?_
  refine lv_aload_n hx hb dX2_shiftBy_31 rfl (lv_at hl 1 rfl) ?_
  refine lv_iconst (v := 0) hx hb dX2_shiftBy_32 (by decide) ?_
  obtain ⟨r33_15, o_values33_16, hc17, h18⟩ := cb2_s h13
  clear h13
  refine kgoiE (krunV (rest := []) X hV14 [6, 1, 2, 3, 4, 7, 8] (c_X5_worth l E _ a6 a1 a2 a3 a4 a7 a8 (w1_0) n_p1_code n_p1_middles n_p1_starts s_p1_code s_p1_middles s_p1_starts g26_10 s_reckoner_values 0 r33_15 o_values33_16 hc17) mw_1124 kb_X5_worth (ci := 5) rfl rfl (by decide) rfl rfl hl.1 rfl (Nat.le_of_ble_eq_true rfl) dX2_shiftBy_33 (by decide)) X hV14 [6, 1, 2, 3, 4, 7, 8] [0, 5] rfl rfl rfl (by decide) (fun u H locs hV19 => ?_)
  have hV19 : kV E A s.heap H locs [(a0, .inr (2, [.ref a5, w0_1, w0_2, .ref a6, w0_4, w0_5])), (a1, .inr (10, [w1_0, .ref a2, .ref a4, .ref a3])), (a2, .inl (E.2 0, n_p1_code, .inl s_p1_code)), (a3, .inl (E.2 0, n_p1_middles, .inl s_p1_middles)), (a4, .inl (E.2 0, n_p1_starts, .inl s_p1_starts)), (a5, .inl (E.2 0, 30, .inl s_days)), (a6, .inr (5, [.ref a7, .ref a8])), (a7, .inl (E.2 0, 128, .inl g26_10)), (a8, .inl (E.2 0, 32, .inl o_values33_16))] := hV19.sub [0, 3, 4, 5, 6, 1, 2, 7, 8] rfl rfl
  clear hV14
  obtain ⟨q21, q22, q23⟩ := tup3_s h18
  clear h18
  exact hret _ () _ _ _ _ q21 rfl (by rw [← q22, ← q23]; exact hV19) dX2_shiftBy_36
noncomputable def f_X2_fallOf_L2 (s_many : Int32) (n_p1_code : Nat) (s_p1_code : Nat → Int32) (n_p1_middles : Nat) (s_p1_middles : Nat → Int32) (n_p1_starts : Nat) (s_p1_starts : Nat → Int32) (s_days : Nat → Int32) (s_shifts : Nat → Int32) (p2 : Int32)  : Nat → Int32 → (Nat → Int32) → (Nat → Int32) → Option (Int32 × (Nat → Int32) × (Nat → Int32))
  | 0, _, _, _ => none
  | n2 + 1, x3_2, reckoner_letters__3, reckoner_values__4 =>
    if s_many ≤ x3_2 then
    (some ((-2), reckoner_letters__3, reckoner_values__4))
    else
    (cb3 (f_X2_shiftBy n_p1_code n_p1_middles n_p1_starts s_p1_code s_p1_middles s_p1_starts s_days reckoner_letters__3 reckoner_values__4 x3_2) fun r13_11 o_reckoner_letters13_12 o_reckoner_values13_13 =>
      rdI s_shifts 30 x3_2 fun v22_18 =>
      if (lg_cmp (jabsL ((Int32.toInt64 r13_11) - (Int32.toInt64 v22_18))) (Int32.toInt64 p2)) ≤ 0 then
      (nmI (x3_2 + 1) fun v36_25 =>
        (f_X2_fallOf_L2 s_many n_p1_code s_p1_code n_p1_middles s_p1_middles n_p1_starts s_p1_starts s_days s_shifts p2  n2) v36_25 o_reckoner_letters13_12 o_reckoner_values13_13)
      else
      (some (x3_2, o_reckoner_letters13_12, o_reckoner_values13_13)))
noncomputable def f_X2_fallOf (n_p1_code : Nat) (n_p1_middles : Nat) (n_p1_starts : Nat) (s_many : Int32) (s_p1_code : Nat → Int32) (s_p1_middles : Nat → Int32) (s_p1_starts : Nat → Int32) (s_days : Nat → Int32) (s_shifts : Nat → Int32) (s_reckoner_letters : Nat → Int32) (s_reckoner_values : Nat → Int32) (p2 : Int32) : Option (Int32 × (Nat → Int32) × (Nat → Int32)) :=
    (f_X2_fallOf_L2 s_many n_p1_code s_p1_code n_p1_middles s_p1_middles n_p1_starts s_p1_starts s_days s_shifts p2  FU) 0 s_reckoner_letters s_reckoner_values
abbrev r_X2_fallOf : Room := { frames := 4, cells := 0, slots := 0, locals := 94 }
set_option maxHeartbeats 4000000 in
set_option maxRecDepth 100000 in
theorem c_X2_fallOf (l : Launch) (E : kE) (sz : Nat) (a0 a1 a2 a3 a4 a5 a6 a7 a8 a9 : Nat) (w0_2 w0_4 w1_0 : Value) (n_p1_code n_p1_middles n_p1_starts : Nat) (s_many : Int32) (s_p1_code : Nat → Int32) (s_p1_middles : Nat → Int32) (s_p1_starts : Nat → Int32) (s_days : Nat → Int32) (s_shifts : Nat → Int32) (s_reckoner_letters : Nat → Int32) (s_reckoner_values : Nat → Int32) (p2 : Int32) (r : Int32) (o_reckoner_letters : Nat → Int32) (o_reckoner_values : Nat → Int32) (h : f_X2_fallOf n_p1_code n_p1_middles n_p1_starts s_many s_p1_code s_p1_middles s_p1_starts s_days s_shifts s_reckoner_letters s_reckoner_values p2 = some (r, o_reckoner_letters, o_reckoner_values)) : kMi l yX2_fallOf cX2_fallOf 4 (some .int) r_X2_fallOf [.ref a0, .ref a1, .int p2] E [(a0, .inr (2, [.ref a5, .ref a7, w0_2, .ref a6, w0_4, .int s_many])), (a1, .inr (10, [w1_0, .ref a2, .ref a4, .ref a3])), (a2, .inl (E.2 0, n_p1_code, .inl s_p1_code)), (a3, .inl (E.2 0, n_p1_middles, .inl s_p1_middles)), (a4, .inl (E.2 0, n_p1_starts, .inl s_p1_starts)), (a5, .inl (E.2 0, 30, .inl s_days)), (a6, .inr (5, [.ref a8, .ref a9])), (a7, .inl (E.2 0, 30, .inl s_shifts)), (a8, .inl (E.2 0, 128, .inl s_reckoner_letters)), (a9, .inl (E.2 0, 32, .inl s_reckoner_values))] sz 0 0 (fun x (_ : Unit) => x = r) (fun _ => [(a0, .inr (2, [.ref a5, .ref a7, w0_2, .ref a6, w0_4, .int s_many])), (a1, .inr (10, [w1_0, .ref a2, .ref a4, .ref a3])), (a2, .inl (E.2 0, n_p1_code, .inl s_p1_code)), (a3, .inl (E.2 0, n_p1_middles, .inl s_p1_middles)), (a4, .inl (E.2 0, n_p1_starts, .inl s_p1_starts)), (a5, .inl (E.2 0, 30, .inl s_days)), (a6, .inr (5, [.ref a8, .ref a9])), (a7, .inl (E.2 0, 30, .inl s_shifts)), (a8, .inl (E.2 0, 128, .inl o_reckoner_letters)), (a9, .inl (E.2 0, 32, .inl o_reckoner_values))]) := by
  refine kmeti rfl (Nat.le_of_ble_eq_true rfl) ?_
  intro p e s m args below meth c ls A Q X hV hret hl
  have X : kC p s m c cX2_fallOf 4 RX2 args E A := X
  have hx := X.1
  have hb := X.2.1
  have hl : lv_has ls 4 [(0, .ref a0), (1, .ref a1), (2, .int p2)] := hl
  rw [f_X2_fallOf] at h
  refine lv_iconst (v := 0) hx hb dX2_fallOf_0 (by decide) ?_
  refine lv_istore_n (lv' := [(3, .int 0), (0, .ref a0), (1, .ref a1), (2, .int p2)]) hx hb dX2_fallOf_1 rfl hl (by decide) rfl (fun ls hl1 => ?_)
  clear hl
  have L2 : ∀ (n2 : Nat) (x3_2 : Int32) (reckoner_letters__3 : Nat → Int32) (reckoner_values__4 : Nat → Int32) (H : Heap) (locs : List Loc) (ls : Array Slot), (f_X2_fallOf_L2 s_many n_p1_code s_p1_code n_p1_middles s_p1_middles n_p1_starts s_p1_starts s_days s_shifts p2  n2) x3_2 reckoner_letters__3 reckoner_values__4 = some (r, o_reckoner_letters, o_reckoner_values) → kV E A s.heap H locs [(a0, .inr (2, [.ref a5, .ref a7, w0_2, .ref a6, w0_4, .int s_many])), (a1, .inr (10, [w1_0, .ref a2, .ref a4, .ref a3])), (a2, .inl (E.2 0, n_p1_code, .inl s_p1_code)), (a3, .inl (E.2 0, n_p1_middles, .inl s_p1_middles)), (a4, .inl (E.2 0, n_p1_starts, .inl s_p1_starts)), (a5, .inl (E.2 0, 30, .inl s_days)), (a6, .inr (5, [.ref a8, .ref a9])), (a7, .inl (E.2 0, 30, .inl s_shifts)), (a8, .inl (E.2 0, 128, .inl reckoner_letters__3)), (a9, .inl (E.2 0, 32, .inl reckoner_values__4))] → lv_has ls 4 [(0, .ref a0), (1, .ref a1), (2, .int p2), (3, .int x3_2)] → W p l e r_X2_fallOf s m args below meth c H locs 0 0 Q (F0 m 2 ls []) := by
    intro n2
    induction n2 with
    | zero =>
      intro x3_2 reckoner_letters__3 reckoner_values__4 H locs ls hB2 hVB2 hlB2
      rw [f_X2_fallOf_L2] at hB2
      exact nomatch hB2
    | succ n2 ih2 =>
      intro x3_2 reckoner_letters__3 reckoner_values__4 H locs ls hB2 hVB2 hlB2
      rw [f_X2_fallOf_L2] at hB2
      refine lv_iload_n hx hb dX2_fallOf_2 rfl (lv_at hlB2 3 rfl) ?_
      refine lv_aload_n hx hb dX2_fallOf_3 rfl (lv_at hlB2 0 rfl) ?_
      refine kget X hVB2 (ci := 2) inlX2 rfl 0 rfl 5 (by decide) mw_126 rfl dX2_fallOf_4 ?_
      refine lv_icmp_ge (tgt := 42) hx hb dX2_fallOf_7 (by decide) (fun c5 => ?_) (fun c5 => ?_)
      · have h6 := itS c5 hB2
        clear hB2 c5
        refine lv_bipush (v := (-2)) hx hb dX2_fallOf_42 (by decide) ?_
        obtain ⟨q8, q9, q10⟩ := tup3_s h6
        clear h6
        exact hret _ () _ _ _ _ q8 rfl (by rw [← q9, ← q10]; exact hVB2) dX2_fallOf_44
      · have h7 := ieS c5 hB2
        clear hB2 c5
        refine lv_aload_n hx hb dX2_fallOf_10 rfl (lv_at hlB2 0 rfl) ?_
        refine lv_aload_n hx hb dX2_fallOf_11 rfl (lv_at hlB2 1 rfl) ?_
        refine lv_iload_n hx hb dX2_fallOf_12 rfl (lv_at hlB2 3 rfl) ?_
        obtain ⟨r13_11, o_reckoner_letters13_12, o_reckoner_values13_13, hc14, h15⟩ := cb3_s h7
        clear h7
        refine kgoiE (krunV (rest := []) X hVB2 [0, 1, 2, 3, 4, 5, 6, 8, 9] (c_X2_shiftBy l E _ a0 a1 a2 a3 a4 a5 a6 a8 a9 (.ref a7) (w0_2) (w0_4) (.int s_many) (w1_0) n_p1_code n_p1_middles n_p1_starts s_p1_code s_p1_middles s_p1_starts s_days reckoner_letters__3 reckoner_values__4 x3_2 r13_11 o_reckoner_letters13_12 o_reckoner_values13_13 hc14) mw_1156 kb_X2_shiftBy (ci := 2) rfl rfl (by decide) rfl rfl hlB2.1 rfl (Nat.le_of_ble_eq_true rfl) dX2_fallOf_13 (by decide)) X hVB2 [0, 1, 2, 3, 4, 5, 6, 8, 9] [7] rfl rfl rfl (by decide) (fun u H locs hV16 => ?_)
        have hV16 : kV E A s.heap H locs [(a0, .inr (2, [.ref a5, .ref a7, w0_2, .ref a6, w0_4, .int s_many])), (a1, .inr (10, [w1_0, .ref a2, .ref a4, .ref a3])), (a2, .inl (E.2 0, n_p1_code, .inl s_p1_code)), (a3, .inl (E.2 0, n_p1_middles, .inl s_p1_middles)), (a4, .inl (E.2 0, n_p1_starts, .inl s_p1_starts)), (a5, .inl (E.2 0, 30, .inl s_days)), (a6, .inr (5, [.ref a8, .ref a9])), (a7, .inl (E.2 0, 30, .inl s_shifts)), (a8, .inl (E.2 0, 128, .inl o_reckoner_letters13_12)), (a9, .inl (E.2 0, 32, .inl o_reckoner_values13_13))] := hV16.sub [1, 2, 3, 4, 5, 6, 7, 0, 8, 9] rfl rfl
        clear hVB2
        refine lv_i2l (v := Int32.toInt64 r13_11) hx hb dX2_fallOf_16 rfl ?_
        refine lv_aload_n hx hb dX2_fallOf_17 rfl (lv_at hlB2 0 rfl) ?_
        refine kget X hV16 (ci := 2) inlX2 rfl 0 rfl 1 (by decide) mw_120 rfl dX2_fallOf_18 ?_
        refine lv_iload_n hx hb dX2_fallOf_21 rfl (lv_at hlB2 3 rfl) ?_
        obtain ⟨hi19, v22_18, e20, h21⟩ := rdI_s h15
        clear h15
        refine kiald X hV16 7 rfl hi19 e20 dX2_fallOf_22 ?_
        clear hi19 e20
        refine lv_i2l (v := Int32.toInt64 v22_18) hx hb dX2_fallOf_23 rfl ?_
        refine lv_lsub hx hb dX2_fallOf_24 ?_
        refine va_mabs_long hx hb (X.2.2.1.trans hlB2.1.symm) X.2.2.2.1 (X.2.2.2.2.1 _ mw_1153) (X.2.2.2.2.1 _ mw_1154) (X.2.2.2.2.1 _ mw_281) (X.2.2.2.2.1 _ mw_1155) (by decide) (Nat.le_of_ble_eq_true rfl) (by decide) (by decide) dX2_fallOf_25 ?_
        refine lv_iload_n hx hb dX2_fallOf_28 rfl (lv_at hlB2 2 rfl) ?_
        refine lv_i2l (v := Int32.toInt64 p2) hx hb dX2_fallOf_29 rfl ?_
        refine W.lcmp hx hb dX2_fallOf_30 ?_
        refine lv_if_le (tgt := 36) hx hb dX2_fallOf_31 (by decide) (fun c22 => ?_) (fun c22 => ?_)
        · have h23 := itS c22 h21
          clear h21 c22
          obtain ⟨v36_25, e26, h27⟩ := nmI_s h23
          clear h23
          refine lv_iinc (v := v36_25) (lv' := [(3, .int v36_25), (0, .ref a0), (1, .ref a1), (2, .int p2)]) hx hb dX2_fallOf_36 hlB2 (k := 3) rfl (by rw [e26]; rfl) (by decide) rfl (fun ls hl28 => ?_)
          clear hlB2 e26
          refine lv_goto (tgt := 2) hx hb dX2_fallOf_39 (by decide) ?_
          exact ih2 v36_25 o_reckoner_letters13_12 o_reckoner_values13_13 _ _ _ h27 hV16 (lv_sub hl28 [1, 2, 3, 0] rfl)
        · have h24 := ieS c22 h21
          clear h21 c22
          refine lv_iload_n hx hb dX2_fallOf_34 rfl (lv_at hlB2 3 rfl) ?_
          obtain ⟨q29, q30, q31⟩ := tup3_s h24
          clear h24
          exact hret _ () _ _ _ _ q29 rfl (by rw [← q30, ← q31]; exact hV16) dX2_fallOf_35
  exact L2 FU 0 s_reckoner_letters s_reckoner_values _ _ _ h hV (lv_sub hl1 [1, 2, 3, 0] rfl)
noncomputable def f_X2_waveAt (p1 : Int32) (p2 : Int32) : Option (Int32) :=
    if 1 ≤ p2 then
    (dvI p2 <|
      nmI ((4000 * p1) / p2) fun v14_6 =>
      if p2 ≤ (4 * p1) then
      (if (3 * p2) ≤ (4 * p1) then
        (some ((v14_6 - 4000)))
        else
        (some ((2000 - v14_6))))
      else
      (some (v14_6)))
    else
    (some (0))
abbrev r_X2_waveAt : Room := { frames := 0, cells := 0, slots := 0, locals := 0 }
set_option maxHeartbeats 4000000 in
set_option maxRecDepth 100000 in
theorem c_X2_waveAt (l : Launch) (E : kE) (sz : Nat) (p1 : Int32) (p2 : Int32) (r : Int32) (h : f_X2_waveAt p1 p2 = some (r)) : kMi l yX2_waveAt cX2_waveAt 3 (some .int) r_X2_waveAt [.int p1, .int p2] E [] sz 0 0 (fun x (_ : Unit) => x = r) (fun _ => []) := by
  refine kmeti rfl (Nat.le_of_ble_eq_true rfl) ?_
  intro p e s m args below meth c ls A Q X hV hret hl
  have X : kC p s m c cX2_waveAt 3 RX2 args E A := X
  have hx := X.1
  have hb := X.2.1
  have hl : lv_has ls 3 [(0, .int p1), (1, .int p2)] := hl
  rw [f_X2_waveAt] at h
  refine lv_iload_n hx hb dX2_waveAt_0 rfl (lv_at hl 1 rfl) ?_
  refine lv_iconst (v := 1) hx hb dX2_waveAt_1 (by decide) ?_
  refine lv_icmp_ge (tgt := 7) hx hb dX2_waveAt_2 (by decide) (fun c1 => ?_) (fun c1 => ?_)
  · have h2 := itS c1 h
    clear h c1
    refine lv_sipush (v := 4000) hx hb dX2_waveAt_7 (by decide) ?_
    refine lv_iload_n hx hb dX2_waveAt_10 rfl (lv_at hl 0 rfl) ?_
    refine lv_imul hx hb dX2_waveAt_11 ?_
    refine lv_iload_n hx hb dX2_waveAt_12 rfl (lv_at hl 1 rfl) ?_
    obtain ⟨hn4, h5⟩ := dvI_s h2
    clear h2
    refine lv_idiv hx hb dX2_waveAt_13 hn4 ?_
    obtain ⟨v14_6, e7, h8⟩ := nmI_s h5
    clear h5
    refine ktopi e7 ?_
    clear e7
    refine lv_istore_n (lv' := [(2, .int v14_6), (0, .int p1), (1, .int p2)]) hx hb dX2_waveAt_14 rfl hl (by decide) rfl (fun ls hl9 => ?_)
    clear hl
    refine lv_iconst (v := 4) hx hb dX2_waveAt_15 (by decide) ?_
    refine lv_iload_n hx hb dX2_waveAt_16 rfl (lv_at hl9 1 rfl) ?_
    refine lv_imul hx hb dX2_waveAt_17 ?_
    refine lv_iload_n hx hb dX2_waveAt_18 rfl (lv_at hl9 2 rfl) ?_
    refine lv_icmp_ge (tgt := 24) hx hb dX2_waveAt_19 (by decide) (fun c10 => ?_) (fun c10 => ?_)
    · have h11 := itS c10 h8
      clear h8 c10
      refine lv_iconst (v := 4) hx hb dX2_waveAt_24 (by decide) ?_
      refine lv_iload_n hx hb dX2_waveAt_25 rfl (lv_at hl9 1 rfl) ?_
      refine lv_imul hx hb dX2_waveAt_26 ?_
      refine lv_iconst (v := 3) hx hb dX2_waveAt_27 (by decide) ?_
      refine lv_iload_n hx hb dX2_waveAt_28 rfl (lv_at hl9 2 rfl) ?_
      refine lv_imul hx hb dX2_waveAt_29 ?_
      refine lv_icmp_ge (tgt := 41) hx hb dX2_waveAt_30 (by decide) (fun c13 => ?_) (fun c13 => ?_)
      · have h14 := itS c13 h11
        clear h11 c13
        refine lv_iload_n hx hb dX2_waveAt_41 rfl (lv_at hl9 0 rfl) ?_
        refine lv_sipush (v := 4000) hx hb dX2_waveAt_42 (by decide) ?_
        refine lv_isub hx hb dX2_waveAt_45 ?_
        have q16 := tup1_s h14
        clear h14
        exact hret _ () _ _ _ _ q16 rfl hV dX2_waveAt_46
      · have h15 := ieS c13 h11
        clear h11 c13
        refine lv_sipush (v := 2000) hx hb dX2_waveAt_33 (by decide) ?_
        refine lv_iload_n hx hb dX2_waveAt_36 rfl (lv_at hl9 0 rfl) ?_
        refine lv_isub hx hb dX2_waveAt_37 ?_
        refine lv_goto (tgt := 46) hx hb dX2_waveAt_38 (by decide) ?_
        have q17 := tup1_s h15
        clear h15
        exact hret _ () _ _ _ _ q17 rfl hV dX2_waveAt_46
    · have h12 := ieS c10 h8
      clear h8 c10
      refine lv_iload_n hx hb dX2_waveAt_22 rfl (lv_at hl9 0 rfl) ?_
      have q18 := tup1_s h12
      clear h12
      exact hret _ () _ _ _ _ q18 rfl hV dX2_waveAt_23
  · have h3 := ieS c1 h
    clear h c1
    refine lv_iconst (v := 0) hx hb dX2_waveAt_5 (by decide) ?_
    have q19 := tup1_s h3
    clear h3
    exact hret _ () _ _ _ _ q19 rfl hV dX2_waveAt_6
noncomputable def f_X2_greatestSize_J165   (x4_4 : Int32) (x5_5 : Int32) : Option (Int32) :=
    if x5_5 < x4_4 then
    (some ((-2)))
    else
    (some (x5_5))
noncomputable def f_X2_greatestSize_J103 (x4_11 : Int32) (x5_12 : Int32) (x6_13 : Int32) (v70_34 : Int32) (v76_38 : Int32) (v83_42 : Int32) (K11 : Int32 → Int32 → Int32 → Option (Int32))  : Option (Int32) :=
    if v83_42 ≤ 0 then
    (nmI (x6_13 + 1) fun v159_53 =>
      K11 x4_11 x5_12 v159_53)
    else
    (dvI v83_42 <|
      nmI (jmin x5_12 ((((v76_38 + 1) * 1000) - 1) / v83_42)) fun v126_59 =>
      if 0 < v70_34 then
      (dvI v83_42 <|
        nmI (jmax x4_11 ((((v70_34 * 1000) + v83_42) - 1) / v83_42)) fun v157_68 =>
        nmI (x6_13 + 1) fun v159_72 =>
        K11 v157_68 v126_59 v159_72)
      else
      (nmI (x6_13 + 1) fun v159_77 =>
        K11 x4_11 v126_59 v159_77))
noncomputable def f_X2_greatestSize_J64 (p3 : Int32) (x4_11 : Int32) (x5_12 : Int32) (x6_13 : Int32) (r36_26 : Int32) (K11 : Int32 → Int32 → Int32 → Option (Int32)) (t0_32 : Int32) : Option (Int32) :=
    nmI (t0_32 - p3) fun v70_34 =>
    nmI (t0_32 + p3) fun v76_38 =>
    nmI (jabs r36_26) fun v83_42 =>
    if v76_38 < 0 then
    (some ((-2)))
    else
    (if v83_42 = 0 then
      (if v70_34 ≤ 0 then
        ((f_X2_greatestSize_J103 x4_11 x5_12 x6_13 v70_34 v76_38 v83_42 K11))
        else
        (some ((-2))))
      else
      ((f_X2_greatestSize_J103 x4_11 x5_12 x6_13 v70_34 v76_38 v83_42 K11)))
noncomputable def f_X2_greatestSize_L11 (s_many : Int32) (s_days : Nat → Int32) (s_shifts : Nat → Int32) (p1 : Int32) (p2 : Int32) (p3 : Int32) (K165 : Int32 → Int32 → Option (Int32)) : Nat → Int32 → Int32 → Int32 → Option (Int32)
  | 0, _, _, _ => none
  | n11 + 1, x4_11, x5_12, x6_13 =>
    if s_many ≤ x6_13 then
    (K165 x4_11 x5_12)
    else
    (if p1 ≤ 0 then
      (K165 x4_11 x5_12)
      else
      (rdI s_days 30 x6_13 fun v30_20 =>
        dvI p1 <|
        cb1 (f_X2_waveAt (jrem (v30_20 + p2) p1) p1) fun r36_26 =>
        if 0 ≤ r36_26 then
        (rdI s_shifts 30 x6_13 fun v63_91 =>
          (f_X2_greatestSize_J64 p3 x4_11 x5_12 x6_13 r36_26 (f_X2_greatestSize_L11 s_many s_days s_shifts p1 p2 p3 K165 n11)) v63_91)
        else
        (rdI s_shifts 30 x6_13 fun v52_95 =>
          (f_X2_greatestSize_J64 p3 x4_11 x5_12 x6_13 r36_26 (f_X2_greatestSize_L11 s_many s_days s_shifts p1 p2 p3 K165 n11)) (-v52_95))))
noncomputable def f_X2_greatestSize (s_many : Int32) (s_days : Nat → Int32) (s_shifts : Nat → Int32) (p1 : Int32) (p2 : Int32) (p3 : Int32) : Option (Int32) :=
    (f_X2_greatestSize_L11 s_many s_days s_shifts p1 p2 p3 f_X2_greatestSize_J165 FU) 0 2000 0
abbrev r_X2_greatestSize : Room := { frames := 1, cells := 0, slots := 0, locals := 23 }
set_option maxHeartbeats 4000000 in
set_option maxRecDepth 100000 in
theorem c_X2_greatestSize (l : Launch) (E : kE) (sz : Nat) (a0 a1 a2 : Nat) (w0_2 w0_3 w0_4 : Value) (s_many : Int32) (s_days : Nat → Int32) (s_shifts : Nat → Int32) (p1 : Int32) (p2 : Int32) (p3 : Int32) (r : Int32) (h : f_X2_greatestSize s_many s_days s_shifts p1 p2 p3 = some (r)) : kMi l yX2_greatestSize cX2_greatestSize 12 (some .int) r_X2_greatestSize [.ref a0, .int p1, .int p2, .int p3] E [(a0, .inr (2, [.ref a1, .ref a2, w0_2, w0_3, w0_4, .int s_many])), (a1, .inl (E.2 0, 30, .inl s_days)), (a2, .inl (E.2 0, 30, .inl s_shifts))] sz 0 0 (fun x (_ : Unit) => x = r) (fun _ => [(a0, .inr (2, [.ref a1, .ref a2, w0_2, w0_3, w0_4, .int s_many])), (a1, .inl (E.2 0, 30, .inl s_days)), (a2, .inl (E.2 0, 30, .inl s_shifts))]) := by
  refine kmeti rfl (Nat.le_of_ble_eq_true rfl) ?_
  intro p e s m args below meth c ls A Q X hV hret hl
  have X : kC p s m c cX2_greatestSize 12 RX2 args E A := X
  have hx := X.1
  have hb := X.2.1
  have hl : lv_has ls 12 [(0, .ref a0), (1, .int p1), (2, .int p2), (3, .int p3)] := hl
  rw [f_X2_greatestSize] at h
  refine lv_iconst (v := 0) hx hb dX2_greatestSize_0 (by decide) ?_
  refine lv_istore (lv' := [(4, .int 0), (0, .ref a0), (1, .int p1), (2, .int p2), (3, .int p3)]) hx hb dX2_greatestSize_1 hl (by decide) rfl (fun ls hl1 => ?_)
  clear hl
  refine lv_sipush (v := 2000) hx hb dX2_greatestSize_3 (by decide) ?_
  refine lv_istore (lv' := [(5, .int 2000), (4, .int 0), (0, .ref a0), (1, .int p1), (2, .int p2), (3, .int p3)]) hx hb dX2_greatestSize_6 hl1 (by decide) rfl (fun ls hl2 => ?_)
  clear hl1
  refine lv_iconst (v := 0) hx hb dX2_greatestSize_8 (by decide) ?_
  refine lv_istore (lv' := [(6, .int 0), (5, .int 2000), (4, .int 0), (0, .ref a0), (1, .int p1), (2, .int p2), (3, .int p3)]) hx hb dX2_greatestSize_9 hl2 (by decide) rfl (fun ls hl3 => ?_)
  clear hl2
  have J165 : ∀ (x4_4 : Int32) (x5_5 : Int32) (H : Heap) (locs : List Loc) (ls : Array Slot), (f_X2_greatestSize_J165  ) x4_4 x5_5 = some (r) → kV E A s.heap H locs [(a0, .inr (2, [.ref a1, .ref a2, w0_2, w0_3, w0_4, .int s_many])), (a1, .inl (E.2 0, 30, .inl s_days)), (a2, .inl (E.2 0, 30, .inl s_shifts))] → lv_has ls 12 [(4, .int x4_4), (5, .int x5_5)] → W p l e r_X2_greatestSize s m args below meth c H locs 0 0 Q (F0 m 165 ls []) := by
    intro x4_4 x5_5 H locs ls hB165 hVB165 hlB165
    rw [f_X2_greatestSize_J165] at hB165
    refine lv_iload hx hb dX2_greatestSize_165 (lv_at hlB165 0 rfl) ?_
    refine lv_iload hx hb dX2_greatestSize_167 (lv_at hlB165 1 rfl) ?_
    refine lv_icmp_gt (tgt := 177) hx hb dX2_greatestSize_169 (by decide) (fun c6 => ?_) (fun c6 => ?_)
    · have h7 := itS c6 hB165
      clear hB165 c6
      refine lv_bipush (v := (-2)) hx hb dX2_greatestSize_177 (by decide) ?_
      have q9 := tup1_s h7
      clear h7
      exact hret _ () _ _ _ _ q9 rfl hVB165 dX2_greatestSize_179
    · have h8 := ieS c6 hB165
      clear hB165 c6
      refine lv_iload hx hb dX2_greatestSize_172 (lv_at hlB165 1 rfl) ?_
      refine lv_goto (tgt := 179) hx hb dX2_greatestSize_174 (by decide) ?_
      have q10 := tup1_s h8
      clear h8
      exact hret _ () _ _ _ _ q10 rfl hVB165 dX2_greatestSize_179
  have L11 : ∀ (n11 : Nat) (x4_11 : Int32) (x5_12 : Int32) (x6_13 : Int32) (H : Heap) (locs : List Loc) (ls : Array Slot), (f_X2_greatestSize_L11 s_many s_days s_shifts p1 p2 p3 (f_X2_greatestSize_J165  ) n11) x4_11 x5_12 x6_13 = some (r) → kV E A s.heap H locs [(a0, .inr (2, [.ref a1, .ref a2, w0_2, w0_3, w0_4, .int s_many])), (a1, .inl (E.2 0, 30, .inl s_days)), (a2, .inl (E.2 0, 30, .inl s_shifts))] → lv_has ls 12 [(0, .ref a0), (1, .int p1), (2, .int p2), (3, .int p3), (4, .int x4_11), (5, .int x5_12), (6, .int x6_13)] → W p l e r_X2_greatestSize s m args below meth c H locs 0 0 Q (F0 m 11 ls []) := by
    intro n11
    induction n11 with
    | zero =>
      intro x4_11 x5_12 x6_13 H locs ls hB11 hVB11 hlB11
      rw [f_X2_greatestSize_L11] at hB11
      exact nomatch hB11
    | succ n11 ih11 =>
      intro x4_11 x5_12 x6_13 H locs ls hB11 hVB11 hlB11
      rw [f_X2_greatestSize_L11] at hB11
      refine lv_iload hx hb dX2_greatestSize_11 (lv_at hlB11 6 rfl) ?_
      refine lv_aload_n hx hb dX2_greatestSize_13 rfl (lv_at hlB11 0 rfl) ?_
      refine kget X hVB11 (ci := 2) inlX2 rfl 0 rfl 5 (by decide) mw_126 rfl dX2_greatestSize_14 ?_
      refine lv_icmp_ge (tgt := 165) hx hb dX2_greatestSize_17 (by decide) (fun c14 => ?_) (fun c14 => ?_)
      · have h15 := itS c14 hB11
        clear hB11 c14
        exact J165 x4_11 x5_12 _ _ _ h15 hVB11 (lv_sub hlB11 [4, 5] rfl)
      · have h16 := ieS c14 hB11
        clear hB11 c14
        refine lv_iload_n hx hb dX2_greatestSize_20 rfl (lv_at hlB11 1 rfl) ?_
        refine lv_if_le (tgt := 165) hx hb dX2_greatestSize_21 (by decide) (fun c17 => ?_) (fun c17 => ?_)
        · have h18 := itS c17 h16
          clear h16 c17
          exact J165 x4_11 x5_12 _ _ _ h18 hVB11 (lv_sub hlB11 [4, 5] rfl)
        · have h19 := ieS c17 h16
          clear h16 c17
          refine lv_aload_n hx hb dX2_greatestSize_24 rfl (lv_at hlB11 0 rfl) ?_
          refine kget X hVB11 (ci := 2) inlX2 rfl 0 rfl 0 (by decide) mw_119 rfl dX2_greatestSize_25 ?_
          refine lv_iload hx hb dX2_greatestSize_28 (lv_at hlB11 6 rfl) ?_
          obtain ⟨hi21, v30_20, e22, h23⟩ := rdI_s h19
          clear h19
          refine kiald X hVB11 1 rfl hi21 e22 dX2_greatestSize_30 ?_
          clear hi21 e22
          refine lv_iload_n hx hb dX2_greatestSize_31 rfl (lv_at hlB11 2 rfl) ?_
          refine lv_iadd hx hb dX2_greatestSize_32 ?_
          refine lv_iload_n hx hb dX2_greatestSize_33 rfl (lv_at hlB11 1 rfl) ?_
          obtain ⟨hn24, h25⟩ := dvI_s h23
          clear h23
          refine lv_irem hx hb dX2_greatestSize_34 hn24 ?_
          refine lv_iload_n hx hb dX2_greatestSize_35 rfl (lv_at hlB11 1 rfl) ?_
          obtain ⟨r36_26, hc27, h28⟩ := cb1_s h25
          clear h25
          refine kgoiE (krunS (rest := []) X hVB11 [] (c_X2_waveAt l E _ (jrem (v30_20 + p2) p1) p1 r36_26 hc27) mw_1196 kb_X2_waveAt (by decide) rfl rfl hlB11.1 rfl (Nat.le_of_ble_eq_true rfl) dX2_greatestSize_36 (by decide)) X hVB11 [] [0, 1, 2] rfl rfl rfl (by decide) (fun u H locs hV29 => ?_)
          have hV29 : kV E A s.heap H locs [(a0, .inr (2, [.ref a1, .ref a2, w0_2, w0_3, w0_4, .int s_many])), (a1, .inl (E.2 0, 30, .inl s_days)), (a2, .inl (E.2 0, 30, .inl s_shifts))] := hV29.sub [0, 1, 2] rfl rfl
          clear hVB11
          refine lv_istore (lv' := [(7, .int r36_26), (0, .ref a0), (1, .int p1), (2, .int p2), (3, .int p3), (4, .int x4_11), (5, .int x5_12), (6, .int x6_13)]) hx hb dX2_greatestSize_39 hlB11 (by decide) rfl (fun ls hl31 => ?_)
          clear hlB11
          refine lv_iload hx hb dX2_greatestSize_41 (lv_at hl31 0 rfl) ?_
          have J64 : ∀ (t0_32 : Int32) (H : Heap) (locs : List Loc) (ls : Array Slot), (f_X2_greatestSize_J64 p3 x4_11 x5_12 x6_13 r36_26 (f_X2_greatestSize_L11 s_many s_days s_shifts p1 p2 p3 (f_X2_greatestSize_J165  ) n11)) t0_32 = some (r) → kV E A s.heap H locs [(a0, .inr (2, [.ref a1, .ref a2, w0_2, w0_3, w0_4, .int s_many])), (a1, .inl (E.2 0, 30, .inl s_days)), (a2, .inl (E.2 0, 30, .inl s_shifts))] → lv_has ls 12 [(0, .ref a0), (1, .int p1), (2, .int p2), (3, .int p3), (4, .int x4_11), (5, .int x5_12), (6, .int x6_13), (7, .int r36_26)] → W p l e r_X2_greatestSize s m args below meth c H locs 0 0 Q (F0 m 64 ls [.int t0_32]) := by
            intro t0_32 H locs ls hB64 hVB64 hlB64
            rw [f_X2_greatestSize_J64] at hB64
            refine lv_istore (lv' := [(8, .int t0_32), (0, .ref a0), (1, .int p1), (2, .int p2), (3, .int p3), (4, .int x4_11), (5, .int x5_12), (6, .int x6_13), (7, .int r36_26)]) hx hb dX2_greatestSize_64 hlB64 (by decide) rfl (fun ls hl33 => ?_)
            clear hlB64
            refine lv_iload hx hb dX2_greatestSize_66 (lv_at hl33 0 rfl) ?_
            refine lv_iload_n hx hb dX2_greatestSize_68 rfl (lv_at hl33 4 rfl) ?_
            refine lv_isub hx hb dX2_greatestSize_69 ?_
            obtain ⟨v70_34, e35, h36⟩ := nmI_s hB64
            clear hB64
            refine ktopi e35 ?_
            clear e35
            refine lv_istore (lv' := [(9, .int v70_34), (8, .int t0_32), (0, .ref a0), (1, .int p1), (2, .int p2), (3, .int p3), (4, .int x4_11), (5, .int x5_12), (6, .int x6_13), (7, .int r36_26)]) hx hb dX2_greatestSize_70 hl33 (by decide) rfl (fun ls hl37 => ?_)
            clear hl33
            refine lv_iload hx hb dX2_greatestSize_72 (lv_at hl37 1 rfl) ?_
            refine lv_iload_n hx hb dX2_greatestSize_74 rfl (lv_at hl37 5 rfl) ?_
            refine lv_iadd hx hb dX2_greatestSize_75 ?_
            obtain ⟨v76_38, e39, h40⟩ := nmI_s h36
            clear h36
            refine ktopi e39 ?_
            clear e39
            refine lv_istore (lv' := [(10, .int v76_38), (9, .int v70_34), (8, .int t0_32), (0, .ref a0), (1, .int p1), (2, .int p2), (3, .int p3), (4, .int x4_11), (5, .int x5_12), (6, .int x6_13), (7, .int r36_26)]) hx hb dX2_greatestSize_76 hl37 (by decide) rfl (fun ls hl41 => ?_)
            clear hl37
            refine lv_iload hx hb dX2_greatestSize_78 (lv_at hl41 10 rfl) ?_
            refine va_mabs hx hb (X.2.2.1.trans hl41.1.symm) X.2.2.2.1 (X.2.2.2.2.1 _ mw_1194) (X.2.2.2.2.1 _ mw_658) (X.2.2.2.2.1 _ mw_281) (X.2.2.2.2.1 _ mw_659) (by decide) (Nat.le_of_ble_eq_true rfl) (by decide) (by decide) dX2_greatestSize_80 ?_
            obtain ⟨v83_42, e43, h44⟩ := nmI_s h40
            clear h40
            refine ktopi e43 ?_
            clear e43
            refine lv_istore (lv' := [(11, .int v83_42), (10, .int v76_38), (9, .int v70_34), (8, .int t0_32), (0, .ref a0), (1, .int p1), (2, .int p2), (3, .int p3), (4, .int x4_11), (5, .int x5_12), (6, .int x6_13), (7, .int r36_26)]) hx hb dX2_greatestSize_83 hl41 (by decide) rfl (fun ls hl45 => ?_)
            clear hl41
            refine lv_iload hx hb dX2_greatestSize_85 (lv_at hl45 1 rfl) ?_
            refine lv_if_lt (tgt := 100) hx hb dX2_greatestSize_87 (by decide) (fun c46 => ?_) (fun c46 => ?_)
            · have h47 := itS c46 h44
              clear h44 c46
              refine lv_bipush (v := (-2)) hx hb dX2_greatestSize_100 (by decide) ?_
              have q49 := tup1_s h47
              clear h47
              exact hret _ () _ _ _ _ q49 rfl hVB64 dX2_greatestSize_102
            · have h48 := ieS c46 h44
              clear h44 c46
              refine lv_iload hx hb dX2_greatestSize_90 (lv_at hl45 0 rfl) ?_
              have J103 : ∀  (H : Heap) (locs : List Loc) (ls : Array Slot), (f_X2_greatestSize_J103 x4_11 x5_12 x6_13 v70_34 v76_38 v83_42 (f_X2_greatestSize_L11 s_many s_days s_shifts p1 p2 p3 (f_X2_greatestSize_J165  ) n11)) = some (r) → kV E A s.heap H locs [(a0, .inr (2, [.ref a1, .ref a2, w0_2, w0_3, w0_4, .int s_many])), (a1, .inl (E.2 0, 30, .inl s_days)), (a2, .inl (E.2 0, 30, .inl s_shifts))] → lv_has ls 12 [(0, .ref a0), (1, .int p1), (2, .int p2), (3, .int p3), (4, .int x4_11), (5, .int x5_12), (6, .int x6_13), (9, .int v70_34), (10, .int v76_38), (11, .int v83_42)] → W p l e r_X2_greatestSize s m args below meth c H locs 0 0 Q (F0 m 103 ls []) := by
                intro  H locs ls hB103 hVB103 hlB103
                rw [f_X2_greatestSize_J103] at hB103
                refine lv_iload hx hb dX2_greatestSize_103 (lv_at hlB103 9 rfl) ?_
                refine lv_if_le (tgt := 159) hx hb dX2_greatestSize_105 (by decide) (fun c50 => ?_) (fun c50 => ?_)
                · have h51 := itS c50 hB103
                  clear hB103 c50
                  obtain ⟨v159_53, e54, h55⟩ := nmI_s h51
                  clear h51
                  refine lv_iinc (v := v159_53) (lv' := [(6, .int v159_53), (0, .ref a0), (1, .int p1), (2, .int p2), (3, .int p3), (4, .int x4_11), (5, .int x5_12), (9, .int v70_34), (10, .int v76_38), (11, .int v83_42)]) hx hb dX2_greatestSize_159 hlB103 (k := 6) rfl (by rw [e54]; rfl) (by decide) rfl (fun ls hl56 => ?_)
                  clear hlB103 e54
                  refine lv_goto (tgt := 11) hx hb dX2_greatestSize_162 (by decide) ?_
                  exact ih11 x4_11 x5_12 v159_53 _ _ _ h55 hVB103 (lv_sub hl56 [1, 2, 3, 4, 5, 6, 0] rfl)
                · have h52 := ieS c50 hB103
                  clear hB103 c50
                  refine lv_iload hx hb dX2_greatestSize_108 (lv_at hlB103 5 rfl) ?_
                  refine lv_iload hx hb dX2_greatestSize_110 (lv_at hlB103 8 rfl) ?_
                  refine lv_iconst (v := 1) hx hb dX2_greatestSize_112 (by decide) ?_
                  refine lv_iadd hx hb dX2_greatestSize_113 ?_
                  refine lv_sipush (v := 1000) hx hb dX2_greatestSize_114 (by decide) ?_
                  refine lv_imul hx hb dX2_greatestSize_117 ?_
                  refine lv_iconst (v := 1) hx hb dX2_greatestSize_118 (by decide) ?_
                  refine lv_isub hx hb dX2_greatestSize_119 ?_
                  refine lv_iload hx hb dX2_greatestSize_120 (lv_at hlB103 9 rfl) ?_
                  obtain ⟨hn57, h58⟩ := dvI_s h52
                  clear h52
                  refine lv_idiv hx hb dX2_greatestSize_122 hn57 ?_
                  refine va_mmin hx hb (X.2.2.1.trans hlB103.1.symm) X.2.2.2.1 (X.2.2.2.2.1 _ mw_1195) (X.2.2.2.2.1 _ mw_280) (X.2.2.2.2.1 _ mw_281) (X.2.2.2.2.1 _ mw_282) (by decide) (Nat.le_of_ble_eq_true rfl) (by decide) (by decide) dX2_greatestSize_123 ?_
                  obtain ⟨v126_59, e60, h61⟩ := nmI_s h58
                  clear h58
                  refine ktopi e60 ?_
                  clear e60
                  refine lv_istore (lv' := [(5, .int v126_59), (0, .ref a0), (1, .int p1), (2, .int p2), (3, .int p3), (4, .int x4_11), (6, .int x6_13), (9, .int v70_34), (10, .int v76_38), (11, .int v83_42)]) hx hb dX2_greatestSize_126 hlB103 (by decide) rfl (fun ls hl62 => ?_)
                  clear hlB103
                  refine lv_iload hx hb dX2_greatestSize_128 (lv_at hl62 7 rfl) ?_
                  refine lv_if_gt (tgt := 138) hx hb dX2_greatestSize_130 (by decide) (fun c63 => ?_) (fun c63 => ?_)
                  · have h64 := itS c63 h61
                    clear h61 c63
                    refine lv_iload hx hb dX2_greatestSize_138 (lv_at hl62 5 rfl) ?_
                    refine lv_iload hx hb dX2_greatestSize_140 (lv_at hl62 7 rfl) ?_
                    refine lv_sipush (v := 1000) hx hb dX2_greatestSize_142 (by decide) ?_
                    refine lv_imul hx hb dX2_greatestSize_145 ?_
                    refine lv_iload hx hb dX2_greatestSize_146 (lv_at hl62 9 rfl) ?_
                    refine lv_iadd hx hb dX2_greatestSize_148 ?_
                    refine lv_iconst (v := 1) hx hb dX2_greatestSize_149 (by decide) ?_
                    refine lv_isub hx hb dX2_greatestSize_150 ?_
                    refine lv_iload hx hb dX2_greatestSize_151 (lv_at hl62 9 rfl) ?_
                    obtain ⟨hn66, h67⟩ := dvI_s h64
                    clear h64
                    refine lv_idiv hx hb dX2_greatestSize_153 hn66 ?_
                    refine va_mmax hx hb (X.2.2.1.trans hl62.1.symm) X.2.2.2.1 (X.2.2.2.2.1 _ mw_1189) (X.2.2.2.2.1 _ mw_354) (X.2.2.2.2.1 _ mw_281) (X.2.2.2.2.1 _ mw_355) (by decide) (Nat.le_of_ble_eq_true rfl) (by decide) (by decide) dX2_greatestSize_154 ?_
                    obtain ⟨v157_68, e69, h70⟩ := nmI_s h67
                    clear h67
                    refine ktopi e69 ?_
                    clear e69
                    refine lv_istore (lv' := [(4, .int v157_68), (5, .int v126_59), (0, .ref a0), (1, .int p1), (2, .int p2), (3, .int p3), (6, .int x6_13), (9, .int v70_34), (10, .int v76_38), (11, .int v83_42)]) hx hb dX2_greatestSize_157 hl62 (by decide) rfl (fun ls hl71 => ?_)
                    clear hl62
                    obtain ⟨v159_72, e73, h74⟩ := nmI_s h70
                    clear h70
                    refine lv_iinc (v := v159_72) (lv' := [(6, .int v159_72), (4, .int v157_68), (5, .int v126_59), (0, .ref a0), (1, .int p1), (2, .int p2), (3, .int p3), (9, .int v70_34), (10, .int v76_38), (11, .int v83_42)]) hx hb dX2_greatestSize_159 hl71 (k := 6) rfl (by rw [e73]; rfl) (by decide) rfl (fun ls hl75 => ?_)
                    clear hl71 e73
                    refine lv_goto (tgt := 11) hx hb dX2_greatestSize_162 (by decide) ?_
                    exact ih11 v157_68 v126_59 v159_72 _ _ _ h74 hVB103 (lv_sub hl75 [3, 4, 5, 6, 1, 2, 0] rfl)
                  · have h65 := ieS c63 h61
                    clear h61 c63
                    refine lv_iload hx hb dX2_greatestSize_133 (lv_at hl62 5 rfl) ?_
                    refine lv_goto (tgt := 157) hx hb dX2_greatestSize_135 (by decide) ?_
                    refine lv_istore (lv' := [(4, .int x4_11), (5, .int v126_59), (0, .ref a0), (1, .int p1), (2, .int p2), (3, .int p3), (6, .int x6_13), (9, .int v70_34), (10, .int v76_38), (11, .int v83_42)]) hx hb dX2_greatestSize_157 hl62 (by decide) rfl (fun ls hl76 => ?_)
                    clear hl62
                    obtain ⟨v159_77, e78, h79⟩ := nmI_s h65
                    clear h65
                    refine lv_iinc (v := v159_77) (lv' := [(6, .int v159_77), (4, .int x4_11), (5, .int v126_59), (0, .ref a0), (1, .int p1), (2, .int p2), (3, .int p3), (9, .int v70_34), (10, .int v76_38), (11, .int v83_42)]) hx hb dX2_greatestSize_159 hl76 (k := 6) rfl (by rw [e78]; rfl) (by decide) rfl (fun ls hl80 => ?_)
                    clear hl76 e78
                    refine lv_goto (tgt := 11) hx hb dX2_greatestSize_162 (by decide) ?_
                    exact ih11 x4_11 v126_59 v159_77 _ _ _ h79 hVB103 (lv_sub hl80 [3, 4, 5, 6, 1, 2, 0] rfl)
              refine lv_if_ne (tgt := 103) hx hb dX2_greatestSize_92 (by decide) (fun c81 => ?_) (fun c81 => ?_)
              · have h82 := ieS c81 h48
                clear h48 c81
                exact J103  _ _ _ h82 hVB64 (lv_sub hl45 [4, 5, 6, 7, 8, 9, 10, 2, 1, 0] rfl)
              · have h83 := itS c81 h48
                clear h48 c81
                refine lv_iload hx hb dX2_greatestSize_95 (lv_at hl45 2 rfl) ?_
                refine lv_if_le (tgt := 103) hx hb dX2_greatestSize_97 (by decide) (fun c84 => ?_) (fun c84 => ?_)
                · have h85 := itS c84 h83
                  clear h83 c84
                  exact J103  _ _ _ h85 hVB64 (lv_sub hl45 [4, 5, 6, 7, 8, 9, 10, 2, 1, 0] rfl)
                · have h86 := ieS c84 h83
                  clear h83 c84
                  refine lv_bipush (v := (-2)) hx hb dX2_greatestSize_100 (by decide) ?_
                  have q87 := tup1_s h86
                  clear h86
                  exact hret _ () _ _ _ _ q87 rfl hVB64 dX2_greatestSize_102
          refine lv_if_ge (tgt := 57) hx hb dX2_greatestSize_43 (by decide) (fun c88 => ?_) (fun c88 => ?_)
          · have h89 := itS c88 h28
            clear h28 c88
            refine lv_aload_n hx hb dX2_greatestSize_57 rfl (lv_at hl31 1 rfl) ?_
            refine kget X hV29 (ci := 2) inlX2 rfl 0 rfl 1 (by decide) mw_120 rfl dX2_greatestSize_58 ?_
            refine lv_iload hx hb dX2_greatestSize_61 (lv_at hl31 7 rfl) ?_
            obtain ⟨hi92, v63_91, e93, h94⟩ := rdI_s h89
            clear h89
            refine kiald X hV29 2 rfl hi92 e93 dX2_greatestSize_63 ?_
            clear hi92 e93
            exact J64 v63_91 _ _ _ h94 hV29 (lv_sub hl31 [1, 2, 3, 4, 5, 6, 7, 0] rfl)
          · have h90 := ieS c88 h28
            clear h28 c88
            refine lv_aload_n hx hb dX2_greatestSize_46 rfl (lv_at hl31 1 rfl) ?_
            refine kget X hV29 (ci := 2) inlX2 rfl 0 rfl 1 (by decide) mw_120 rfl dX2_greatestSize_47 ?_
            refine lv_iload hx hb dX2_greatestSize_50 (lv_at hl31 7 rfl) ?_
            obtain ⟨hi96, v52_95, e97, h98⟩ := rdI_s h90
            clear h90
            refine kiald X hV29 2 rfl hi96 e97 dX2_greatestSize_52 ?_
            clear hi96 e97
            refine lv_ineg hx hb dX2_greatestSize_53 ?_
            refine lv_goto (tgt := 64) hx hb dX2_greatestSize_54 (by decide) ?_
            exact J64 (-v52_95) _ _ _ h98 hV29 (lv_sub hl31 [1, 2, 3, 4, 5, 6, 7, 0] rfl)
  exact L11 FU 0 2000 0 _ _ _ h hV (lv_sub hl3 [3, 4, 5, 6, 2, 1, 0] rfl)
noncomputable def f_X2_greatestOrbit_L6 (s_many : Int32) (s_days : Nat → Int32) (s_shifts : Nat → Int32) (p1 : Int32) (p2 : Int32)  : Nat → Int32 → Int32 → Option (Int32)
  | 0, _, _ => none
  | n6 + 1, x3_3, x4_4 =>
    if p1 ≤ x4_4 then
    (some (x3_3))
    else
    (cb1 (f_X2_greatestSize s_many s_days s_shifts p1 x4_4 p2) fun r18_9 =>
      nmI (jmax x3_3 r18_9) fun v24_14 =>
      nmI (x4_4 + 1) fun v25_18 =>
      (f_X2_greatestOrbit_L6 s_many s_days s_shifts p1 p2  n6) v24_14 v25_18)
noncomputable def f_X2_greatestOrbit (s_many : Int32) (s_days : Nat → Int32) (s_shifts : Nat → Int32) (p1 : Int32) (p2 : Int32) : Option (Int32) :=
    (f_X2_greatestOrbit_L6 s_many s_days s_shifts p1 p2  FU) (-2) 0
abbrev r_X2_greatestOrbit : Room := { frames := 2, cells := 0, slots := 0, locals := 54 }
set_option maxHeartbeats 4000000 in
set_option maxRecDepth 100000 in
theorem c_X2_greatestOrbit (l : Launch) (E : kE) (sz : Nat) (a0 a1 a2 : Nat) (w0_2 w0_3 w0_4 : Value) (s_many : Int32) (s_days : Nat → Int32) (s_shifts : Nat → Int32) (p1 : Int32) (p2 : Int32) (r : Int32) (h : f_X2_greatestOrbit s_many s_days s_shifts p1 p2 = some (r)) : kMi l yX2_greatestOrbit cX2_greatestOrbit 5 (some .int) r_X2_greatestOrbit [.ref a0, .int p1, .int p2] E [(a0, .inr (2, [.ref a1, .ref a2, w0_2, w0_3, w0_4, .int s_many])), (a1, .inl (E.2 0, 30, .inl s_days)), (a2, .inl (E.2 0, 30, .inl s_shifts))] sz 0 0 (fun x (_ : Unit) => x = r) (fun _ => [(a0, .inr (2, [.ref a1, .ref a2, w0_2, w0_3, w0_4, .int s_many])), (a1, .inl (E.2 0, 30, .inl s_days)), (a2, .inl (E.2 0, 30, .inl s_shifts))]) := by
  refine kmeti rfl (Nat.le_of_ble_eq_true rfl) ?_
  intro p e s m args below meth c ls A Q X hV hret hl
  have X : kC p s m c cX2_greatestOrbit 5 RX2 args E A := X
  have hx := X.1
  have hb := X.2.1
  have hl : lv_has ls 5 [(0, .ref a0), (1, .int p1), (2, .int p2)] := hl
  rw [f_X2_greatestOrbit] at h
  refine lv_bipush (v := (-2)) hx hb dX2_greatestOrbit_0 (by decide) ?_
  refine lv_istore_n (lv' := [(3, .int (-2)), (0, .ref a0), (1, .int p1), (2, .int p2)]) hx hb dX2_greatestOrbit_2 rfl hl (by decide) rfl (fun ls hl1 => ?_)
  clear hl
  refine lv_iconst (v := 0) hx hb dX2_greatestOrbit_3 (by decide) ?_
  refine lv_istore (lv' := [(4, .int 0), (3, .int (-2)), (0, .ref a0), (1, .int p1), (2, .int p2)]) hx hb dX2_greatestOrbit_4 hl1 (by decide) rfl (fun ls hl2 => ?_)
  clear hl1
  have L6 : ∀ (n6 : Nat) (x3_3 : Int32) (x4_4 : Int32) (H : Heap) (locs : List Loc) (ls : Array Slot), (f_X2_greatestOrbit_L6 s_many s_days s_shifts p1 p2  n6) x3_3 x4_4 = some (r) → kV E A s.heap H locs [(a0, .inr (2, [.ref a1, .ref a2, w0_2, w0_3, w0_4, .int s_many])), (a1, .inl (E.2 0, 30, .inl s_days)), (a2, .inl (E.2 0, 30, .inl s_shifts))] → lv_has ls 5 [(0, .ref a0), (1, .int p1), (2, .int p2), (3, .int x3_3), (4, .int x4_4)] → W p l e r_X2_greatestOrbit s m args below meth c H locs 0 0 Q (F0 m 6 ls []) := by
    intro n6
    induction n6 with
    | zero =>
      intro x3_3 x4_4 H locs ls hB6 hVB6 hlB6
      rw [f_X2_greatestOrbit_L6] at hB6
      exact nomatch hB6
    | succ n6 ih6 =>
      intro x3_3 x4_4 H locs ls hB6 hVB6 hlB6
      rw [f_X2_greatestOrbit_L6] at hB6
      refine lv_iload hx hb dX2_greatestOrbit_6 (lv_at hlB6 4 rfl) ?_
      refine lv_iload_n hx hb dX2_greatestOrbit_8 rfl (lv_at hlB6 1 rfl) ?_
      refine lv_icmp_ge (tgt := 31) hx hb dX2_greatestOrbit_9 (by decide) (fun c5 => ?_) (fun c5 => ?_)
      · have h6 := itS c5 hB6
        clear hB6 c5
        refine lv_iload_n hx hb dX2_greatestOrbit_31 rfl (lv_at hlB6 3 rfl) ?_
        have q8 := tup1_s h6
        clear h6
        exact hret _ () _ _ _ _ q8 rfl hVB6 dX2_greatestOrbit_32
      · have h7 := ieS c5 hB6
        clear hB6 c5
        refine lv_iload_n hx hb dX2_greatestOrbit_12 rfl (lv_at hlB6 3 rfl) ?_
        refine lv_aload_n hx hb dX2_greatestOrbit_13 rfl (lv_at hlB6 0 rfl) ?_
        refine lv_iload_n hx hb dX2_greatestOrbit_14 rfl (lv_at hlB6 1 rfl) ?_
        refine lv_iload hx hb dX2_greatestOrbit_15 (lv_at hlB6 4 rfl) ?_
        refine lv_iload_n hx hb dX2_greatestOrbit_17 rfl (lv_at hlB6 2 rfl) ?_
        obtain ⟨r18_9, hc10, h11⟩ := cb1_s h7
        clear h7
        refine kgoiE (krunV (rest := [.int x3_3]) X hVB6 [0, 1, 2] (c_X2_greatestSize l E _ a0 a1 a2 (w0_2) (w0_3) (w0_4) s_many s_days s_shifts p1 x4_4 p2 r18_9 hc10) mw_1190 kb_X2_greatestSize (ci := 2) rfl rfl (by decide) rfl rfl hlB6.1 rfl (Nat.le_of_ble_eq_true rfl) dX2_greatestOrbit_18 (by decide)) X hVB6 [0, 1, 2] [] rfl rfl rfl (by decide) (fun u H locs hV12 => ?_)
        have hV12 : kV E A s.heap H locs [(a0, .inr (2, [.ref a1, .ref a2, w0_2, w0_3, w0_4, .int s_many])), (a1, .inl (E.2 0, 30, .inl s_days)), (a2, .inl (E.2 0, 30, .inl s_shifts))] := hV12.sub [0, 1, 2] rfl rfl
        clear hVB6
        refine va_mmax hx hb (X.2.2.1.trans hlB6.1.symm) X.2.2.2.1 (X.2.2.2.2.1 _ mw_1189) (X.2.2.2.2.1 _ mw_354) (X.2.2.2.2.1 _ mw_281) (X.2.2.2.2.1 _ mw_355) (by decide) (Nat.le_of_ble_eq_true rfl) (by decide) (by decide) dX2_greatestOrbit_21 ?_
        obtain ⟨v24_14, e15, h16⟩ := nmI_s h11
        clear h11
        refine ktopi e15 ?_
        clear e15
        refine lv_istore_n (lv' := [(3, .int v24_14), (0, .ref a0), (1, .int p1), (2, .int p2), (4, .int x4_4)]) hx hb dX2_greatestOrbit_24 rfl hlB6 (by decide) rfl (fun ls hl17 => ?_)
        clear hlB6
        obtain ⟨v25_18, e19, h20⟩ := nmI_s h16
        clear h16
        refine lv_iinc (v := v25_18) (lv' := [(4, .int v25_18), (3, .int v24_14), (0, .ref a0), (1, .int p1), (2, .int p2)]) hx hb dX2_greatestOrbit_25 hl17 (k := 4) rfl (by rw [e19]; rfl) (by decide) rfl (fun ls hl21 => ?_)
        clear hl17 e19
        refine lv_goto (tgt := 6) hx hb dX2_greatestOrbit_28 (by decide) ?_
        exact ih6 v24_14 v25_18 _ _ _ h20 hV12 (lv_sub hl21 [2, 3, 4, 1, 0] rfl)
  exact L6 FU (-2) 0 _ _ _ h hV (lv_sub hl2 [2, 3, 4, 1, 0] rfl)
noncomputable def f_X1_missesFrom (s_best : Nat → Int32) (s_tens : Nat → Int32) (p1 : Int32) (p2 : Int32) (p3 : Int32) : Option (Int32) :=
    rdI s_best 287 ((p2 * 41) + (jmin 40 (p1 + p3))) fun v17_1 =>
    if v17_1 = (-1) then
    (some ((-1)))
    else
    (rdI s_tens 40 p1 fun v37_9 =>
      some (((10 - v37_9) * v17_1)))
abbrev r_X1_missesFrom : Room := { frames := 1, cells := 0, slots := 0, locals := 23 }
set_option maxHeartbeats 4000000 in
set_option maxRecDepth 100000 in
theorem c_X1_missesFrom (l : Launch) (E : kE) (sz : Nat) (a0 a1 a2 : Nat) (w0_1 w0_3 : Value) (s_best : Nat → Int32) (s_tens : Nat → Int32) (p1 : Int32) (p2 : Int32) (p3 : Int32) (r : Int32) (h : f_X1_missesFrom s_best s_tens p1 p2 p3 = some (r)) : kMi l yX1_missesFrom cX1_missesFrom 5 (some .int) r_X1_missesFrom [.ref a0, .int p1, .int p2, .int p3] E [(a0, .inr (1, [.ref a2, w0_1, .ref a1, w0_3])), (a1, .inl (E.2 0, 287, .inl s_best)), (a2, .inl (E.2 0, 40, .inl s_tens))] sz 0 0 (fun x (_ : Unit) => x = r) (fun _ => [(a0, .inr (1, [.ref a2, w0_1, .ref a1, w0_3])), (a1, .inl (E.2 0, 287, .inl s_best)), (a2, .inl (E.2 0, 40, .inl s_tens))]) := by
  refine kmeti rfl (Nat.le_of_ble_eq_true rfl) ?_
  intro p e s m args below meth c ls A Q X hV hret hl
  have X : kC p s m c cX1_missesFrom 5 RX1 args E A := X
  have hx := X.1
  have hb := X.2.1
  have hl : lv_has ls 5 [(0, .ref a0), (1, .int p1), (2, .int p2), (3, .int p3)] := hl
  rw [f_X1_missesFrom] at h
  refine lv_aload_n hx hb dX1_missesFrom_0 rfl (lv_at hl 0 rfl) ?_
  refine kget X hV (ci := 1) inlX1 rfl 0 rfl 2 (by decide) mw_134 rfl dX1_missesFrom_1 ?_
  refine lv_iload_n hx hb dX1_missesFrom_4 rfl (lv_at hl 2 rfl) ?_
  refine lv_bipush (v := 41) hx hb dX1_missesFrom_5 (by decide) ?_
  refine lv_imul hx hb dX1_missesFrom_7 ?_
  refine lv_bipush (v := 40) hx hb dX1_missesFrom_8 (by decide) ?_
  refine lv_iload_n hx hb dX1_missesFrom_10 rfl (lv_at hl 1 rfl) ?_
  refine lv_iload_n hx hb dX1_missesFrom_11 rfl (lv_at hl 3 rfl) ?_
  refine lv_iadd hx hb dX1_missesFrom_12 ?_
  refine va_mmin hx hb (X.2.2.1.trans hl.1.symm) X.2.2.2.1 (X.2.2.2.2.1 _ mw_1233) (X.2.2.2.2.1 _ mw_280) (X.2.2.2.2.1 _ mw_281) (X.2.2.2.2.1 _ mw_282) (by decide) (Nat.le_of_ble_eq_true rfl) (by decide) (by decide) dX1_missesFrom_13 ?_
  refine lv_iadd hx hb dX1_missesFrom_16 ?_
  obtain ⟨hi2, v17_1, e3, h4⟩ := rdI_s h
  clear h
  refine kiald X hV 1 rfl hi2 e3 dX1_missesFrom_17 ?_
  clear hi2 e3
  refine lv_istore (lv' := [(4, .int v17_1), (0, .ref a0), (1, .int p1), (2, .int p2), (3, .int p3)]) hx hb dX1_missesFrom_18 hl (by decide) rfl (fun ls hl5 => ?_)
  clear hl
  refine lv_iload hx hb dX1_missesFrom_20 (lv_at hl5 0 rfl) ?_
  refine lv_iconst (v := (-1)) hx hb dX1_missesFrom_22 (by decide) ?_
  refine lv_icmp_ne (tgt := 30) hx hb dX1_missesFrom_23 (by decide) (fun c6 => ?_) (fun c6 => ?_)
  · have h7 := ieS c6 h4
    clear h4 c6
    refine lv_bipush (v := 10) hx hb dX1_missesFrom_30 (by decide) ?_
    refine lv_aload_n hx hb dX1_missesFrom_32 rfl (lv_at hl5 1 rfl) ?_
    refine kget X hV (ci := 1) inlX1 rfl 0 rfl 0 (by decide) mw_132 rfl dX1_missesFrom_33 ?_
    refine lv_iload_n hx hb dX1_missesFrom_36 rfl (lv_at hl5 2 rfl) ?_
    obtain ⟨hi10, v37_9, e11, h12⟩ := rdI_s h7
    clear h7
    refine kiald X hV 2 rfl hi10 e11 dX1_missesFrom_37 ?_
    clear hi10 e11
    refine lv_isub hx hb dX1_missesFrom_38 ?_
    refine lv_iload hx hb dX1_missesFrom_39 (lv_at hl5 0 rfl) ?_
    refine lv_imul hx hb dX1_missesFrom_41 ?_
    have q13 := tup1_s h12
    clear h12
    exact hret _ () _ _ _ _ q13 rfl hV dX1_missesFrom_42
  · have h8 := itS c6 h4
    clear h4 c6
    refine lv_iconst (v := (-1)) hx hb dX1_missesFrom_26 (by decide) ?_
    refine lv_goto (tgt := 42) hx hb dX1_missesFrom_27 (by decide) ?_
    have q14 := tup1_s h8
    clear h8
    exact hret _ () _ _ _ _ q14 rfl hV dX1_missesFrom_42
noncomputable def f_X1_weigh_J97 (x3_2 : Int32) (x4_15 : Int32) (best__16 : Nat → Int32) (v50_24 : Int32) (t0_29 : Int32) (K32 : Int32 → (Nat → Int32) → Option ((Nat → Int32))) (t0_31 : Int32) : Option ((Nat → Int32)) :=
    if t0_31 = 0 then
    (wrI best__16 287 ((x3_2 * 41) + x4_15) v50_24 fun g122_36 =>
      nmI (x4_15 + (-1)) fun v123_41 =>
      K32 v123_41 g122_36)
    else
    (wrI best__16 287 ((x3_2 * 41) + x4_15) t0_29 fun g122_45 =>
      nmI (x4_15 + (-1)) fun v123_50 =>
      K32 v123_50 g122_45)
noncomputable def f_X1_weigh_J71 (x3_2 : Int32) (x4_15 : Int32) (best__16 : Nat → Int32) (v50_24 : Int32) (K32 : Int32 → (Nat → Int32) → Option ((Nat → Int32))) (t0_29 : Int32) : Option ((Nat → Int32)) :=
    if t0_29 = (-1) then
    ((f_X1_weigh_J97 x3_2 x4_15 best__16 v50_24 t0_29 K32) 0)
    else
    (if v50_24 = (-1) then
      ((f_X1_weigh_J97 x3_2 x4_15 best__16 v50_24 t0_29 K32) 1)
      else
      (if v50_24 ≤ t0_29 then
        ((f_X1_weigh_J97 x3_2 x4_15 best__16 v50_24 t0_29 K32) 0)
        else
        ((f_X1_weigh_J97 x3_2 x4_15 best__16 v50_24 t0_29 K32) 1)))
noncomputable def f_X1_weigh_L32 (s_tens : Nat → Int32) (p2 : Int32) (x3_2 : Int32) (K2 : Int32 → (Nat → Int32) → Option ((Nat → Int32))) : Nat → Int32 → (Nat → Int32) → Option ((Nat → Int32))
  | 0, _, _ => none
  | n32 + 1, x4_15, best__16 =>
    if x4_15 < 0 then
    (nmI (x3_2 + 1) fun v129_20 =>
      K2 v129_20 best__16)
    else
    (rdI best__16 287 (((x3_2 * 41) + x4_15) + 1) fun v50_24 =>
      if x3_2 = 0 then
      ((f_X1_weigh_J71 x3_2 x4_15 best__16 v50_24 (f_X1_weigh_L32 s_tens p2 x3_2 K2 n32)) 1)
      else
      (cb1 (f_X1_missesFrom best__16 s_tens x4_15 (x3_2 - 1) p2) fun r68_66 =>
        (f_X1_weigh_J71 x3_2 x4_15 best__16 v50_24 (f_X1_weigh_L32 s_tens p2 x3_2 K2 n32)) r68_66))
noncomputable def f_X1_weigh_J27 (s_tens : Nat → Int32) (p2 : Int32) (x3_2 : Int32) (best__3 : Nat → Int32) (K2 : Int32 → (Nat → Int32) → Option ((Nat → Int32))) (t2_8 : Int32) : Option ((Nat → Int32)) :=
    wrI best__3 287 ((x3_2 * 41) + 40) t2_8 fun g27_9 =>
    (f_X1_weigh_L32 s_tens p2 x3_2 K2 FU) 39 g27_9
noncomputable def f_X1_weigh_L2 (s_tens : Nat → Int32) (p1 : Int32) (p2 : Int32)  : Nat → Int32 → (Nat → Int32) → Option ((Nat → Int32))
  | 0, _, _ => none
  | n2 + 1, x3_2, best__3 =>
    if p1 < x3_2 then
    (some (best__3))
    else
    (if x3_2 = 0 then
      ((f_X1_weigh_J27 s_tens p2 x3_2 best__3 (f_X1_weigh_L2 s_tens p1 p2  n2)) 1)
      else
      ((f_X1_weigh_J27 s_tens p2 x3_2 best__3 (f_X1_weigh_L2 s_tens p1 p2  n2)) (-1)))
noncomputable def f_X1_weigh (s_best : Nat → Int32) (s_tens : Nat → Int32) (p1 : Int32) (p2 : Int32) : Option ((Nat → Int32)) :=
    (f_X1_weigh_L2 s_tens p1 p2  FU) 0 s_best
abbrev r_X1_weigh : Room := { frames := 2, cells := 0, slots := 0, locals := 47 }
set_option maxHeartbeats 4000000 in
set_option maxRecDepth 100000 in
theorem c_X1_weigh (l : Launch) (E : kE) (sz : Nat) (a0 a1 a2 : Nat) (w0_1 w0_3 : Value) (s_best : Nat → Int32) (s_tens : Nat → Int32) (p1 : Int32) (p2 : Int32) (o_best : Nat → Int32) (h : f_X1_weigh s_best s_tens p1 p2 = some (o_best)) : kMv l yX1_weigh cX1_weigh 8 r_X1_weigh [.ref a0, .int p1, .int p2] E [(a0, .inr (1, [.ref a2, w0_1, .ref a1, w0_3])), (a1, .inl (E.2 0, 287, .inl s_best)), (a2, .inl (E.2 0, 40, .inl s_tens))] sz 0 0 (fun (_ : Unit) => True) (fun _ => [(a0, .inr (1, [.ref a2, w0_1, .ref a1, w0_3])), (a1, .inl (E.2 0, 287, .inl o_best)), (a2, .inl (E.2 0, 40, .inl s_tens))]) := by
  refine kmetv rfl (Nat.le_of_ble_eq_true rfl) ?_
  intro p e s m args below meth c ls A Q X hnm hV hret hl
  have X : kC p s m c cX1_weigh 8 RX1 args E A := X
  have hx := X.1
  have hb := X.2.1
  have hl : lv_has ls 8 [(0, .ref a0), (1, .int p1), (2, .int p2)] := hl
  rw [f_X1_weigh] at h
  refine lv_iconst (v := 0) hx hb dX1_weigh_0 (by decide) ?_
  refine lv_istore_n (lv' := [(3, .int 0), (0, .ref a0), (1, .int p1), (2, .int p2)]) hx hb dX1_weigh_1 rfl hl (by decide) rfl (fun ls hl1 => ?_)
  clear hl
  have L2 : ∀ (n2 : Nat) (x3_2 : Int32) (best__3 : Nat → Int32) (H : Heap) (locs : List Loc) (ls : Array Slot), (f_X1_weigh_L2 s_tens p1 p2  n2) x3_2 best__3 = some (o_best) → kV E A s.heap H locs [(a0, .inr (1, [.ref a2, w0_1, .ref a1, w0_3])), (a1, .inl (E.2 0, 287, .inl best__3)), (a2, .inl (E.2 0, 40, .inl s_tens))] → lv_has ls 8 [(0, .ref a0), (1, .int p1), (2, .int p2), (3, .int x3_2)] → W p l e r_X1_weigh s m args below meth c H locs 0 0 Q (F0 m 2 ls []) := by
    intro n2
    induction n2 with
    | zero =>
      intro x3_2 best__3 H locs ls hB2 hVB2 hlB2
      rw [f_X1_weigh_L2] at hB2
      exact nomatch hB2
    | succ n2 ih2 =>
      intro x3_2 best__3 H locs ls hB2 hVB2 hlB2
      rw [f_X1_weigh_L2] at hB2
      refine lv_iload_n hx hb dX1_weigh_2 rfl (lv_at hlB2 3 rfl) ?_
      refine lv_iload_n hx hb dX1_weigh_3 rfl (lv_at hlB2 1 rfl) ?_
      refine lv_icmp_gt (tgt := 135) hx hb dX1_weigh_4 (by decide) (fun c4 => ?_) (fun c4 => ?_)
      · have h5 := itS c4 hB2
        clear hB2 c4
        have q7 := tup1_s h5
        clear h5
        exact hret () _ _ _ _ trivial (by rw [← q7]; exact hVB2) dX1_weigh_135
      · have h6 := ieS c4 hB2
        clear hB2 c4
        refine lv_aload_n hx hb dX1_weigh_7 rfl (lv_at hlB2 0 rfl) ?_
        refine kget X hVB2 (ci := 1) inlX1 rfl 0 rfl 2 (by decide) mw_134 rfl dX1_weigh_8 ?_
        refine lv_iload_n hx hb dX1_weigh_11 rfl (lv_at hlB2 3 rfl) ?_
        refine lv_bipush (v := 41) hx hb dX1_weigh_12 (by decide) ?_
        refine lv_imul hx hb dX1_weigh_14 ?_
        refine lv_bipush (v := 40) hx hb dX1_weigh_15 (by decide) ?_
        refine lv_iadd hx hb dX1_weigh_17 ?_
        refine lv_iload_n hx hb dX1_weigh_18 rfl (lv_at hlB2 3 rfl) ?_
        have J27 : ∀ (t2_8 : Int32) (H : Heap) (locs : List Loc) (ls : Array Slot), (f_X1_weigh_J27 s_tens p2 x3_2 best__3 (f_X1_weigh_L2 s_tens p1 p2  n2)) t2_8 = some (o_best) → kV E A s.heap H locs [(a0, .inr (1, [.ref a2, w0_1, .ref a1, w0_3])), (a1, .inl (E.2 0, 287, .inl best__3)), (a2, .inl (E.2 0, 40, .inl s_tens))] → lv_has ls 8 [(0, .ref a0), (1, .int p1), (2, .int p2), (3, .int x3_2)] → W p l e r_X1_weigh s m args below meth c H locs 0 0 Q (F0 m 27 ls [.int t2_8, .int ((x3_2 * 41) + 40), .ref a1]) := by
          intro t2_8 H locs ls hB27 hVB27 hlB27
          rw [f_X1_weigh_J27] at hB27
          obtain ⟨hi10, g27_9, e11, h12⟩ := wrI_s hB27
          clear hB27
          refine kiast X hVB27 1 rfl hi10 e11 dX1_weigh_27 (fun H locs hV13 => ?_)
          have hV13 : kV E A s.heap H locs [(a0, .inr (1, [.ref a2, w0_1, .ref a1, w0_3])), (a1, .inl (E.2 0, 287, .inl g27_9)), (a2, .inl (E.2 0, 40, .inl s_tens))] := hV13
          clear hVB27 hi10 e11
          refine lv_bipush (v := 39) hx hb dX1_weigh_28 (by decide) ?_
          refine lv_istore (lv' := [(4, .int 39), (0, .ref a0), (1, .int p1), (2, .int p2), (3, .int x3_2)]) hx hb dX1_weigh_30 hlB27 (by decide) rfl (fun ls hl14 => ?_)
          clear hlB27
          have L32 : ∀ (n32 : Nat) (x4_15 : Int32) (best__16 : Nat → Int32) (H : Heap) (locs : List Loc) (ls : Array Slot), (f_X1_weigh_L32 s_tens p2 x3_2 (f_X1_weigh_L2 s_tens p1 p2  n2) n32) x4_15 best__16 = some (o_best) → kV E A s.heap H locs [(a0, .inr (1, [.ref a2, w0_1, .ref a1, w0_3])), (a1, .inl (E.2 0, 287, .inl best__16)), (a2, .inl (E.2 0, 40, .inl s_tens))] → lv_has ls 8 [(0, .ref a0), (1, .int p1), (2, .int p2), (3, .int x3_2), (4, .int x4_15)] → W p l e r_X1_weigh s m args below meth c H locs 0 0 Q (F0 m 32 ls []) := by
            intro n32
            induction n32 with
            | zero =>
              intro x4_15 best__16 H locs ls hB32 hVB32 hlB32
              rw [f_X1_weigh_L32] at hB32
              exact nomatch hB32
            | succ n32 ih32 =>
              intro x4_15 best__16 H locs ls hB32 hVB32 hlB32
              rw [f_X1_weigh_L32] at hB32
              refine lv_iload hx hb dX1_weigh_32 (lv_at hlB32 4 rfl) ?_
              refine lv_if_lt (tgt := 129) hx hb dX1_weigh_34 (by decide) (fun c17 => ?_) (fun c17 => ?_)
              · have h18 := itS c17 hB32
                clear hB32 c17
                obtain ⟨v129_20, e21, h22⟩ := nmI_s h18
                clear h18
                refine lv_iinc (v := v129_20) (lv' := [(3, .int v129_20), (0, .ref a0), (1, .int p1), (2, .int p2), (4, .int x4_15)]) hx hb dX1_weigh_129 hlB32 (k := 3) rfl (by rw [e21]; rfl) (by decide) rfl (fun ls hl23 => ?_)
                clear hlB32 e21
                refine lv_goto (tgt := 2) hx hb dX1_weigh_132 (by decide) ?_
                exact ih2 v129_20 best__16 _ _ _ h22 hVB32 (lv_sub hl23 [1, 2, 3, 0] rfl)
              · have h19 := ieS c17 hB32
                clear hB32 c17
                refine lv_aload_n hx hb dX1_weigh_37 rfl (lv_at hlB32 0 rfl) ?_
                refine kget X hVB32 (ci := 1) inlX1 rfl 0 rfl 2 (by decide) mw_134 rfl dX1_weigh_38 ?_
                refine lv_iload_n hx hb dX1_weigh_41 rfl (lv_at hlB32 3 rfl) ?_
                refine lv_bipush (v := 41) hx hb dX1_weigh_42 (by decide) ?_
                refine lv_imul hx hb dX1_weigh_44 ?_
                refine lv_iload hx hb dX1_weigh_45 (lv_at hlB32 4 rfl) ?_
                refine lv_iadd hx hb dX1_weigh_47 ?_
                refine lv_iconst (v := 1) hx hb dX1_weigh_48 (by decide) ?_
                refine lv_iadd hx hb dX1_weigh_49 ?_
                obtain ⟨hi25, v50_24, e26, h27⟩ := rdI_s h19
                clear h19
                refine kiald X hVB32 1 rfl hi25 e26 dX1_weigh_50 ?_
                clear hi25 e26
                refine lv_istore (lv' := [(5, .int v50_24), (0, .ref a0), (1, .int p1), (2, .int p2), (3, .int x3_2), (4, .int x4_15)]) hx hb dX1_weigh_51 hlB32 (by decide) rfl (fun ls hl28 => ?_)
                clear hlB32
                refine lv_iload_n hx hb dX1_weigh_53 rfl (lv_at hl28 4 rfl) ?_
                have J71 : ∀ (t0_29 : Int32) (H : Heap) (locs : List Loc) (ls : Array Slot), (f_X1_weigh_J71 x3_2 x4_15 best__16 v50_24 (f_X1_weigh_L32 s_tens p2 x3_2 (f_X1_weigh_L2 s_tens p1 p2  n2) n32)) t0_29 = some (o_best) → kV E A s.heap H locs [(a0, .inr (1, [.ref a2, w0_1, .ref a1, w0_3])), (a1, .inl (E.2 0, 287, .inl best__16)), (a2, .inl (E.2 0, 40, .inl s_tens))] → lv_has ls 8 [(0, .ref a0), (1, .int p1), (2, .int p2), (3, .int x3_2), (4, .int x4_15), (5, .int v50_24)] → W p l e r_X1_weigh s m args below meth c H locs 0 0 Q (F0 m 71 ls [.int t0_29]) := by
                  intro t0_29 H locs ls hB71 hVB71 hlB71
                  rw [f_X1_weigh_J71] at hB71
                  refine lv_istore (lv' := [(6, .int t0_29), (0, .ref a0), (1, .int p1), (2, .int p2), (3, .int x3_2), (4, .int x4_15), (5, .int v50_24)]) hx hb dX1_weigh_71 hlB71 (by decide) rfl (fun ls hl30 => ?_)
                  clear hlB71
                  refine lv_iload hx hb dX1_weigh_73 (lv_at hl30 0 rfl) ?_
                  refine lv_iconst (v := (-1)) hx hb dX1_weigh_75 (by decide) ?_
                  have J97 : ∀ (t0_31 : Int32) (H : Heap) (locs : List Loc) (ls : Array Slot), (f_X1_weigh_J97 x3_2 x4_15 best__16 v50_24 t0_29 (f_X1_weigh_L32 s_tens p2 x3_2 (f_X1_weigh_L2 s_tens p1 p2  n2) n32)) t0_31 = some (o_best) → kV E A s.heap H locs [(a0, .inr (1, [.ref a2, w0_1, .ref a1, w0_3])), (a1, .inl (E.2 0, 287, .inl best__16)), (a2, .inl (E.2 0, 40, .inl s_tens))] → lv_has ls 8 [(0, .ref a0), (1, .int p1), (2, .int p2), (3, .int x3_2), (4, .int x4_15), (5, .int v50_24), (6, .int t0_29)] → W p l e r_X1_weigh s m args below meth c H locs 0 0 Q (F0 m 97 ls [.int t0_31]) := by
                    intro t0_31 H locs ls hB97 hVB97 hlB97
                    rw [f_X1_weigh_J97] at hB97
                    refine lv_istore (lv' := [(7, .int t0_31), (0, .ref a0), (1, .int p1), (2, .int p2), (3, .int x3_2), (4, .int x4_15), (5, .int v50_24), (6, .int t0_29)]) hx hb dX1_weigh_97 hlB97 (by decide) rfl (fun ls hl32 => ?_)
                    clear hlB97
                    refine lv_aload_n hx hb dX1_weigh_99 rfl (lv_at hl32 1 rfl) ?_
                    refine kget X hVB97 (ci := 1) inlX1 rfl 0 rfl 2 (by decide) mw_134 rfl dX1_weigh_100 ?_
                    refine lv_iload_n hx hb dX1_weigh_103 rfl (lv_at hl32 4 rfl) ?_
                    refine lv_bipush (v := 41) hx hb dX1_weigh_104 (by decide) ?_
                    refine lv_imul hx hb dX1_weigh_106 ?_
                    refine lv_iload hx hb dX1_weigh_107 (lv_at hl32 5 rfl) ?_
                    refine lv_iadd hx hb dX1_weigh_109 ?_
                    refine lv_iload hx hb dX1_weigh_110 (lv_at hl32 0 rfl) ?_
                    refine lv_if_eq (tgt := 120) hx hb dX1_weigh_112 (by decide) (fun c33 => ?_) (fun c33 => ?_)
                    · have h34 := itS c33 hB97
                      clear hB97 c33
                      refine lv_iload hx hb dX1_weigh_120 (lv_at hl32 6 rfl) ?_
                      obtain ⟨hi37, g122_36, e38, h39⟩ := wrI_s h34
                      clear h34
                      refine kiast X hVB97 1 rfl hi37 e38 dX1_weigh_122 (fun H locs hV40 => ?_)
                      have hV40 : kV E A s.heap H locs [(a0, .inr (1, [.ref a2, w0_1, .ref a1, w0_3])), (a1, .inl (E.2 0, 287, .inl g122_36)), (a2, .inl (E.2 0, 40, .inl s_tens))] := hV40
                      clear hVB97 hi37 e38
                      obtain ⟨v123_41, e42, h43⟩ := nmI_s h39
                      clear h39
                      refine lv_iinc (v := v123_41) (lv' := [(4, .int v123_41), (7, .int t0_31), (0, .ref a0), (1, .int p1), (2, .int p2), (3, .int x3_2), (5, .int v50_24), (6, .int t0_29)]) hx hb dX1_weigh_123 hl32 (k := 5) rfl (by rw [e42]; rfl) (by decide) rfl (fun ls hl44 => ?_)
                      clear hl32 e42
                      refine lv_goto (tgt := 32) hx hb dX1_weigh_126 (by decide) ?_
                      exact ih32 v123_41 g122_36 _ _ _ h43 hV40 (lv_sub hl44 [2, 3, 4, 5, 0] rfl)
                    · have h35 := ieS c33 hB97
                      clear hB97 c33
                      refine lv_iload hx hb dX1_weigh_115 (lv_at hl32 7 rfl) ?_
                      refine lv_goto (tgt := 122) hx hb dX1_weigh_117 (by decide) ?_
                      obtain ⟨hi46, g122_45, e47, h48⟩ := wrI_s h35
                      clear h35
                      refine kiast X hVB97 1 rfl hi46 e47 dX1_weigh_122 (fun H locs hV49 => ?_)
                      have hV49 : kV E A s.heap H locs [(a0, .inr (1, [.ref a2, w0_1, .ref a1, w0_3])), (a1, .inl (E.2 0, 287, .inl g122_45)), (a2, .inl (E.2 0, 40, .inl s_tens))] := hV49
                      clear hVB97 hi46 e47
                      obtain ⟨v123_50, e51, h52⟩ := nmI_s h48
                      clear h48
                      refine lv_iinc (v := v123_50) (lv' := [(4, .int v123_50), (7, .int t0_31), (0, .ref a0), (1, .int p1), (2, .int p2), (3, .int x3_2), (5, .int v50_24), (6, .int t0_29)]) hx hb dX1_weigh_123 hl32 (k := 5) rfl (by rw [e51]; rfl) (by decide) rfl (fun ls hl53 => ?_)
                      clear hl32 e51
                      refine lv_goto (tgt := 32) hx hb dX1_weigh_126 (by decide) ?_
                      exact ih32 v123_50 g122_45 _ _ _ h52 hV49 (lv_sub hl53 [2, 3, 4, 5, 0] rfl)
                  refine lv_icmp_eq (tgt := 96) hx hb dX1_weigh_76 (by decide) (fun c54 => ?_) (fun c54 => ?_)
                  · have h55 := itS c54 hB71
                    clear hB71 c54
                    refine lv_iconst (v := 0) hx hb dX1_weigh_96 (by decide) ?_
                    exact J97 0 _ _ _ h55 hVB71 (lv_sub hl30 [1, 2, 3, 4, 5, 6, 0] rfl)
                  · have h56 := ieS c54 hB71
                    clear hB71 c54
                    refine lv_iload hx hb dX1_weigh_79 (lv_at hl30 6 rfl) ?_
                    refine lv_iconst (v := (-1)) hx hb dX1_weigh_81 (by decide) ?_
                    refine lv_icmp_eq (tgt := 92) hx hb dX1_weigh_82 (by decide) (fun c57 => ?_) (fun c57 => ?_)
                    · have h58 := itS c57 h56
                      clear h56 c57
                      refine lv_iconst (v := 1) hx hb dX1_weigh_92 (by decide) ?_
                      refine lv_goto (tgt := 97) hx hb dX1_weigh_93 (by decide) ?_
                      exact J97 1 _ _ _ h58 hVB71 (lv_sub hl30 [1, 2, 3, 4, 5, 6, 0] rfl)
                    · have h59 := ieS c57 h56
                      clear h56 c57
                      refine lv_iload hx hb dX1_weigh_85 (lv_at hl30 0 rfl) ?_
                      refine lv_iload hx hb dX1_weigh_87 (lv_at hl30 6 rfl) ?_
                      refine lv_icmp_ge (tgt := 96) hx hb dX1_weigh_89 (by decide) (fun c60 => ?_) (fun c60 => ?_)
                      · have h61 := itS c60 h59
                        clear h59 c60
                        refine lv_iconst (v := 0) hx hb dX1_weigh_96 (by decide) ?_
                        exact J97 0 _ _ _ h61 hVB71 (lv_sub hl30 [1, 2, 3, 4, 5, 6, 0] rfl)
                      · have h62 := ieS c60 h59
                        clear h59 c60
                        refine lv_iconst (v := 1) hx hb dX1_weigh_92 (by decide) ?_
                        refine lv_goto (tgt := 97) hx hb dX1_weigh_93 (by decide) ?_
                        exact J97 1 _ _ _ h62 hVB71 (lv_sub hl30 [1, 2, 3, 4, 5, 6, 0] rfl)
                refine lv_if_ne (tgt := 61) hx hb dX1_weigh_54 (by decide) (fun c63 => ?_) (fun c63 => ?_)
                · have h64 := ieS c63 h27
                  clear h27 c63
                  refine lv_aload_n hx hb dX1_weigh_61 rfl (lv_at hl28 1 rfl) ?_
                  refine lv_iload hx hb dX1_weigh_62 (lv_at hl28 5 rfl) ?_
                  refine lv_iload_n hx hb dX1_weigh_64 rfl (lv_at hl28 4 rfl) ?_
                  refine lv_iconst (v := 1) hx hb dX1_weigh_65 (by decide) ?_
                  refine lv_isub hx hb dX1_weigh_66 ?_
                  refine lv_iload_n hx hb dX1_weigh_67 rfl (lv_at hl28 3 rfl) ?_
                  obtain ⟨r68_66, hc67, h68⟩ := cb1_s h64
                  clear h64
                  refine kgoiE (krunV (rest := []) X hVB32 [0, 1, 2] (c_X1_missesFrom l E _ a0 a1 a2 (w0_1) (w0_3) best__16 s_tens x4_15 (x3_2 - 1) p2 r68_66 hc67) mw_1238 kb_X1_missesFrom (ci := 1) rfl rfl (by decide) rfl rfl hl28.1 rfl (Nat.le_of_ble_eq_true rfl) dX1_weigh_68 (by decide)) X hVB32 [0, 1, 2] [] rfl rfl rfl (by decide) (fun u H locs hV69 => ?_)
                  have hV69 : kV E A s.heap H locs [(a0, .inr (1, [.ref a2, w0_1, .ref a1, w0_3])), (a1, .inl (E.2 0, 287, .inl best__16)), (a2, .inl (E.2 0, 40, .inl s_tens))] := hV69.sub [0, 1, 2] rfl rfl
                  clear hVB32
                  exact J71 r68_66 _ _ _ h68 hV69 (lv_sub hl28 [1, 2, 3, 4, 5, 0] rfl)
                · have h65 := itS c63 h27
                  clear h27 c63
                  refine lv_iconst (v := 1) hx hb dX1_weigh_57 (by decide) ?_
                  refine lv_goto (tgt := 71) hx hb dX1_weigh_58 (by decide) ?_
                  exact J71 1 _ _ _ h65 hVB32 (lv_sub hl28 [1, 2, 3, 4, 5, 0] rfl)
          exact L32 FU 39 g27_9 _ _ _ h12 hV13 (lv_sub hl14 [1, 2, 3, 4, 0] rfl)
        refine lv_if_ne (tgt := 26) hx hb dX1_weigh_19 (by decide) (fun c71 => ?_) (fun c71 => ?_)
        · have h72 := ieS c71 h6
          clear h6 c71
          refine lv_iconst (v := (-1)) hx hb dX1_weigh_26 (by decide) ?_
          exact J27 (-1) _ _ _ h72 hVB2 (lv_sub hlB2 [0, 1, 2, 3] rfl)
        · have h73 := itS c71 h6
          clear h6 c71
          refine lv_iconst (v := 1) hx hb dX1_weigh_22 (by decide) ?_
          refine lv_goto (tgt := 27) hx hb dX1_weigh_23 (by decide) ?_
          exact J27 1 _ _ _ h73 hVB2 (lv_sub hlB2 [0, 1, 2, 3] rfl)
  exact L2 FU 0 s_best _ _ _ h hV (lv_sub hl1 [1, 2, 3, 0] rfl)
noncomputable def f_X1_goesOn (s_unseen : Int32) (s_best : Nat → Int32) (s_tens : Nat → Int32) (p1 : Int32) (p2 : Int32) (p3 : Int32) (p4 : Int32) : Option (Int32) :=
    cb1 (f_X1_missesFrom s_best s_tens p2 p3 p4) fun r5_1 =>
    if r5_1 = (-1) then
    (some (0))
    else
    (if (p1 * r5_1) = s_unseen then
      (some (1))
      else
      (some (0)))
abbrev r_X1_goesOn : Room := { frames := 2, cells := 0, slots := 0, locals := 47 }
set_option maxHeartbeats 4000000 in
set_option maxRecDepth 100000 in
theorem c_X1_goesOn (l : Launch) (E : kE) (sz : Nat) (a0 a1 a2 : Nat) (w0_1 : Value) (s_unseen : Int32) (s_best : Nat → Int32) (s_tens : Nat → Int32) (p1 : Int32) (p2 : Int32) (p3 : Int32) (p4 : Int32) (r : Int32) (h : f_X1_goesOn s_unseen s_best s_tens p1 p2 p3 p4 = some (r)) : kMi l yX1_goesOn cX1_goesOn 6 (some .boolean) r_X1_goesOn [.ref a0, .int p1, .int p2, .int p3, .int p4] E [(a0, .inr (1, [.ref a2, w0_1, .ref a1, .int s_unseen])), (a1, .inl (E.2 0, 287, .inl s_best)), (a2, .inl (E.2 0, 40, .inl s_tens))] sz 0 0 (fun x (_ : Unit) => x = r) (fun _ => [(a0, .inr (1, [.ref a2, w0_1, .ref a1, .int s_unseen])), (a1, .inl (E.2 0, 287, .inl s_best)), (a2, .inl (E.2 0, 40, .inl s_tens))]) := by
  refine kmeti rfl (Nat.le_of_ble_eq_true rfl) ?_
  intro p e s m args below meth c ls A Q X hV hret hl
  have X : kC p s m c cX1_goesOn 6 RX1 args E A := X
  have hx := X.1
  have hb := X.2.1
  have hl : lv_has ls 6 [(0, .ref a0), (1, .int p1), (2, .int p2), (3, .int p3), (4, .int p4)] := hl
  rw [f_X1_goesOn] at h
  refine lv_aload_n hx hb dX1_goesOn_0 rfl (lv_at hl 0 rfl) ?_
  refine lv_iload_n hx hb dX1_goesOn_1 rfl (lv_at hl 2 rfl) ?_
  refine lv_iload_n hx hb dX1_goesOn_2 rfl (lv_at hl 3 rfl) ?_
  refine lv_iload hx hb dX1_goesOn_3 (lv_at hl 4 rfl) ?_
  obtain ⟨r5_1, hc2, h3⟩ := cb1_s h
  clear h
  refine kgoiE (krunV (rest := []) X hV [0, 1, 2] (c_X1_missesFrom l E _ a0 a1 a2 (w0_1) (.int s_unseen) s_best s_tens p2 p3 p4 r5_1 hc2) mw_1238 kb_X1_missesFrom (ci := 1) rfl rfl (by decide) rfl rfl hl.1 rfl (Nat.le_of_ble_eq_true rfl) dX1_goesOn_5 (by decide)) X hV [0, 1, 2] [] rfl rfl rfl (by decide) (fun u H locs hV4 => ?_)
  have hV4 : kV E A s.heap H locs [(a0, .inr (1, [.ref a2, w0_1, .ref a1, .int s_unseen])), (a1, .inl (E.2 0, 287, .inl s_best)), (a2, .inl (E.2 0, 40, .inl s_tens))] := hV4.sub [0, 1, 2] rfl rfl
  clear hV
  refine lv_istore (lv' := [(5, .int r5_1), (0, .ref a0), (1, .int p1), (2, .int p2), (3, .int p3), (4, .int p4)]) hx hb dX1_goesOn_8 hl (by decide) rfl (fun ls hl6 => ?_)
  clear hl
  refine lv_iload hx hb dX1_goesOn_10 (lv_at hl6 0 rfl) ?_
  refine lv_iconst (v := (-1)) hx hb dX1_goesOn_12 (by decide) ?_
  refine lv_icmp_eq (tgt := 31) hx hb dX1_goesOn_13 (by decide) (fun c7 => ?_) (fun c7 => ?_)
  · have h8 := itS c7 h3
    clear h3 c7
    refine lv_iconst (v := 0) hx hb dX1_goesOn_31 (by decide) ?_
    have q10 := tup1_s h8
    clear h8
    exact hret _ () _ _ _ _ q10 rfl hV4 dX1_goesOn_32
  · have h9 := ieS c7 h3
    clear h3 c7
    refine lv_iload_n hx hb dX1_goesOn_16 rfl (lv_at hl6 2 rfl) ?_
    refine lv_iload hx hb dX1_goesOn_17 (lv_at hl6 0 rfl) ?_
    refine lv_imul hx hb dX1_goesOn_19 ?_
    refine lv_aload_n hx hb dX1_goesOn_20 rfl (lv_at hl6 1 rfl) ?_
    refine kget X hV4 (ci := 1) inlX1 rfl 0 rfl 3 (by decide) mw_135 rfl dX1_goesOn_21 ?_
    refine lv_icmp_ne (tgt := 31) hx hb dX1_goesOn_24 (by decide) (fun c11 => ?_) (fun c11 => ?_)
    · have h12 := ieS c11 h9
      clear h9 c11
      refine lv_iconst (v := 0) hx hb dX1_goesOn_31 (by decide) ?_
      have q14 := tup1_s h12
      clear h12
      exact hret _ () _ _ _ _ q14 rfl hV4 dX1_goesOn_32
    · have h13 := itS c11 h9
      clear h9 c11
      refine lv_iconst (v := 1) hx hb dX1_goesOn_27 (by decide) ?_
      refine lv_goto (tgt := 32) hx hb dX1_goesOn_28 (by decide) ?_
      have q15 := tup1_s h13
      clear h13
      exact hret _ () _ _ _ _ q15 rfl hV4 dX1_goesOn_32
noncomputable def f_X1_choose_J67 (s_tens : Nat → Int32) (p2 : Int32) (x3_14 : Int32) (x5_16 : Int32) (chosen__17 : Nat → Int32) (K27 : Int32 → Int32 → Int32 → (Nat → Int32) → Option (Int32 × (Nat → Int32) × (Nat → Int32))) (x4_28 : Int32) : Option (Int32 × (Nat → Int32) × (Nat → Int32)) :=
    wrI chosen__17 6 x5_16 x4_28 fun g75_29 =>
    rdI s_tens 40 x4_28 fun v85_34 =>
    nmI (x3_14 * (10 - v85_34)) fun v88_38 =>
    nmI (jmin 39 (x4_28 + p2)) fun v98_42 =>
    nmI (x5_16 + 1) fun v100_46 =>
    K27 v88_38 v98_42 v100_46 g75_29
noncomputable def f_X1_choose_L41 (s_tens : Nat → Int32) (p2 : Int32) (o_best3_1 : Nat → Int32) (v15_6 : Int32) (x3_14 : Int32) (v39_24 : Int32) (K67 : Int32 → Option (Int32 × (Nat → Int32) × (Nat → Int32))) : Nat → Int32 → Option (Int32 × (Nat → Int32) × (Nat → Int32))
  | 0, _ => none
  | n41 + 1, x4_50 =>
    if 39 ≤ x4_50 then
    (K67 x4_50)
    else
    (cb1 (f_X1_goesOn v15_6 o_best3_1 s_tens x3_14 x4_50 v39_24 p2) fun r55_54 =>
      if r55_54 = 0 then
      (nmI (x4_50 + 1) fun v61_62 =>
        (f_X1_choose_L41 s_tens p2 o_best3_1 v15_6 x3_14 v39_24 K67 n41) v61_62)
      else
      (K67 x4_50))
noncomputable def f_X1_choose_L27 (s_tens : Nat → Int32) (p1 : Int32) (p2 : Int32) (o_best3_1 : Nat → Int32) (v15_6 : Int32)  : Nat → Int32 → Int32 → Int32 → (Nat → Int32) → Option (Int32 × (Nat → Int32) × (Nat → Int32))
  | 0, _, _, _, _ => none
  | n27 + 1, x3_14, x4_15, x5_16, chosen__17 =>
    if p1 ≤ x5_16 then
    (some (v15_6, o_best3_1, chosen__17))
    else
    (nmI ((p1 - x5_16) - 1) fun v39_24 =>
      (f_X1_choose_L41 s_tens p2 o_best3_1 v15_6 x3_14 v39_24 (f_X1_choose_J67 s_tens p2 x3_14 x5_16 chosen__17 (f_X1_choose_L27 s_tens p1 p2 o_best3_1 v15_6  n27)) FU) x4_15)
noncomputable def f_X1_choose (s_unseen : Int32) (s_best : Nat → Int32) (s_chosen : Nat → Int32) (s_tens : Nat → Int32) (p1 : Int32) (p2 : Int32) : Option (Int32 × (Nat → Int32) × (Nat → Int32)) :=
    cb1 (f_X1_weigh s_best s_tens p1 p2) fun o_best3_1 =>
    rdI o_best3_1 287 (p1 * 41) fun v15_6 =>
    (f_X1_choose_L27 s_tens p1 p2 o_best3_1 v15_6  FU) 1 0 0 s_chosen
abbrev r_X1_choose : Room := { frames := 3, cells := 0, slots := 0, locals := 74 }
set_option maxHeartbeats 4000000 in
set_option maxRecDepth 100000 in
theorem c_X1_choose (l : Launch) (E : kE) (sz : Nat) (a0 a1 a2 a3 : Nat) (s_unseen : Int32) (s_best : Nat → Int32) (s_chosen : Nat → Int32) (s_tens : Nat → Int32) (p1 : Int32) (p2 : Int32) (o_unseen : Int32) (o_best : Nat → Int32) (o_chosen : Nat → Int32) (h : f_X1_choose s_unseen s_best s_chosen s_tens p1 p2 = some (o_unseen, o_best, o_chosen)) : kMv l yX1_choose cX1_choose 7 r_X1_choose [.ref a0, .int p1, .int p2] E [(a0, .inr (1, [.ref a3, .ref a2, .ref a1, .int s_unseen])), (a1, .inl (E.2 0, 287, .inl s_best)), (a2, .inl (E.2 0, 6, .inl s_chosen)), (a3, .inl (E.2 0, 40, .inl s_tens))] sz 0 0 (fun (_ : Unit) => True) (fun _ => [(a0, .inr (1, [.ref a3, .ref a2, .ref a1, .int o_unseen])), (a1, .inl (E.2 0, 287, .inl o_best)), (a2, .inl (E.2 0, 6, .inl o_chosen)), (a3, .inl (E.2 0, 40, .inl s_tens))]) := by
  refine kmetv rfl (Nat.le_of_ble_eq_true rfl) ?_
  intro p e s m args below meth c ls A Q X hnm hV hret hl
  have X : kC p s m c cX1_choose 7 RX1 args E A := X
  have hx := X.1
  have hb := X.2.1
  have hl : lv_has ls 7 [(0, .ref a0), (1, .int p1), (2, .int p2)] := hl
  rw [f_X1_choose] at h
  refine lv_aload_n hx hb dX1_choose_0 rfl (lv_at hl 0 rfl) ?_
  refine lv_iload_n hx hb dX1_choose_1 rfl (lv_at hl 1 rfl) ?_
  refine lv_iload_n hx hb dX1_choose_2 rfl (lv_at hl 2 rfl) ?_
  obtain ⟨o_best3_1, hc2, h3⟩ := cb1_s h
  clear h
  refine kgov (krunV (rest := []) X hV [0, 1, 3] (c_X1_weigh l E _ a0 a1 a3 (.ref a2) (.int s_unseen) s_best s_tens p1 p2 o_best3_1 hc2) mw_1234 kb_X1_weigh (ci := 1) rfl rfl (by decide) rfl rfl hl.1 rfl (Nat.le_of_ble_eq_true rfl) dX1_choose_3 (by decide)) X hV [0, 1, 3] [2] rfl rfl rfl (by decide) (fun u H locs hp5 hV4 => ?_)
  have hV4 : kV E A s.heap H locs [(a0, .inr (1, [.ref a3, .ref a2, .ref a1, .int s_unseen])), (a1, .inl (E.2 0, 287, .inl o_best3_1)), (a2, .inl (E.2 0, 6, .inl s_chosen)), (a3, .inl (E.2 0, 40, .inl s_tens))] := hV4.sub [1, 2, 0, 3] rfl rfl
  clear hV
  refine lv_aload_n hx hb dX1_choose_6 rfl (lv_at hl 0 rfl) ?_
  refine lv_aload_n hx hb dX1_choose_7 rfl (lv_at hl 0 rfl) ?_
  refine kget X hV4 (ci := 1) inlX1 rfl 0 rfl 2 (by decide) mw_134 rfl dX1_choose_8 ?_
  refine lv_iload_n hx hb dX1_choose_11 rfl (lv_at hl 1 rfl) ?_
  refine lv_bipush (v := 41) hx hb dX1_choose_12 (by decide) ?_
  refine lv_imul hx hb dX1_choose_14 ?_
  obtain ⟨hi7, v15_6, e8, h9⟩ := rdI_s h3
  clear h3
  refine kiald X hV4 1 rfl hi7 e8 dX1_choose_15 ?_
  clear hi7 e8
  refine kput X hV4 (ci := 1) inlX1 rfl tyX1 tyX1_ok nmX1 0 rfl 3 (by decide) mw_135 rfl rfl rfl (Nat.le_of_ble_eq_true rfl) dX1_choose_16 (fun H locs hV10 => ?_)
  have hV10 : kV E A s.heap H locs [(a0, .inr (1, [.ref a3, .ref a2, .ref a1, .int v15_6])), (a1, .inl (E.2 0, 287, .inl o_best3_1)), (a2, .inl (E.2 0, 6, .inl s_chosen)), (a3, .inl (E.2 0, 40, .inl s_tens))] := hV10
  clear hV4
  refine lv_iconst (v := 1) hx hb dX1_choose_19 (by decide) ?_
  refine lv_istore_n (lv' := [(3, .int 1), (0, .ref a0), (1, .int p1), (2, .int p2)]) hx hb dX1_choose_20 rfl hl (by decide) rfl (fun ls hl11 => ?_)
  clear hl
  refine lv_iconst (v := 0) hx hb dX1_choose_21 (by decide) ?_
  refine lv_istore (lv' := [(4, .int 0), (3, .int 1), (0, .ref a0), (1, .int p1), (2, .int p2)]) hx hb dX1_choose_22 hl11 (by decide) rfl (fun ls hl12 => ?_)
  clear hl11
  refine lv_iconst (v := 0) hx hb dX1_choose_24 (by decide) ?_
  refine lv_istore (lv' := [(5, .int 0), (4, .int 0), (3, .int 1), (0, .ref a0), (1, .int p1), (2, .int p2)]) hx hb dX1_choose_25 hl12 (by decide) rfl (fun ls hl13 => ?_)
  clear hl12
  have L27 : ∀ (n27 : Nat) (x3_14 : Int32) (x4_15 : Int32) (x5_16 : Int32) (chosen__17 : Nat → Int32) (H : Heap) (locs : List Loc) (ls : Array Slot), (f_X1_choose_L27 s_tens p1 p2 o_best3_1 v15_6  n27) x3_14 x4_15 x5_16 chosen__17 = some (o_unseen, o_best, o_chosen) → kV E A s.heap H locs [(a0, .inr (1, [.ref a3, .ref a2, .ref a1, .int v15_6])), (a1, .inl (E.2 0, 287, .inl o_best3_1)), (a2, .inl (E.2 0, 6, .inl chosen__17)), (a3, .inl (E.2 0, 40, .inl s_tens))] → lv_has ls 7 [(0, .ref a0), (1, .int p1), (2, .int p2), (3, .int x3_14), (4, .int x4_15), (5, .int x5_16)] → W p l e r_X1_choose s m args below meth c H locs 0 0 Q (F0 m 27 ls []) := by
    intro n27
    induction n27 with
    | zero =>
      intro x3_14 x4_15 x5_16 chosen__17 H locs ls hB27 hVB27 hlB27
      rw [f_X1_choose_L27] at hB27
      exact nomatch hB27
    | succ n27 ih27 =>
      intro x3_14 x4_15 x5_16 chosen__17 H locs ls hB27 hVB27 hlB27
      rw [f_X1_choose_L27] at hB27
      refine lv_iload hx hb dX1_choose_27 (lv_at hlB27 5 rfl) ?_
      refine lv_iload_n hx hb dX1_choose_29 rfl (lv_at hlB27 1 rfl) ?_
      refine lv_icmp_ge (tgt := 106) hx hb dX1_choose_30 (by decide) (fun c18 => ?_) (fun c18 => ?_)
      · have h19 := itS c18 hB27
        clear hB27 c18
        obtain ⟨q21, q22, q23⟩ := tup3_s h19
        clear h19
        exact hret () _ _ _ _ trivial (by rw [← q21, ← q22, ← q23]; exact hVB27) dX1_choose_106
      · have h20 := ieS c18 hB27
        clear hB27 c18
        refine lv_iload_n hx hb dX1_choose_33 rfl (lv_at hlB27 1 rfl) ?_
        refine lv_iload hx hb dX1_choose_34 (lv_at hlB27 5 rfl) ?_
        refine lv_isub hx hb dX1_choose_36 ?_
        refine lv_iconst (v := 1) hx hb dX1_choose_37 (by decide) ?_
        refine lv_isub hx hb dX1_choose_38 ?_
        obtain ⟨v39_24, e25, h26⟩ := nmI_s h20
        clear h20
        refine ktopi e25 ?_
        clear e25
        refine lv_istore (lv' := [(6, .int v39_24), (0, .ref a0), (1, .int p1), (2, .int p2), (3, .int x3_14), (4, .int x4_15), (5, .int x5_16)]) hx hb dX1_choose_39 hlB27 (by decide) rfl (fun ls hl27 => ?_)
        clear hlB27
        have J67 : ∀ (x4_28 : Int32) (H : Heap) (locs : List Loc) (ls : Array Slot), (f_X1_choose_J67 s_tens p2 x3_14 x5_16 chosen__17 (f_X1_choose_L27 s_tens p1 p2 o_best3_1 v15_6  n27)) x4_28 = some (o_unseen, o_best, o_chosen) → kV E A s.heap H locs [(a0, .inr (1, [.ref a3, .ref a2, .ref a1, .int v15_6])), (a1, .inl (E.2 0, 287, .inl o_best3_1)), (a2, .inl (E.2 0, 6, .inl chosen__17)), (a3, .inl (E.2 0, 40, .inl s_tens))] → lv_has ls 7 [(0, .ref a0), (1, .int p1), (2, .int p2), (3, .int x3_14), (4, .int x4_28), (5, .int x5_16)] → W p l e r_X1_choose s m args below meth c H locs 0 0 Q (F0 m 67 ls []) := by
          intro x4_28 H locs ls hB67 hVB67 hlB67
          rw [f_X1_choose_J67] at hB67
          refine lv_aload_n hx hb dX1_choose_67 rfl (lv_at hlB67 0 rfl) ?_
          refine kget X hVB67 (ci := 1) inlX1 rfl 0 rfl 1 (by decide) mw_133 rfl dX1_choose_68 ?_
          refine lv_iload hx hb dX1_choose_71 (lv_at hlB67 5 rfl) ?_
          refine lv_iload hx hb dX1_choose_73 (lv_at hlB67 4 rfl) ?_
          obtain ⟨hi30, g75_29, e31, h32⟩ := wrI_s hB67
          clear hB67
          refine kiast X hVB67 2 rfl hi30 e31 dX1_choose_75 (fun H locs hV33 => ?_)
          have hV33 : kV E A s.heap H locs [(a0, .inr (1, [.ref a3, .ref a2, .ref a1, .int v15_6])), (a1, .inl (E.2 0, 287, .inl o_best3_1)), (a2, .inl (E.2 0, 6, .inl g75_29)), (a3, .inl (E.2 0, 40, .inl s_tens))] := hV33
          clear hVB67 hi30 e31
          refine lv_iload_n hx hb dX1_choose_76 rfl (lv_at hlB67 3 rfl) ?_
          refine lv_bipush (v := 10) hx hb dX1_choose_77 (by decide) ?_
          refine lv_aload_n hx hb dX1_choose_79 rfl (lv_at hlB67 0 rfl) ?_
          refine kget X hV33 (ci := 1) inlX1 rfl 0 rfl 0 (by decide) mw_132 rfl dX1_choose_80 ?_
          refine lv_iload hx hb dX1_choose_83 (lv_at hlB67 4 rfl) ?_
          obtain ⟨hi35, v85_34, e36, h37⟩ := rdI_s h32
          clear h32
          refine kiald X hV33 3 rfl hi35 e36 dX1_choose_85 ?_
          clear hi35 e36
          refine lv_isub hx hb dX1_choose_86 ?_
          refine lv_imul hx hb dX1_choose_87 ?_
          obtain ⟨v88_38, e39, h40⟩ := nmI_s h37
          clear h37
          refine ktopi e39 ?_
          clear e39
          refine lv_istore_n (lv' := [(3, .int v88_38), (0, .ref a0), (1, .int p1), (2, .int p2), (4, .int x4_28), (5, .int x5_16)]) hx hb dX1_choose_88 rfl hlB67 (by decide) rfl (fun ls hl41 => ?_)
          clear hlB67
          refine lv_bipush (v := 39) hx hb dX1_choose_89 (by decide) ?_
          refine lv_iload hx hb dX1_choose_91 (lv_at hl41 4 rfl) ?_
          refine lv_iload_n hx hb dX1_choose_93 rfl (lv_at hl41 3 rfl) ?_
          refine lv_iadd hx hb dX1_choose_94 ?_
          refine va_mmin hx hb (X.2.2.1.trans hl41.1.symm) X.2.2.2.1 (X.2.2.2.2.1 _ mw_1233) (X.2.2.2.2.1 _ mw_280) (X.2.2.2.2.1 _ mw_281) (X.2.2.2.2.1 _ mw_282) (by decide) (Nat.le_of_ble_eq_true rfl) (by decide) (by decide) dX1_choose_95 ?_
          obtain ⟨v98_42, e43, h44⟩ := nmI_s h40
          clear h40
          refine ktopi e43 ?_
          clear e43
          refine lv_istore (lv' := [(4, .int v98_42), (3, .int v88_38), (0, .ref a0), (1, .int p1), (2, .int p2), (5, .int x5_16)]) hx hb dX1_choose_98 hl41 (by decide) rfl (fun ls hl45 => ?_)
          clear hl41
          obtain ⟨v100_46, e47, h48⟩ := nmI_s h44
          clear h44
          refine lv_iinc (v := v100_46) (lv' := [(5, .int v100_46), (4, .int v98_42), (3, .int v88_38), (0, .ref a0), (1, .int p1), (2, .int p2)]) hx hb dX1_choose_100 hl45 (k := 5) rfl (by rw [e47]; rfl) (by decide) rfl (fun ls hl49 => ?_)
          clear hl45 e47
          refine lv_goto (tgt := 27) hx hb dX1_choose_103 (by decide) ?_
          exact ih27 v88_38 v98_42 v100_46 g75_29 _ _ _ h48 hV33 (lv_sub hl49 [3, 4, 5, 2, 1, 0] rfl)
        have L41 : ∀ (n41 : Nat) (x4_50 : Int32) (H : Heap) (locs : List Loc) (ls : Array Slot), (f_X1_choose_L41 s_tens p2 o_best3_1 v15_6 x3_14 v39_24 (f_X1_choose_J67 s_tens p2 x3_14 x5_16 chosen__17 (f_X1_choose_L27 s_tens p1 p2 o_best3_1 v15_6  n27)) n41) x4_50 = some (o_unseen, o_best, o_chosen) → kV E A s.heap H locs [(a0, .inr (1, [.ref a3, .ref a2, .ref a1, .int v15_6])), (a1, .inl (E.2 0, 287, .inl o_best3_1)), (a2, .inl (E.2 0, 6, .inl chosen__17)), (a3, .inl (E.2 0, 40, .inl s_tens))] → lv_has ls 7 [(0, .ref a0), (1, .int p1), (2, .int p2), (3, .int x3_14), (4, .int x4_50), (5, .int x5_16), (6, .int v39_24)] → W p l e r_X1_choose s m args below meth c H locs 0 0 Q (F0 m 41 ls []) := by
          intro n41
          induction n41 with
          | zero =>
            intro x4_50 H locs ls hB41 hVB41 hlB41
            rw [f_X1_choose_L41] at hB41
            exact nomatch hB41
          | succ n41 ih41 =>
            intro x4_50 H locs ls hB41 hVB41 hlB41
            rw [f_X1_choose_L41] at hB41
            refine lv_iload hx hb dX1_choose_41 (lv_at hlB41 4 rfl) ?_
            refine lv_bipush (v := 39) hx hb dX1_choose_43 (by decide) ?_
            refine lv_icmp_ge (tgt := 67) hx hb dX1_choose_45 (by decide) (fun c51 => ?_) (fun c51 => ?_)
            · have h52 := itS c51 hB41
              clear hB41 c51
              exact J67 x4_50 _ _ _ h52 hVB41 (lv_sub hlB41 [0, 1, 2, 3, 4, 5] rfl)
            · have h53 := ieS c51 hB41
              clear hB41 c51
              refine lv_aload_n hx hb dX1_choose_48 rfl (lv_at hlB41 0 rfl) ?_
              refine lv_iload_n hx hb dX1_choose_49 rfl (lv_at hlB41 3 rfl) ?_
              refine lv_iload hx hb dX1_choose_50 (lv_at hlB41 4 rfl) ?_
              refine lv_iload hx hb dX1_choose_52 (lv_at hlB41 6 rfl) ?_
              refine lv_iload_n hx hb dX1_choose_54 rfl (lv_at hlB41 2 rfl) ?_
              obtain ⟨r55_54, hc55, h56⟩ := cb1_s h53
              clear h53
              refine kgoiE (krunV (rest := []) X hVB41 [0, 1, 3] (c_X1_goesOn l E _ a0 a1 a3 (.ref a2) v15_6 o_best3_1 s_tens x3_14 x4_50 v39_24 p2 r55_54 hc55) mw_1242 kb_X1_goesOn (ci := 1) rfl rfl (by decide) rfl rfl hlB41.1 rfl (Nat.le_of_ble_eq_true rfl) dX1_choose_55 (by decide)) X hVB41 [0, 1, 3] [2] rfl rfl rfl (by decide) (fun u H locs hV57 => ?_)
              have hV57 : kV E A s.heap H locs [(a0, .inr (1, [.ref a3, .ref a2, .ref a1, .int v15_6])), (a1, .inl (E.2 0, 287, .inl o_best3_1)), (a2, .inl (E.2 0, 6, .inl chosen__17)), (a3, .inl (E.2 0, 40, .inl s_tens))] := hV57.sub [1, 2, 0, 3] rfl rfl
              clear hVB41
              refine lv_if_ne (tgt := 67) hx hb dX1_choose_58 (by decide) (fun c59 => ?_) (fun c59 => ?_)
              · have h60 := ieS c59 h56
                clear h56 c59
                exact J67 x4_50 _ _ _ h60 hV57 (lv_sub hlB41 [0, 1, 2, 3, 4, 5] rfl)
              · have h61 := itS c59 h56
                clear h56 c59
                obtain ⟨v61_62, e63, h64⟩ := nmI_s h61
                clear h61
                refine lv_iinc (v := v61_62) (lv' := [(4, .int v61_62), (0, .ref a0), (1, .int p1), (2, .int p2), (3, .int x3_14), (5, .int x5_16), (6, .int v39_24)]) hx hb dX1_choose_61 hlB41 (k := 4) rfl (by rw [e63]; rfl) (by decide) rfl (fun ls hl65 => ?_)
                clear hlB41 e63
                refine lv_goto (tgt := 41) hx hb dX1_choose_64 (by decide) ?_
                exact ih41 v61_62 _ _ _ h64 hV57 (lv_sub hl65 [1, 2, 3, 4, 0, 5, 6] rfl)
        exact L41 FU x4_15 _ _ _ h26 hVB27 (lv_sub hl27 [1, 2, 3, 4, 5, 6, 0] rfl)
  exact L27 FU 1 0 0 s_chosen _ _ _ h9 hV10 (lv_sub hl13 [3, 4, 5, 2, 1, 0] rfl)
