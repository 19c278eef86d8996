noncomputable def f_X11_isWithin (p1 : Int32) (p2 : Int32) (p3 : Int32) : Option (Int32) :=
    if p1 < p2 then
    (some (0))
    else
    (if p3 < p1 then
      (some (0))
      else
      (some (1)))
abbrev r_X11_isWithin : Room := { frames := 0, cells := 0, slots := 0, locals := 0 }
set_option maxHeartbeats 4000000 in
set_option maxRecDepth 100000 in
theorem c_X11_isWithin (l : Launch) (E : kE) (sz : Nat) (p1 : Int32) (p2 : Int32) (p3 : Int32) (r : Int32) (h : f_X11_isWithin p1 p2 p3 = some (r)) : kMi l yX11_isWithin cX11_isWithin 3 (some .boolean) r_X11_isWithin [.int p1, .int p2, .int p3] E [] sz 0 0 (fun x (_ : Unit) => x = r) (fun _ => []) := by
  refine kmeti rfl (Nat.le_of_ble_eq_true rfl) ?_
  intro p e s m args below meth c ls A Q X hV hret hl
  have X : kC p s m c cX11_isWithin 3 RX11 args E A := X
  have hx := X.1
  have hb := X.2.1
  have hl : lv_has ls 3 [(0, .int p1), (1, .int p2), (2, .int p3)] := hl
  rw [f_X11_isWithin] at h
  refine lv_iload_n hx hb dX11_isWithin_0 rfl (lv_at hl 0 rfl) ?_
  refine lv_iload_n hx hb dX11_isWithin_1 rfl (lv_at hl 1 rfl) ?_
  refine lv_icmp_lt (tgt := 14) hx hb dX11_isWithin_2 (by decide) (fun c1 => ?_) (fun c1 => ?_)
  · have h2 := itS c1 h
    clear h c1
    refine lv_iconst (v := 0) hx hb dX11_isWithin_14 (by decide) ?_
    have q4 := tup1_s h2
    clear h2
    exact hret _ () _ _ _ _ q4 rfl hV dX11_isWithin_15
  · have h3 := ieS c1 h
    clear h c1
    refine lv_iload_n hx hb dX11_isWithin_5 rfl (lv_at hl 0 rfl) ?_
    refine lv_iload_n hx hb dX11_isWithin_6 rfl (lv_at hl 2 rfl) ?_
    refine lv_icmp_gt (tgt := 14) hx hb dX11_isWithin_7 (by decide) (fun c5 => ?_) (fun c5 => ?_)
    · have h6 := itS c5 h3
      clear h3 c5
      refine lv_iconst (v := 0) hx hb dX11_isWithin_14 (by decide) ?_
      have q8 := tup1_s h6
      clear h6
      exact hret _ () _ _ _ _ q8 rfl hV dX11_isWithin_15
    · have h7 := ieS c5 h3
      clear h3 c5
      refine lv_iconst (v := 1) hx hb dX11_isWithin_10 (by decide) ?_
      refine lv_goto (tgt := 15) hx hb dX11_isWithin_11 (by decide) ?_
      have q9 := tup1_s h7
      clear h7
      exact hret _ () _ _ _ _ q9 rfl hV dX11_isWithin_15
noncomputable def f_X9_put_L3 (p1 : Int32)  : Nat → Int32 → Int32 → (Nat → Int32) → Option (Int32 × (Nat → Int32))
  | 0, _, _, _ => none
  | n3 + 1, x2_2, length__3, bytes__4 =>
    if x2_2 < 0 then
    (some (length__3, bytes__4))
    else
    (if 200 ≤ length__3 then
      (some (length__3, bytes__4))
      else
      (nmI ((jushr p1 x2_2) &&& 255) fun v34_15 =>
        wrI bytes__4 200 length__3 v34_15 fun g34_18 =>
        nmI (length__3 + 1) fun v42_23 =>
        nmI (x2_2 + (-8)) fun v45_27 =>
        (f_X9_put_L3 p1  n3) v45_27 v42_23 g34_18))
noncomputable def f_X9_put (s_length : Int32) (s_bytes : Nat → Int32) (p1 : Int32) : Option (Int32 × (Nat → Int32)) :=
    (f_X9_put_L3 p1  FU) 24 s_length s_bytes
abbrev r_X9_put : Room := { frames := 0, cells := 0, slots := 0, locals := 0 }
set_option maxHeartbeats 4000000 in
set_option maxRecDepth 100000 in
theorem c_X9_put (l : Launch) (E : kE) (sz : Nat) (a0 a1 : Nat) (s_length : Int32) (s_bytes : Nat → Int32) (p1 : Int32) (o_length : Int32) (o_bytes : Nat → Int32) (h : f_X9_put s_length s_bytes p1 = some (o_length, o_bytes)) : kMv l yX9_put cX9_put 3 r_X9_put [.ref a0, .int p1] E [(a0, .inr (9, [.ref a1, .int s_length])), (a1, .inl (E.2 0, 200, .inl s_bytes))] sz 0 0 (fun (_ : Unit) => True) (fun _ => [(a0, .inr (9, [.ref a1, .int o_length])), (a1, .inl (E.2 0, 200, .inl o_bytes))]) := by
  refine kmetv rfl (Nat.le_of_ble_eq_true rfl) ?_
  intro p e s m args below meth c ls A Q X hnm hV hret hl
  have X : kC p s m c cX9_put 3 RX9 args E A := X
  have hx := X.1
  have hb := X.2.1
  have hl : lv_has ls 3 [(0, .ref a0), (1, .int p1)] := hl
  rw [f_X9_put] at h
  refine lv_bipush (v := 24) hx hb dX9_put_0 (by decide) ?_
  refine lv_istore_n (lv' := [(2, .int 24), (0, .ref a0), (1, .int p1)]) hx hb dX9_put_2 rfl hl (by decide) rfl (fun ls hl1 => ?_)
  clear hl
  have L3 : ∀ (n3 : Nat) (x2_2 : Int32) (length__3 : Int32) (bytes__4 : Nat → Int32) (H : Heap) (locs : List Loc) (ls : Array Slot), (f_X9_put_L3 p1  n3) x2_2 length__3 bytes__4 = some (o_length, o_bytes) → kV E A s.heap H locs [(a0, .inr (9, [.ref a1, .int length__3])), (a1, .inl (E.2 0, 200, .inl bytes__4))] → lv_has ls 3 [(0, .ref a0), (1, .int p1), (2, .int x2_2)] → W p l e r_X9_put s m args below meth c H locs 0 0 Q (F0 m 3 ls []) := by
    intro n3
    induction n3 with
    | zero =>
      intro x2_2 length__3 bytes__4 H locs ls hB3 hVB3 hlB3
      rw [f_X9_put_L3] at hB3
      exact nomatch hB3
    | succ n3 ih3 =>
      intro x2_2 length__3 bytes__4 H locs ls hB3 hVB3 hlB3
      rw [f_X9_put_L3] at hB3
      refine lv_iload_n hx hb dX9_put_3 rfl (lv_at hlB3 2 rfl) ?_
      refine lv_if_lt (tgt := 51) hx hb dX9_put_4 (by decide) (fun c5 => ?_) (fun c5 => ?_)
      · have h6 := itS c5 hB3
        clear hB3 c5
        obtain ⟨q8, q9⟩ := tup2_s h6
        clear h6
        exact hret () _ _ _ _ trivial (by rw [← q8, ← q9]; exact hVB3) dX9_put_51
      · have h7 := ieS c5 hB3
        clear hB3 c5
        refine lv_aload_n hx hb dX9_put_7 rfl (lv_at hlB3 0 rfl) ?_
        refine kget X hVB3 (ci := 9) inlX9 rfl 0 rfl 1 (by decide) mw_52 rfl dX9_put_8 ?_
        refine lv_aload_n hx hb dX9_put_11 rfl (lv_at hlB3 0 rfl) ?_
        refine kget X hVB3 (ci := 9) inlX9 rfl 0 rfl 0 (by decide) mw_51 rfl dX9_put_12 ?_
        refine kalen X hVB3 1 0 rfl rfl (v := 200) rfl dX9_put_15 ?_
        refine lv_icmp_ge (tgt := 51) hx hb dX9_put_16 (by decide) (fun c10 => ?_) (fun c10 => ?_)
        · have h11 := itS c10 h7
          clear h7 c10
          obtain ⟨q13, q14⟩ := tup2_s h11
          clear h11
          exact hret () _ _ _ _ trivial (by rw [← q13, ← q14]; exact hVB3) dX9_put_51
        · have h12 := ieS c10 h7
          clear h7 c10
          refine lv_aload_n hx hb dX9_put_19 rfl (lv_at hlB3 0 rfl) ?_
          refine kget X hVB3 (ci := 9) inlX9 rfl 0 rfl 0 (by decide) mw_51 rfl dX9_put_20 ?_
          refine lv_aload_n hx hb dX9_put_23 rfl (lv_at hlB3 0 rfl) ?_
          refine kget X hVB3 (ci := 9) inlX9 rfl 0 rfl 1 (by decide) mw_52 rfl dX9_put_24 ?_
          refine lv_iload_n hx hb dX9_put_27 rfl (lv_at hlB3 1 rfl) ?_
          refine lv_iload_n hx hb dX9_put_28 rfl (lv_at hlB3 2 rfl) ?_
          refine lv_iushr (v := jushr p1 x2_2) hx hb dX9_put_29 rfl ?_
          refine lv_sipush (v := 255) hx hb dX9_put_30 (by decide) ?_
          refine lv_iand hx hb dX9_put_33 ?_
          obtain ⟨v34_15, e16, h17⟩ := nmI_s h12
          clear h12
          refine ktopi e16 ?_
          clear e16
          obtain ⟨hi19, g34_18, e20, h21⟩ := wrI_s h17
          clear h17
          refine kiast X hVB3 1 rfl hi19 e20 dX9_put_34 (fun H locs hV22 => ?_)
          have hV22 : kV E A s.heap H locs [(a0, .inr (9, [.ref a1, .int length__3])), (a1, .inl (E.2 0, 200, .inl g34_18))] := hV22
          clear hVB3 hi19 e20
          refine lv_aload_n hx hb dX9_put_35 rfl (lv_at hlB3 0 rfl) ?_
          refine lv_dup hx hb dX9_put_36 rfl ?_
          refine kget X hV22 (ci := 9) inlX9 rfl 0 rfl 1 (by decide) mw_52 rfl dX9_put_37 ?_
          refine lv_iconst (v := 1) hx hb dX9_put_40 (by decide) ?_
          refine lv_iadd hx hb dX9_put_41 ?_
          obtain ⟨v42_23, e24, h25⟩ := nmI_s h21
          clear h21
          refine ktopi e24 ?_
          clear e24
          refine kput X hV22 (ci := 9) inlX9 rfl tyX9 tyX9_ok nmX9 0 rfl 1 (by decide) mw_52 rfl rfl rfl (Nat.le_of_ble_eq_true rfl) dX9_put_42 (fun H locs hV26 => ?_)
          have hV26 : kV E A s.heap H locs [(a0, .inr (9, [.ref a1, .int v42_23])), (a1, .inl (E.2 0, 200, .inl g34_18))] := hV26
          clear hV22
          obtain ⟨v45_27, e28, h29⟩ := nmI_s h25
          clear h25
          refine lv_iinc (v := v45_27) (lv' := [(2, .int v45_27), (0, .ref a0), (1, .int p1)]) hx hb dX9_put_45 hlB3 (k := 2) rfl (by rw [e28]; rfl) (by decide) rfl (fun ls hl30 => ?_)
          clear hlB3 e28
          refine lv_goto (tgt := 3) hx hb dX9_put_48 (by decide) ?_
          exact ih3 v45_27 v42_23 g34_18 _ _ _ h29 hV26 (lv_sub hl30 [1, 2, 0] rfl)
  exact L3 FU 24 s_length s_bytes _ _ _ h hV (lv_sub hl1 [1, 2, 0] rfl)
noncomputable def f_X9_wordAt (s_length : Int32) (s_bytes : Nat → Int32) (p1 : Int32) : Option (Int32) :=
    nmI (4 * p1) fun v3_1 =>
    if v3_1 < 0 then
    (some (0))
    else
    (if (v3_1 + 3) < s_length then
      (rdI s_bytes 200 v3_1 fun v25_12 =>
        rdI s_bytes 200 (v3_1 + 1) fun v36_16 =>
        rdI s_bytes 200 (v3_1 + 2) fun v48_20 =>
        rdI s_bytes 200 (v3_1 + 3) fun v60_24 =>
        some (((((jshl v25_12 24) ||| (jshl v36_16 16)) ||| (jshl v48_20 8)) ||| v60_24)))
      else
      (some (0)))
abbrev r_X9_wordAt : Room := { frames := 0, cells := 0, slots := 0, locals := 0 }
set_option maxHeartbeats 4000000 in
set_option maxRecDepth 100000 in
theorem c_X9_wordAt (l : Launch) (E : kE) (sz : Nat) (a0 a1 : Nat) (s_length : Int32) (s_bytes : Nat → Int32) (p1 : Int32) (r : Int32) (h : f_X9_wordAt s_length s_bytes p1 = some (r)) : kMi l yX9_wordAt cX9_wordAt 3 (some .int) r_X9_wordAt [.ref a0, .int p1] E [(a0, .inr (9, [.ref a1, .int s_length])), (a1, .inl (E.2 0, 200, .inl s_bytes))] sz 0 0 (fun x (_ : Unit) => x = r) (fun _ => [(a0, .inr (9, [.ref a1, .int s_length])), (a1, .inl (E.2 0, 200, .inl s_bytes))]) := by
  refine kmeti rfl (Nat.le_of_ble_eq_true rfl) ?_
  intro p e s m args below meth c ls A Q X hV hret hl
  have X : kC p s m c cX9_wordAt 3 RX9 args E A := X
  have hx := X.1
  have hb := X.2.1
  have hl : lv_has ls 3 [(0, .ref a0), (1, .int p1)] := hl
  rw [f_X9_wordAt] at h
  refine lv_iconst (v := 4) hx hb dX9_wordAt_0 (by decide) ?_
  refine lv_iload_n hx hb dX9_wordAt_1 rfl (lv_at hl 1 rfl) ?_
  refine lv_imul hx hb dX9_wordAt_2 ?_
  obtain ⟨v3_1, e2, h3⟩ := nmI_s h
  clear h
  refine ktopi e2 ?_
  clear e2
  refine lv_istore_n (lv' := [(2, .int v3_1), (0, .ref a0), (1, .int p1)]) hx hb dX9_wordAt_3 rfl hl (by decide) rfl (fun ls hl4 => ?_)
  clear hl
  refine lv_iload_n hx hb dX9_wordAt_4 rfl (lv_at hl4 0 rfl) ?_
  refine lv_if_lt (tgt := 18) hx hb dX9_wordAt_5 (by decide) (fun c5 => ?_) (fun c5 => ?_)
  · have h6 := itS c5 h3
    clear h3 c5
    refine lv_iconst (v := 0) hx hb dX9_wordAt_18 (by decide) ?_
    have q8 := tup1_s h6
    clear h6
    exact hret _ () _ _ _ _ q8 rfl hV dX9_wordAt_19
  · have h7 := ieS c5 h3
    clear h3 c5
    refine lv_iload_n hx hb dX9_wordAt_8 rfl (lv_at hl4 0 rfl) ?_
    refine lv_iconst (v := 3) hx hb dX9_wordAt_9 (by decide) ?_
    refine lv_iadd hx hb dX9_wordAt_10 ?_
    refine lv_aload_n hx hb dX9_wordAt_11 rfl (lv_at hl4 1 rfl) ?_
    refine kget X hV (ci := 9) inlX9 rfl 0 rfl 1 (by decide) mw_52 rfl dX9_wordAt_12 ?_
    refine lv_icmp_lt (tgt := 20) hx hb dX9_wordAt_15 (by decide) (fun c9 => ?_) (fun c9 => ?_)
    · have h10 := itS c9 h7
      clear h7 c9
      refine lv_aload_n hx hb dX9_wordAt_20 rfl (lv_at hl4 1 rfl) ?_
      refine kget X hV (ci := 9) inlX9 rfl 0 rfl 0 (by decide) mw_51 rfl dX9_wordAt_21 ?_
      refine lv_iload_n hx hb dX9_wordAt_24 rfl (lv_at hl4 0 rfl) ?_
      obtain ⟨hi13, v25_12, e14, h15⟩ := rdI_s h10
      clear h10
      refine kiald X hV 1 rfl hi13 e14 dX9_wordAt_25 ?_
      clear hi13 e14
      refine lv_bipush (v := 24) hx hb dX9_wordAt_26 (by decide) ?_
      refine lv_ishl hx hb dX9_wordAt_28 ?_
      refine lv_aload_n hx hb dX9_wordAt_29 rfl (lv_at hl4 1 rfl) ?_
      refine kget X hV (ci := 9) inlX9 rfl 0 rfl 0 (by decide) mw_51 rfl dX9_wordAt_30 ?_
      refine lv_iload_n hx hb dX9_wordAt_33 rfl (lv_at hl4 0 rfl) ?_
      refine lv_iconst (v := 1) hx hb dX9_wordAt_34 (by decide) ?_
      refine lv_iadd hx hb dX9_wordAt_35 ?_
      obtain ⟨hi17, v36_16, e18, h19⟩ := rdI_s h15
      clear h15
      refine kiald X hV 1 rfl hi17 e18 dX9_wordAt_36 ?_
      clear hi17 e18
      refine lv_bipush (v := 16) hx hb dX9_wordAt_37 (by decide) ?_
      refine lv_ishl hx hb dX9_wordAt_39 ?_
      refine lv_ior hx hb dX9_wordAt_40 ?_
      refine lv_aload_n hx hb dX9_wordAt_41 rfl (lv_at hl4 1 rfl) ?_
      refine kget X hV (ci := 9) inlX9 rfl 0 rfl 0 (by decide) mw_51 rfl dX9_wordAt_42 ?_
      refine lv_iload_n hx hb dX9_wordAt_45 rfl (lv_at hl4 0 rfl) ?_
      refine lv_iconst (v := 2) hx hb dX9_wordAt_46 (by decide) ?_
      refine lv_iadd hx hb dX9_wordAt_47 ?_
      obtain ⟨hi21, v48_20, e22, h23⟩ := rdI_s h19
      clear h19
      refine kiald X hV 1 rfl hi21 e22 dX9_wordAt_48 ?_
      clear hi21 e22
      refine lv_bipush (v := 8) hx hb dX9_wordAt_49 (by decide) ?_
      refine lv_ishl hx hb dX9_wordAt_51 ?_
      refine lv_ior hx hb dX9_wordAt_52 ?_
      refine lv_aload_n hx hb dX9_wordAt_53 rfl (lv_at hl4 1 rfl) ?_
      refine kget X hV (ci := 9) inlX9 rfl 0 rfl 0 (by decide) mw_51 rfl dX9_wordAt_54 ?_
      refine lv_iload_n hx hb dX9_wordAt_57 rfl (lv_at hl4 0 rfl) ?_
      refine lv_iconst (v := 3) hx hb dX9_wordAt_58 (by decide) ?_
      refine lv_iadd hx hb dX9_wordAt_59 ?_
      obtain ⟨hi25, v60_24, e26, h27⟩ := rdI_s h23
      clear h23
      refine kiald X hV 1 rfl hi25 e26 dX9_wordAt_60 ?_
      clear hi25 e26
      refine lv_ior hx hb dX9_wordAt_61 ?_
      have q28 := tup1_s h27
      clear h27
      exact hret _ () _ _ _ _ q28 rfl hV dX9_wordAt_62
    · have h11 := ieS c9 h7
      clear h7 c9
      refine lv_iconst (v := 0) hx hb dX9_wordAt_18 (by decide) ?_
      have q29 := tup1_s h11
      clear h11
      exact hret _ () _ _ _ _ q29 rfl hV dX9_wordAt_19
noncomputable def f_X9_clear (s_length : Int32) : Option (Int32) :=
    some (0)
abbrev r_X9_clear : Room := { frames := 0, cells := 0, slots := 0, locals := 0 }
set_option maxHeartbeats 4000000 in
set_option maxRecDepth 100000 in
theorem c_X9_clear (l : Launch) (E : kE) (sz : Nat) (a0 : Nat) (w0_0 : Value) (s_length : Int32) (o_length : Int32) (h : f_X9_clear s_length = some (o_length)) : kMv l yX9_clear cX9_clear 1 r_X9_clear [.ref a0] E [(a0, .inr (9, [w0_0, .int s_length]))] sz 0 0 (fun (_ : Unit) => True) (fun _ => [(a0, .inr (9, [w0_0, .int o_length]))]) := by
  refine kmetv rfl (Nat.le_of_ble_eq_true rfl) ?_
  intro p e s m args below meth c ls A Q X hnm hV hret hl
  have X : kC p s m c cX9_clear 1 RX9 args E A := X
  have hx := X.1
  have hb := X.2.1
  have hl : lv_has ls 1 [(0, .ref a0)] := hl
  rw [f_X9_clear] at h
  refine lv_aload_n hx hb dX9_clear_0 rfl (lv_at hl 0 rfl) ?_
  refine lv_iconst (v := 0) hx hb dX9_clear_1 (by decide) ?_
  refine kput X hV (ci := 9) inlX9 rfl tyX9 tyX9_ok nmX9 0 rfl 1 (by decide) mw_52 rfl rfl rfl (Nat.le_of_ble_eq_true rfl) dX9_clear_2 (fun H locs hV1 => ?_)
  have hV1 : kV E A s.heap H locs [(a0, .inr (9, [w0_0, .int 0]))] := hV1
  clear hV
  have q2 := tup1_s h
  clear h
  exact hret () _ _ _ _ trivial (by rw [← q2]; exact hV1) dX9_clear_5
noncomputable def f_X6_begin (n_p1 : Nat) (s_length : Int32) (s_at : Int32) (s_used : Int32) (s_fault : Int32) (s_starts : Nat → Int32) (p2 : Int32) : Option (Int32 × Int32 × Int32 × Int32 × (Nat → Int32)) :=
    nmI (jmin p2 (Int32.ofNat n_p1)) fun v12_2 =>
    wrI s_starts 13 0 0 fun g36_9 =>
    some (v12_2, 0, 0, 0, g36_9)
abbrev r_X6_begin : Room := { frames := 1, cells := 0, slots := 0, locals := 23 }
set_option maxHeartbeats 4000000 in
set_option maxRecDepth 100000 in
theorem c_X6_begin (l : Launch) (E : kE) (sz : Nat) (a0 a1 a2 : Nat) (w0_0 w0_2 w0_3 : Value) (n_p1 : Nat) (s_length : Int32) (s_at : Int32) (s_used : Int32) (s_fault : Int32) (s_p1 : Nat → Int32) (s_starts : Nat → Int32) (p2 : Int32) (o_length : Int32) (o_at : Int32) (o_used : Int32) (o_fault : Int32) (o_starts : Nat → Int32) (h : f_X6_begin n_p1 s_length s_at s_used s_fault s_starts p2 = some (o_length, o_at, o_used, o_fault, o_starts)) : kMv l yX6_begin cX6_begin 3 r_X6_begin [.ref a0, .ref a1, .int p2] E [(a0, .inr (6, [w0_0, .ref a2, w0_2, w0_3, .int s_length, .int s_at, .int s_used, .int s_fault])), (a1, .inl (E.2 0, n_p1, .inl s_p1)), (a2, .inl (E.2 0, 13, .inl s_starts))] sz 0 0 (fun (_ : Unit) => True) (fun _ => [(a0, .inr (6, [w0_0, .ref a2, w0_2, .ref a1, .int o_length, .int o_at, .int o_used, .int o_fault])), (a1, .inl (E.2 0, n_p1, .inl s_p1)), (a2, .inl (E.2 0, 13, .inl o_starts))]) := by
  refine kmetv rfl (Nat.le_of_ble_eq_true rfl) ?_
  intro p e s m args below meth c ls A Q X hnm hV hret hl
  have X : kC p s m c cX6_begin 3 RX6 args E A := X
  have hx := X.1
  have hb := X.2.1
  have hl : lv_has ls 3 [(0, .ref a0), (1, .ref a1), (2, .int p2)] := hl
  rw [f_X6_begin] at h
  refine lv_aload_n hx hb dX6_begin_0 rfl (lv_at hl 0 rfl) ?_
  refine lv_aload_n hx hb dX6_begin_1 rfl (lv_at hl 1 rfl) ?_
  refine kput X hV (ci := 6) inlX6 rfl tyX6 tyX6_ok nmX6 0 rfl 3 (by decide) mw_60 rfl rfl rfl (Nat.le_of_ble_eq_true rfl) dX6_begin_2 (fun H locs hV1 => ?_)
  have hV1 : kV E A s.heap H locs [(a0, .inr (6, [w0_0, .ref a2, w0_2, .ref a1, .int s_length, .int s_at, .int s_used, .int s_fault])), (a1, .inl (E.2 0, n_p1, .inl s_p1)), (a2, .inl (E.2 0, 13, .inl s_starts))] := hV1
  clear hV
  refine lv_aload_n hx hb dX6_begin_5 rfl (lv_at hl 0 rfl) ?_
  refine lv_iload_n hx hb dX6_begin_6 rfl (lv_at hl 2 rfl) ?_
  refine lv_aload_n hx hb dX6_begin_7 rfl (lv_at hl 1 rfl) ?_
  refine kalen X hV1 1 0 rfl rfl (v := (Int32.ofNat n_p1)) rfl dX6_begin_8 ?_
  refine va_mmin hx hb (X.2.2.1.trans hl.1.symm) X.2.2.2.1 (X.2.2.2.2.1 _ mw_279) (X.2.2.2.2.1 _ mw_280) (X.2.2.2.2.1 _ mw_281) (X.2.2.2.2.1 _ mw_282) (by decide) (Nat.le_of_ble_eq_true rfl) (by decide) (by decide) dX6_begin_9 ?_
  obtain ⟨v12_2, e3, h4⟩ := nmI_s h
  clear h
  refine ktopi e3 ?_
  clear e3
  refine kput X hV1 (ci := 6) inlX6 rfl tyX6 tyX6_ok nmX6 0 rfl 4 (by decide) mw_61 rfl rfl rfl (Nat.le_of_ble_eq_true rfl) dX6_begin_12 (fun H locs hV5 => ?_)
  have hV5 : kV E A s.heap H locs [(a0, .inr (6, [w0_0, .ref a2, w0_2, .ref a1, .int v12_2, .int s_at, .int s_used, .int s_fault])), (a1, .inl (E.2 0, n_p1, .inl s_p1)), (a2, .inl (E.2 0, 13, .inl s_starts))] := hV5
  clear hV1
  refine lv_aload_n hx hb dX6_begin_15 rfl (lv_at hl 0 rfl) ?_
  refine lv_iconst (v := 0) hx hb dX6_begin_16 (by decide) ?_
  refine kput X hV5 (ci := 6) inlX6 rfl tyX6 tyX6_ok nmX6 0 rfl 5 (by decide) mw_62 rfl rfl rfl (Nat.le_of_ble_eq_true rfl) dX6_begin_17 (fun H locs hV6 => ?_)
  have hV6 : kV E A s.heap H locs [(a0, .inr (6, [w0_0, .ref a2, w0_2, .ref a1, .int v12_2, .int 0, .int s_used, .int s_fault])), (a1, .inl (E.2 0, n_p1, .inl s_p1)), (a2, .inl (E.2 0, 13, .inl s_starts))] := hV6
  clear hV5
  refine lv_aload_n hx hb dX6_begin_20 rfl (lv_at hl 0 rfl) ?_
  refine lv_iconst (v := 0) hx hb dX6_begin_21 (by decide) ?_
  refine kput X hV6 (ci := 6) inlX6 rfl tyX6 tyX6_ok nmX6 0 rfl 6 (by decide) mw_63 rfl rfl rfl (Nat.le_of_ble_eq_true rfl) dX6_begin_22 (fun H locs hV7 => ?_)
  have hV7 : kV E A s.heap H locs [(a0, .inr (6, [w0_0, .ref a2, w0_2, .ref a1, .int v12_2, .int 0, .int 0, .int s_fault])), (a1, .inl (E.2 0, n_p1, .inl s_p1)), (a2, .inl (E.2 0, 13, .inl s_starts))] := hV7
  clear hV6
  refine lv_aload_n hx hb dX6_begin_25 rfl (lv_at hl 0 rfl) ?_
  refine lv_iconst (v := 0) hx hb dX6_begin_26 (by decide) ?_
  refine kput X hV7 (ci := 6) inlX6 rfl tyX6 tyX6_ok nmX6 0 rfl 7 (by decide) mw_64 rfl rfl rfl (Nat.le_of_ble_eq_true rfl) dX6_begin_27 (fun H locs hV8 => ?_)
  have hV8 : kV E A s.heap H locs [(a0, .inr (6, [w0_0, .ref a2, w0_2, .ref a1, .int v12_2, .int 0, .int 0, .int 0])), (a1, .inl (E.2 0, n_p1, .inl s_p1)), (a2, .inl (E.2 0, 13, .inl s_starts))] := hV8
  clear hV7
  refine lv_aload_n hx hb dX6_begin_30 rfl (lv_at hl 0 rfl) ?_
  refine kget X hV8 (ci := 6) inlX6 rfl 0 rfl 1 (by decide) mw_58 rfl dX6_begin_31 ?_
  refine lv_iconst (v := 0) hx hb dX6_begin_34 (by decide) ?_
  refine lv_iconst (v := 0) hx hb dX6_begin_35 (by decide) ?_
  obtain ⟨hi10, g36_9, e11, h12⟩ := wrI_s h4
  clear h4
  refine kiast X hV8 2 rfl hi10 e11 dX6_begin_36 (fun H locs hV13 => ?_)
  have hV13 : kV E A s.heap H locs [(a0, .inr (6, [w0_0, .ref a2, w0_2, .ref a1, .int v12_2, .int 0, .int 0, .int 0])), (a1, .inl (E.2 0, n_p1, .inl s_p1)), (a2, .inl (E.2 0, 13, .inl g36_9))] := hV13
  clear hV8 hi10 e11
  obtain ⟨q14, q15, q16, q17, q18⟩ := tup5_s h12
  clear h12
  exact hret () _ _ _ _ trivial (by rw [← q14, ← q15, ← q16, ← q17, ← q18]; exact hV13) dX6_begin_37
noncomputable def f_X6_next (n_this_bytes : Nat) (s_length : Int32) (s_at : Int32) (s_bytes : Nat → Int32) : Option (Int32) :=
    if s_length ≤ s_at then
    (some ((-1)))
    else
    (rdI s_bytes n_this_bytes s_at fun v19_5 =>
      some (v19_5))
abbrev r_X6_next : Room := { frames := 0, cells := 0, slots := 0, locals := 0 }
set_option maxHeartbeats 4000000 in
set_option maxRecDepth 100000 in
theorem c_X6_next (l : Launch) (E : kE) (sz : Nat) (a0 a1 : Nat) (w0_0 w0_1 w0_2 w0_6 w0_7 : Value) (n_this_bytes : Nat) (s_length : Int32) (s_at : Int32) (s_bytes : Nat → Int32) (r : Int32) (h : f_X6_next n_this_bytes s_length s_at s_bytes = some (r)) : kMi l yX6_next cX6_next 1 (some .int) r_X6_next [.ref a0] E [(a0, .inr (6, [w0_0, w0_1, w0_2, .ref a1, .int s_length, .int s_at, w0_6, w0_7])), (a1, .inl (E.2 0, n_this_bytes, .inl s_bytes))] sz 0 0 (fun x (_ : Unit) => x = r) (fun _ => [(a0, .inr (6, [w0_0, w0_1, w0_2, .ref a1, .int s_length, .int s_at, w0_6, w0_7])), (a1, .inl (E.2 0, n_this_bytes, .inl s_bytes))]) := by
  refine kmeti rfl (Nat.le_of_ble_eq_true rfl) ?_
  intro p e s m args below meth c ls A Q X hV hret hl
  have X : kC p s m c cX6_next 1 RX6 args E A := X
  have hx := X.1
  have hb := X.2.1
  have hl : lv_has ls 1 [(0, .ref a0)] := hl
  rw [f_X6_next] at h
  refine lv_aload_n hx hb dX6_next_0 rfl (lv_at hl 0 rfl) ?_
  refine kget X hV (ci := 6) inlX6 rfl 0 rfl 5 (by decide) mw_62 rfl dX6_next_1 ?_
  refine lv_aload_n hx hb dX6_next_4 rfl (lv_at hl 0 rfl) ?_
  refine kget X hV (ci := 6) inlX6 rfl 0 rfl 4 (by decide) mw_61 rfl dX6_next_5 ?_
  refine lv_icmp_ge (tgt := 23) hx hb dX6_next_8 (by decide) (fun c1 => ?_) (fun c1 => ?_)
  · have h2 := itS c1 h
    clear h c1
    refine lv_iconst (v := (-1)) hx hb dX6_next_23 (by decide) ?_
    have q4 := tup1_s h2
    clear h2
    exact hret _ () _ _ _ _ q4 rfl hV dX6_next_24
  · have h3 := ieS c1 h
    clear h c1
    refine lv_aload_n hx hb dX6_next_11 rfl (lv_at hl 0 rfl) ?_
    refine kget X hV (ci := 6) inlX6 rfl 0 rfl 3 (by decide) mw_60 rfl dX6_next_12 ?_
    refine lv_aload_n hx hb dX6_next_15 rfl (lv_at hl 0 rfl) ?_
    refine kget X hV (ci := 6) inlX6 rfl 0 rfl 5 (by decide) mw_62 rfl dX6_next_16 ?_
    obtain ⟨hi6, v19_5, e7, h8⟩ := rdI_s h3
    clear h3
    refine kiald X hV 1 rfl hi6 e7 dX6_next_19 ?_
    clear hi6 e7
    refine lv_goto (tgt := 24) hx hb dX6_next_20 (by decide) ?_
    have q9 := tup1_s h8
    clear h8
    exact hret _ () _ _ _ _ q9 rfl hV dX6_next_24
noncomputable def f_X6_fail (s_fault : Int32) (p1 : Int32) : Option (Int32 × Int32) :=
    some (0, p1)
abbrev r_X6_fail : Room := { frames := 0, cells := 0, slots := 0, locals := 0 }
set_option maxHeartbeats 4000000 in
set_option maxRecDepth 100000 in
theorem c_X6_fail (l : Launch) (E : kE) (sz : Nat) (a0 : Nat) (w0_0 w0_1 w0_2 w0_3 w0_4 w0_5 w0_6 : Value) (s_fault : Int32) (p1 : Int32) (r : Int32) (o_fault : Int32) (h : f_X6_fail s_fault p1 = some (r, o_fault)) : kMi l yX6_fail cX6_fail 2 (some .boolean) r_X6_fail [.ref a0, .int p1] E [(a0, .inr (6, [w0_0, w0_1, w0_2, w0_3, w0_4, w0_5, w0_6, .int s_fault]))] sz 0 0 (fun x (_ : Unit) => x = r) (fun _ => [(a0, .inr (6, [w0_0, w0_1, w0_2, w0_3, w0_4, w0_5, w0_6, .int o_fault]))]) := by
  refine kmeti rfl (Nat.le_of_ble_eq_true rfl) ?_
  intro p e s m args below meth c ls A Q X hV hret hl
  have X : kC p s m c cX6_fail 2 RX6 args E A := X
  have hx := X.1
  have hb := X.2.1
  have hl : lv_has ls 2 [(0, .ref a0), (1, .int p1)] := hl
  rw [f_X6_fail] at h
  refine lv_aload_n hx hb dX6_fail_0 rfl (lv_at hl 0 rfl) ?_
  refine lv_iload_n hx hb dX6_fail_1 rfl (lv_at hl 1 rfl) ?_
  refine kput X hV (ci := 6) inlX6 rfl tyX6 tyX6_ok nmX6 0 rfl 7 (by decide) mw_64 rfl rfl rfl (Nat.le_of_ble_eq_true rfl) dX6_fail_2 (fun H locs hV1 => ?_)
  have hV1 : kV E A s.heap H locs [(a0, .inr (6, [w0_0, w0_1, w0_2, w0_3, w0_4, w0_5, w0_6, .int p1]))] := hV1
  clear hV
  refine lv_iconst (v := 0) hx hb dX6_fail_5 (by decide) ?_
  obtain ⟨q2, q3⟩ := tup2_s h
  clear h
  exact hret _ () _ _ _ _ q2 rfl (by rw [← q3]; exact hV1) dX6_fail_6
noncomputable def f_X6_signStands (n_this_bytes : Nat) (s_length : Int32) (s_at : Int32) (s_fault : Int32) (s_bytes : Nat → Int32) (p1 : Int32) : Option (Int32 × Int32 × Int32) :=
    cb1 (f_X6_next n_this_bytes s_length s_at s_bytes) fun r1_1 =>
    if r1_1 = p1 then
    (nmI (s_at + 1) fun v21_9 =>
      some (1, v21_9, s_fault))
    else
    (cb2 (f_X6_fail s_fault 1) fun r10_16 o_fault10_17 =>
      bo r10_16 <|
      some (r10_16, s_at, o_fault10_17))
abbrev r_X6_signStands : Room := { frames := 1, cells := 0, slots := 0, locals := 21 }
set_option maxHeartbeats 4000000 in
set_option maxRecDepth 100000 in
theorem c_X6_signStands (l : Launch) (E : kE) (sz : Nat) (a0 a1 : Nat) (w0_0 w0_1 w0_2 w0_6 : Value) (n_this_bytes : Nat) (s_length : Int32) (s_at : Int32) (s_fault : Int32) (s_bytes : Nat → Int32) (p1 : Int32) (r : Int32) (o_at : Int32) (o_fault : Int32) (h : f_X6_signStands n_this_bytes s_length s_at s_fault s_bytes p1 = some (r, o_at, o_fault)) : kMi l yX6_signStands cX6_signStands 2 (some .boolean) r_X6_signStands [.ref a0, .int p1] E [(a0, .inr (6, [w0_0, w0_1, w0_2, .ref a1, .int s_length, .int s_at, w0_6, .int s_fault])), (a1, .inl (E.2 0, n_this_bytes, .inl s_bytes))] sz 0 0 (fun x (_ : Unit) => x = r) (fun _ => [(a0, .inr (6, [w0_0, w0_1, w0_2, .ref a1, .int s_length, .int o_at, w0_6, .int o_fault])), (a1, .inl (E.2 0, n_this_bytes, .inl s_bytes))]) := by
  refine kmeti rfl (Nat.le_of_ble_eq_true rfl) ?_
  intro p e s m args below meth c ls A Q X hV hret hl
  have X : kC p s m c cX6_signStands 2 RX6 args E A := X
  have hx := X.1
  have hb := X.2.1
  have hl : lv_has ls 2 [(0, .ref a0), (1, .int p1)] := hl
  rw [f_X6_signStands] at h
  refine lv_aload_n hx hb dX6_signStands_0 rfl (lv_at hl 0 rfl) ?_
  obtain ⟨r1_1, hc2, h3⟩ := cb1_s h
  clear h
  refine kgoiE (krunV (rest := []) X hV [0, 1] (c_X6_next l E _ a0 a1 (w0_0) (w0_1) (w0_2) (w0_6) (.int s_fault) n_this_bytes s_length s_at s_bytes r1_1 hc2) mw_291 kb_X6_next (ci := 6) rfl rfl (by decide) rfl rfl hl.1 rfl (Nat.le_of_ble_eq_true rfl) dX6_signStands_1 (by decide)) X hV [0, 1] [] rfl rfl rfl (by decide) (fun u H locs hV4 => ?_)
  have hV4 : kV E A s.heap H locs [(a0, .inr (6, [w0_0, w0_1, w0_2, .ref a1, .int s_length, .int s_at, w0_6, .int s_fault])), (a1, .inl (E.2 0, n_this_bytes, .inl s_bytes))] := hV4.sub [0, 1] rfl rfl
  clear hV
  refine lv_iload_n hx hb dX6_signStands_4 rfl (lv_at hl 1 rfl) ?_
  refine lv_icmp_eq (tgt := 14) hx hb dX6_signStands_5 (by decide) (fun c6 => ?_) (fun c6 => ?_)
  · have h7 := itS c6 h3
    clear h3 c6
    refine lv_aload_n hx hb dX6_signStands_14 rfl (lv_at hl 0 rfl) ?_
    refine lv_dup hx hb dX6_signStands_15 rfl ?_
    refine kget X hV4 (ci := 6) inlX6 rfl 0 rfl 5 (by decide) mw_62 rfl dX6_signStands_16 ?_
    refine lv_iconst (v := 1) hx hb dX6_signStands_19 (by decide) ?_
    refine lv_iadd hx hb dX6_signStands_20 ?_
    obtain ⟨v21_9, e10, h11⟩ := nmI_s h7
    clear h7
    refine ktopi e10 ?_
    clear e10
    refine kput X hV4 (ci := 6) inlX6 rfl tyX6 tyX6_ok nmX6 0 rfl 5 (by decide) mw_62 rfl rfl rfl (Nat.le_of_ble_eq_true rfl) dX6_signStands_21 (fun H locs hV12 => ?_)
    have hV12 : kV E A s.heap H locs [(a0, .inr (6, [w0_0, w0_1, w0_2, .ref a1, .int s_length, .int v21_9, w0_6, .int s_fault])), (a1, .inl (E.2 0, n_this_bytes, .inl s_bytes))] := hV12
    clear hV4
    refine lv_iconst (v := 1) hx hb dX6_signStands_24 (by decide) ?_
    obtain ⟨q13, q14, q15⟩ := tup3_s h11
    clear h11
    exact hret _ () _ _ _ _ q13 rfl (by rw [← q14, ← q15]; exact hV12) dX6_signStands_25
  · have h8 := ieS c6 h3
    clear h3 c6
    refine lv_aload_n hx hb dX6_signStands_8 rfl (lv_at hl 0 rfl) ?_
    refine lv_iconst (v := 1) hx hb dX6_signStands_9 (by decide) ?_
    obtain ⟨r10_16, o_fault10_17, hc18, h19⟩ := cb2_s h8
    clear h8
    refine kgoiE (krunV (rest := []) X hV4 [0] (c_X6_fail l E _ a0 (w0_0) (w0_1) (w0_2) (.ref a1) (.int s_length) (.int s_at) (w0_6) s_fault 1 r10_16 o_fault10_17 hc18) mw_295 kb_X6_fail (ci := 6) rfl rfl (by decide) rfl rfl hl.1 rfl (Nat.le_of_ble_eq_true rfl) dX6_signStands_10 (by decide)) X hV4 [0] [1] rfl rfl rfl (by decide) (fun u H locs hV20 => ?_)
    have hV20 : kV E A s.heap H locs [(a0, .inr (6, [w0_0, w0_1, w0_2, .ref a1, .int s_length, .int s_at, w0_6, .int o_fault10_17])), (a1, .inl (E.2 0, n_this_bytes, .inl s_bytes))] := hV20.sub [1, 0] rfl rfl
    clear hV4
    obtain ⟨hb22, h23⟩ := bo_s h19
    clear h19
    obtain ⟨q24, q25, q26⟩ := tup3_s h23
    clear h23
    exact hret _ () _ _ _ _ q24 hb22 (by rw [← q25, ← q26]; exact hV20) dX6_signStands_13
noncomputable def f_X6_put (s_used : Int32) (s_code : Nat → Int32) (p1 : Int32) (p2 : Int32) : Option (Int32 × (Nat → Int32)) :=
    if 120 ≤ s_used then
    (some (s_used, s_code))
    else
    (nmI ((jshl p2 8) ||| p1) fun v26_6 =>
      wrI s_code 120 s_used v26_6 fun g26_9 =>
      nmI (s_used + 1) fun v34_14 =>
      some (v34_14, g26_9))
abbrev r_X6_put : Room := { frames := 0, cells := 0, slots := 0, locals := 0 }
set_option maxHeartbeats 4000000 in
set_option maxRecDepth 100000 in
theorem c_X6_put (l : Launch) (E : kE) (sz : Nat) (a0 a1 : Nat) (w0_1 w0_2 w0_3 w0_4 w0_5 w0_7 : Value) (s_used : Int32) (s_code : Nat → Int32) (p1 : Int32) (p2 : Int32) (o_used : Int32) (o_code : Nat → Int32) (h : f_X6_put s_used s_code p1 p2 = some (o_used, o_code)) : kMv l yX6_put cX6_put 3 r_X6_put [.ref a0, .int p1, .int p2] E [(a0, .inr (6, [.ref a1, w0_1, w0_2, w0_3, w0_4, w0_5, .int s_used, w0_7])), (a1, .inl (E.2 0, 120, .inl s_code))] sz 0 0 (fun (_ : Unit) => True) (fun _ => [(a0, .inr (6, [.ref a1, w0_1, w0_2, w0_3, w0_4, w0_5, .int o_used, w0_7])), (a1, .inl (E.2 0, 120, .inl o_code))]) := by
  refine kmetv rfl (Nat.le_of_ble_eq_true rfl) ?_
  intro p e s m args below meth c ls A Q X hnm hV hret hl
  have X : kC p s m c cX6_put 3 RX6 args E A := X
  have hx := X.1
  have hb := X.2.1
  have hl : lv_has ls 3 [(0, .ref a0), (1, .int p1), (2, .int p2)] := hl
  rw [f_X6_put] at h
  refine lv_aload_n hx hb dX6_put_0 rfl (lv_at hl 0 rfl) ?_
  refine kget X hV (ci := 6) inlX6 rfl 0 rfl 6 (by decide) mw_63 rfl dX6_put_1 ?_
  refine lv_aload_n hx hb dX6_put_4 rfl (lv_at hl 0 rfl) ?_
  refine kget X hV (ci := 6) inlX6 rfl 0 rfl 0 (by decide) mw_57 rfl dX6_put_5 ?_
  refine kalen X hV 1 0 rfl rfl (v := 120) rfl dX6_put_8 ?_
  refine lv_icmp_ge (tgt := 37) hx hb dX6_put_9 (by decide) (fun c1 => ?_) (fun c1 => ?_)
  · have h2 := itS c1 h
    clear h c1
    obtain ⟨q4, q5⟩ := tup2_s h2
    clear h2
    exact hret () _ _ _ _ trivial (by rw [← q4, ← q5]; exact hV) dX6_put_37
  · have h3 := ieS c1 h
    clear h c1
    refine lv_aload_n hx hb dX6_put_12 rfl (lv_at hl 0 rfl) ?_
    refine kget X hV (ci := 6) inlX6 rfl 0 rfl 0 (by decide) mw_57 rfl dX6_put_13 ?_
    refine lv_aload_n hx hb dX6_put_16 rfl (lv_at hl 0 rfl) ?_
    refine kget X hV (ci := 6) inlX6 rfl 0 rfl 6 (by decide) mw_63 rfl dX6_put_17 ?_
    refine lv_iload_n hx hb dX6_put_20 rfl (lv_at hl 2 rfl) ?_
    refine lv_bipush (v := 8) hx hb dX6_put_21 (by decide) ?_
    refine lv_ishl hx hb dX6_put_23 ?_
    refine lv_iload_n hx hb dX6_put_24 rfl (lv_at hl 1 rfl) ?_
    refine lv_ior hx hb dX6_put_25 ?_
    obtain ⟨v26_6, e7, h8⟩ := nmI_s h3
    clear h3
    refine ktopi e7 ?_
    clear e7
    obtain ⟨hi10, g26_9, e11, h12⟩ := wrI_s h8
    clear h8
    refine kiast X hV 1 rfl hi10 e11 dX6_put_26 (fun H locs hV13 => ?_)
    have hV13 : kV E A s.heap H locs [(a0, .inr (6, [.ref a1, w0_1, w0_2, w0_3, w0_4, w0_5, .int s_used, w0_7])), (a1, .inl (E.2 0, 120, .inl g26_9))] := hV13
    clear hV hi10 e11
    refine lv_aload_n hx hb dX6_put_27 rfl (lv_at hl 0 rfl) ?_
    refine lv_dup hx hb dX6_put_28 rfl ?_
    refine kget X hV13 (ci := 6) inlX6 rfl 0 rfl 6 (by decide) mw_63 rfl dX6_put_29 ?_
    refine lv_iconst (v := 1) hx hb dX6_put_32 (by decide) ?_
    refine lv_iadd hx hb dX6_put_33 ?_
    obtain ⟨v34_14, e15, h16⟩ := nmI_s h12
    clear h12
    refine ktopi e15 ?_
    clear e15
    refine kput X hV13 (ci := 6) inlX6 rfl tyX6 tyX6_ok nmX6 0 rfl 6 (by decide) mw_63 rfl rfl rfl (Nat.le_of_ble_eq_true rfl) dX6_put_34 (fun H locs hV17 => ?_)
    have hV17 : kV E A s.heap H locs [(a0, .inr (6, [.ref a1, w0_1, w0_2, w0_3, w0_4, w0_5, .int v34_14, w0_7])), (a1, .inl (E.2 0, 120, .inl g26_9))] := hV17
    clear hV13
    obtain ⟨q18, q19⟩ := tup2_s h16
    clear h16
    exact hret () _ _ _ _ trivial (by rw [← q18, ← q19]; exact hV17) dX6_put_37
noncomputable def f_X6_leapHere (s_used : Int32) (s_code : Nat → Int32) (p1 : Int32) : Option ((Nat → Int32)) :=
    if s_used ≤ p1 then
    (some (s_code))
    else
    (rdI s_code 120 p1 fun v25_5 =>
      nmI ((jshl s_used 8) ||| (v25_5 &&& 255)) fun v31_9 =>
      wrI s_code 120 p1 v31_9 fun g31_12 =>
      some (g31_12))
abbrev r_X6_leapHere : Room := { frames := 0, cells := 0, slots := 0, locals := 0 }
set_option maxHeartbeats 4000000 in
set_option maxRecDepth 100000 in
theorem c_X6_leapHere (l : Launch) (E : kE) (sz : Nat) (a0 a1 : Nat) (w0_1 w0_2 w0_3 w0_4 w0_5 w0_7 : Value) (s_used : Int32) (s_code : Nat → Int32) (p1 : Int32) (o_code : Nat → Int32) (h : f_X6_leapHere s_used s_code p1 = some (o_code)) : kMv l yX6_leapHere cX6_leapHere 2 r_X6_leapHere [.ref a0, .int p1] E [(a0, .inr (6, [.ref a1, w0_1, w0_2, w0_3, w0_4, w0_5, .int s_used, w0_7])), (a1, .inl (E.2 0, 120, .inl s_code))] sz 0 0 (fun (_ : Unit) => True) (fun _ => [(a0, .inr (6, [.ref a1, w0_1, w0_2, w0_3, w0_4, w0_5, .int s_used, w0_7])), (a1, .inl (E.2 0, 120, .inl o_code))]) := by
  refine kmetv rfl (Nat.le_of_ble_eq_true rfl) ?_
  intro p e s m args below meth c ls A Q X hnm hV hret hl
  have X : kC p s m c cX6_leapHere 2 RX6 args E A := X
  have hx := X.1
  have hb := X.2.1
  have hl : lv_has ls 2 [(0, .ref a0), (1, .int p1)] := hl
  rw [f_X6_leapHere] at h
  refine lv_iload_n hx hb dX6_leapHere_0 rfl (lv_at hl 1 rfl) ?_
  refine lv_aload_n hx hb dX6_leapHere_1 rfl (lv_at hl 0 rfl) ?_
  refine kget X hV (ci := 6) inlX6 rfl 0 rfl 6 (by decide) mw_63 rfl dX6_leapHere_2 ?_
  refine lv_icmp_ge (tgt := 32) hx hb dX6_leapHere_5 (by decide) (fun c1 => ?_) (fun c1 => ?_)
  · have h2 := itS c1 h
    clear h c1
    have q4 := tup1_s h2
    clear h2
    exact hret () _ _ _ _ trivial (by rw [← q4]; exact hV) dX6_leapHere_32
  · have h3 := ieS c1 h
    clear h c1
    refine lv_aload_n hx hb dX6_leapHere_8 rfl (lv_at hl 0 rfl) ?_
    refine kget X hV (ci := 6) inlX6 rfl 0 rfl 0 (by decide) mw_57 rfl dX6_leapHere_9 ?_
    refine lv_iload_n hx hb dX6_leapHere_12 rfl (lv_at hl 1 rfl) ?_
    refine lv_aload_n hx hb dX6_leapHere_13 rfl (lv_at hl 0 rfl) ?_
    refine kget X hV (ci := 6) inlX6 rfl 0 rfl 6 (by decide) mw_63 rfl dX6_leapHere_14 ?_
    refine lv_bipush (v := 8) hx hb dX6_leapHere_17 (by decide) ?_
    refine lv_ishl hx hb dX6_leapHere_19 ?_
    refine lv_aload_n hx hb dX6_leapHere_20 rfl (lv_at hl 0 rfl) ?_
    refine kget X hV (ci := 6) inlX6 rfl 0 rfl 0 (by decide) mw_57 rfl dX6_leapHere_21 ?_
    refine lv_iload_n hx hb dX6_leapHere_24 rfl (lv_at hl 1 rfl) ?_
    obtain ⟨hi6, v25_5, e7, h8⟩ := rdI_s h3
    clear h3
    refine kiald X hV 1 rfl hi6 e7 dX6_leapHere_25 ?_
    clear hi6 e7
    refine lv_sipush (v := 255) hx hb dX6_leapHere_26 (by decide) ?_
    refine lv_iand hx hb dX6_leapHere_29 ?_
    refine lv_ior hx hb dX6_leapHere_30 ?_
    obtain ⟨v31_9, e10, h11⟩ := nmI_s h8
    clear h8
    refine ktopi e10 ?_
    clear e10
    obtain ⟨hi13, g31_12, e14, h15⟩ := wrI_s h11
    clear h11
    refine kiast X hV 1 rfl hi13 e14 dX6_leapHere_31 (fun H locs hV16 => ?_)
    have hV16 : kV E A s.heap H locs [(a0, .inr (6, [.ref a1, w0_1, w0_2, w0_3, w0_4, w0_5, .int s_used, w0_7])), (a1, .inl (E.2 0, 120, .inl g31_12))] := hV16
    clear hV hi13 e14
    have q17 := tup1_s h15
    clear h15
    exact hret () _ _ _ _ trivial (by rw [← q17]; exact hV16) dX6_leapHere_32
noncomputable def f_X6_joins (p1 : Int32) (p2 : Int32) : Option (Int32) :=
    if p1 = 0 then (if p2 = 124 then
      (some (1))
      else
      (some (0)))
    else if p1 = 1 then (if p2 = 38 then
      (some (1))
      else
      (some (0)))
    else if p1 = 2 then (if p2 = 43 then
      (some (1))
      else
      (if p2 = 45 then
        (some (1))
        else
        (some (0))))
    else (if p2 = 42 then
      (some (1))
      else
      (if p2 = 47 then
        (some (1))
        else
        (if p2 = 37 then
          (some (1))
          else
          (some (0)))))
abbrev r_X6_joins : Room := { frames := 0, cells := 0, slots := 0, locals := 0 }
set_option maxHeartbeats 4000000 in
set_option maxRecDepth 100000 in
theorem c_X6_joins (l : Launch) (E : kE) (sz : Nat) (p1 : Int32) (p2 : Int32) (r : Int32) (h : f_X6_joins p1 p2 = some (r)) : kMi l yX6_joins cX6_joins 2 (some .boolean) r_X6_joins [.int p1, .int p2] E [] sz 0 0 (fun x (_ : Unit) => x = r) (fun _ => []) := by
  refine kmeti rfl (Nat.le_of_ble_eq_true rfl) ?_
  intro p e s m args below meth c ls A Q X hV hret hl
  have X : kC p s m c cX6_joins 2 RX6 args E A := X
  have hx := X.1
  have hb := X.2.1
  have hl : lv_has ls 2 [(0, .int p1), (1, .int p2)] := hl
  rw [f_X6_joins] at h
  refine lv_iload_n hx hb dX6_joins_0 rfl (lv_at hl 0 rfl) ?_
  by_cases c1 : p1 = 0
  · have h2 := itS c1 h
    refine lv_tableIn (tgt := 28) (off := 27) hx hb dX6_joins_1 (by rw [c1]; decide) (by rw [c1]; decide) (by rw [c1]; decide) (by decide) ?_
    clear h
    refine lv_iload_n hx hb dX6_joins_28 rfl (lv_at hl 1 rfl) ?_
    refine lv_bipush (v := 124) hx hb dX6_joins_29 (by decide) ?_
    refine lv_icmp_ne (tgt := 38) hx hb dX6_joins_31 (by decide) (fun c3 => ?_) (fun c3 => ?_)
    · have h4 := ieS c3 h2
      clear h2 c3
      refine lv_iconst (v := 0) hx hb dX6_joins_38 (by decide) ?_
      have q6 := tup1_s h4
      clear h4
      exact hret _ () _ _ _ _ q6 rfl hV dX6_joins_39
    · have h5 := itS c3 h2
      clear h2 c3
      refine lv_iconst (v := 1) hx hb dX6_joins_34 (by decide) ?_
      refine lv_goto (tgt := 39) hx hb dX6_joins_35 (by decide) ?_
      have q7 := tup1_s h5
      clear h5
      exact hret _ () _ _ _ _ q7 rfl hV dX6_joins_39
  · have h8 := ieS c1 h
    clear h
    by_cases c9 : p1 = 1
    · have h10 := itS c9 h8
      refine lv_tableIn (tgt := 40) (off := 39) hx hb dX6_joins_1 (by rw [c9]; decide) (by rw [c9]; decide) (by rw [c9]; decide) (by decide) ?_
      clear h8
      refine lv_iload_n hx hb dX6_joins_40 rfl (lv_at hl 1 rfl) ?_
      refine lv_bipush (v := 38) hx hb dX6_joins_41 (by decide) ?_
      refine lv_icmp_ne (tgt := 50) hx hb dX6_joins_43 (by decide) (fun c11 => ?_) (fun c11 => ?_)
      · have h12 := ieS c11 h10
        clear h10 c11
        refine lv_iconst (v := 0) hx hb dX6_joins_50 (by decide) ?_
        have q14 := tup1_s h12
        clear h12
        exact hret _ () _ _ _ _ q14 rfl hV dX6_joins_51
      · have h13 := itS c11 h10
        clear h10 c11
        refine lv_iconst (v := 1) hx hb dX6_joins_46 (by decide) ?_
        refine lv_goto (tgt := 51) hx hb dX6_joins_47 (by decide) ?_
        have q15 := tup1_s h13
        clear h13
        exact hret _ () _ _ _ _ q15 rfl hV dX6_joins_51
    · have h16 := ieS c9 h8
      clear h8
      by_cases c17 : p1 = 2
      · have h18 := itS c17 h16
        refine lv_tableIn (tgt := 52) (off := 51) hx hb dX6_joins_1 (by rw [c17]; decide) (by rw [c17]; decide) (by rw [c17]; decide) (by decide) ?_
        clear h16
        refine lv_iload_n hx hb dX6_joins_52 rfl (lv_at hl 1 rfl) ?_
        refine lv_bipush (v := 43) hx hb dX6_joins_53 (by decide) ?_
        refine lv_icmp_eq (tgt := 64) hx hb dX6_joins_55 (by decide) (fun c19 => ?_) (fun c19 => ?_)
        · have h20 := itS c19 h18
          clear h18 c19
          refine lv_iconst (v := 1) hx hb dX6_joins_64 (by decide) ?_
          refine lv_goto (tgt := 69) hx hb dX6_joins_65 (by decide) ?_
          have q22 := tup1_s h20
          clear h20
          exact hret _ () _ _ _ _ q22 rfl hV dX6_joins_69
        · have h21 := ieS c19 h18
          clear h18 c19
          refine lv_iload_n hx hb dX6_joins_58 rfl (lv_at hl 1 rfl) ?_
          refine lv_bipush (v := 45) hx hb dX6_joins_59 (by decide) ?_
          refine lv_icmp_ne (tgt := 68) hx hb dX6_joins_61 (by decide) (fun c23 => ?_) (fun c23 => ?_)
          · have h24 := ieS c23 h21
            clear h21 c23
            refine lv_iconst (v := 0) hx hb dX6_joins_68 (by decide) ?_
            have q26 := tup1_s h24
            clear h24
            exact hret _ () _ _ _ _ q26 rfl hV dX6_joins_69
          · have h25 := itS c23 h21
            clear h21 c23
            refine lv_iconst (v := 1) hx hb dX6_joins_64 (by decide) ?_
            refine lv_goto (tgt := 69) hx hb dX6_joins_65 (by decide) ?_
            have q27 := tup1_s h25
            clear h25
            exact hret _ () _ _ _ _ q27 rfl hV dX6_joins_69
      · have h28 := ieS c17 h16
        clear h16
        refine lv_tableOut (tgt := 70) hx hb dX6_joins_1 (by have ec1 : ¬ p1.toInt = 0 := fun q => c1 (Int32.toInt_inj.mp (q.trans (by decide))); have ec9 : ¬ p1.toInt = 1 := fun q => c9 (Int32.toInt_inj.mp (q.trans (by decide))); have ec17 : ¬ p1.toInt = 2 := fun q => c17 (Int32.toInt_inj.mp (q.trans (by decide))); omega) (by decide) ?_
        refine lv_iload_n hx hb dX6_joins_70 rfl (lv_at hl 1 rfl) ?_
        refine lv_bipush (v := 42) hx hb dX6_joins_71 (by decide) ?_
        refine lv_icmp_eq (tgt := 88) hx hb dX6_joins_73 (by decide) (fun c29 => ?_) (fun c29 => ?_)
        · have h30 := itS c29 h28
          clear h28 c29
          refine lv_iconst (v := 1) hx hb dX6_joins_88 (by decide) ?_
          refine lv_goto (tgt := 93) hx hb dX6_joins_89 (by decide) ?_
          have q32 := tup1_s h30
          clear h30
          exact hret _ () _ _ _ _ q32 rfl hV dX6_joins_93
        · have h31 := ieS c29 h28
          clear h28 c29
          refine lv_iload_n hx hb dX6_joins_76 rfl (lv_at hl 1 rfl) ?_
          refine lv_bipush (v := 47) hx hb dX6_joins_77 (by decide) ?_
          refine lv_icmp_eq (tgt := 88) hx hb dX6_joins_79 (by decide) (fun c33 => ?_) (fun c33 => ?_)
          · have h34 := itS c33 h31
            clear h31 c33
            refine lv_iconst (v := 1) hx hb dX6_joins_88 (by decide) ?_
            refine lv_goto (tgt := 93) hx hb dX6_joins_89 (by decide) ?_
            have q36 := tup1_s h34
            clear h34
            exact hret _ () _ _ _ _ q36 rfl hV dX6_joins_93
          · have h35 := ieS c33 h31
            clear h31 c33
            refine lv_iload_n hx hb dX6_joins_82 rfl (lv_at hl 1 rfl) ?_
            refine lv_bipush (v := 37) hx hb dX6_joins_83 (by decide) ?_
            refine lv_icmp_ne (tgt := 92) hx hb dX6_joins_85 (by decide) (fun c37 => ?_) (fun c37 => ?_)
            · have h38 := ieS c37 h35
              clear h35 c37
              refine lv_iconst (v := 0) hx hb dX6_joins_92 (by decide) ?_
              have q40 := tup1_s h38
              clear h38
              exact hret _ () _ _ _ _ q40 rfl hV dX6_joins_93
            · have h39 := itS c37 h35
              clear h35 c37
              refine lv_iconst (v := 1) hx hb dX6_joins_88 (by decide) ?_
              refine lv_goto (tgt := 93) hx hb dX6_joins_89 (by decide) ?_
              have q41 := tup1_s h39
              clear h39
              exact hret _ () _ _ _ _ q41 rfl hV dX6_joins_93
noncomputable def f_X6_isDigit (p1 : Int32) : Option (Int32) :=
    if p1 < 48 then
    (some (0))
    else
    (if 57 < p1 then
      (some (0))
      else
      (some (1)))
abbrev r_X6_isDigit : Room := { frames := 0, cells := 0, slots := 0, locals := 0 }
set_option maxHeartbeats 4000000 in
set_option maxRecDepth 100000 in
theorem c_X6_isDigit (l : Launch) (E : kE) (sz : Nat) (p1 : Int32) (r : Int32) (h : f_X6_isDigit p1 = some (r)) : kMi l yX6_isDigit cX6_isDigit 1 (some .boolean) r_X6_isDigit [.int p1] E [] sz 0 0 (fun x (_ : Unit) => x = r) (fun _ => []) := by
  refine kmeti rfl (Nat.le_of_ble_eq_true rfl) ?_
  intro p e s m args below meth c ls A Q X hV hret hl
  have X : kC p s m c cX6_isDigit 1 RX6 args E A := X
  have hx := X.1
  have hb := X.2.1
  have hl : lv_has ls 1 [(0, .int p1)] := hl
  rw [f_X6_isDigit] at h
  refine lv_iload_n hx hb dX6_isDigit_0 rfl (lv_at hl 0 rfl) ?_
  refine lv_bipush (v := 48) hx hb dX6_isDigit_1 (by decide) ?_
  refine lv_icmp_lt (tgt := 16) hx hb dX6_isDigit_3 (by decide) (fun c1 => ?_) (fun c1 => ?_)
  · have h2 := itS c1 h
    clear h c1
    refine lv_iconst (v := 0) hx hb dX6_isDigit_16 (by decide) ?_
    have q4 := tup1_s h2
    clear h2
    exact hret _ () _ _ _ _ q4 rfl hV dX6_isDigit_17
  · have h3 := ieS c1 h
    clear h c1
    refine lv_iload_n hx hb dX6_isDigit_6 rfl (lv_at hl 0 rfl) ?_
    refine lv_bipush (v := 57) hx hb dX6_isDigit_7 (by decide) ?_
    refine lv_icmp_gt (tgt := 16) hx hb dX6_isDigit_9 (by decide) (fun c5 => ?_) (fun c5 => ?_)
    · have h6 := itS c5 h3
      clear h3 c5
      refine lv_iconst (v := 0) hx hb dX6_isDigit_16 (by decide) ?_
      have q8 := tup1_s h6
      clear h6
      exact hret _ () _ _ _ _ q8 rfl hV dX6_isDigit_17
    · have h7 := ieS c5 h3
      clear h3 c5
      refine lv_iconst (v := 1) hx hb dX6_isDigit_12 (by decide) ?_
      refine lv_goto (tgt := 17) hx hb dX6_isDigit_13 (by decide) ?_
      have q9 := tup1_s h7
      clear h7
      exact hret _ () _ _ _ _ q9 rfl hV dX6_isDigit_17
noncomputable def f_X6_numberStands_J48 (s_length : Int32) (s_used : Int32) (s_fault : Int32) (n_this_bytes : Nat) (s_bytes : Nat → Int32) (s_code : Nat → Int32)  (x1_3 : Int32) (at__4 : Int32) : Option (Int32 × Int32 × Int32 × Int32 × (Nat → Int32)) :=
    cb1 (f_X6_next n_this_bytes s_length at__4 s_bytes) fun r49_5 =>
    cb1 (f_X6_isDigit r49_5) fun r52_10 =>
    if r52_10 = 0 then
    (cb2 (f_X6_put s_used s_code 48 x1_3) fun o_used68_18 o_code68_19 =>
      some (1, at__4, o_used68_18, s_fault, o_code68_19))
    else
    (cb2 (f_X6_fail s_fault 2) fun r60_29 o_fault60_30 =>
      bo r60_29 <|
      some (r60_29, at__4, s_used, o_fault60_30, s_code))
noncomputable def f_X6_numberStands_L4 (s_length : Int32) (n_this_bytes : Nat) (s_bytes : Nat → Int32) (K48 : Int32 → Int32 → Option (Int32 × Int32 × Int32 × Int32 × (Nat → Int32))) : Nat → Int32 → Int32 → Int32 → Option (Int32 × Int32 × Int32 × Int32 × (Nat → Int32))
  | 0, _, _, _ => none
  | n4 + 1, x1_42, x2_43, at__44 =>
    if 5 ≤ x2_43 then
    (K48 x1_42 at__44)
    else
    (cb1 (f_X6_next n_this_bytes s_length at__44 s_bytes) fun r10_48 =>
      cb1 (f_X6_isDigit r10_48) fun r13_53 =>
      if r13_53 = 0 then
      (K48 x1_42 at__44)
      else
      (cb1 (f_X6_next n_this_bytes s_length at__44 s_bytes) fun r24_61 =>
        nmI (((10 * x1_42) + r24_61) - 48) fun v31_66 =>
        nmI (at__44 + 1) fun v39_70 =>
        nmI (x2_43 + 1) fun v42_74 =>
        (f_X6_numberStands_L4 s_length n_this_bytes s_bytes K48 n4) v31_66 v42_74 v39_70))
noncomputable def f_X6_numberStands (n_this_bytes : Nat) (s_length : Int32) (s_at : Int32) (s_used : Int32) (s_fault : Int32) (s_bytes : Nat → Int32) (s_code : Nat → Int32) : Option (Int32 × Int32 × Int32 × Int32 × (Nat → Int32)) :=
    (f_X6_numberStands_L4 s_length n_this_bytes s_bytes (f_X6_numberStands_J48 s_length s_used s_fault n_this_bytes s_bytes s_code ) FU) 0 0 s_at
abbrev r_X6_numberStands : Room := { frames := 1, cells := 0, slots := 0, locals := 22 }
set_option maxHeartbeats 4000000 in
set_option maxRecDepth 100000 in
theorem c_X6_numberStands (l : Launch) (E : kE) (sz : Nat) (a0 a1 a2 : Nat) (w0_1 w0_2 : Value) (n_this_bytes : Nat) (s_length : Int32) (s_at : Int32) (s_used : Int32) (s_fault : Int32) (s_bytes : Nat → Int32) (s_code : Nat → Int32) (r : Int32) (o_at : Int32) (o_used : Int32) (o_fault : Int32) (o_code : Nat → Int32) (h : f_X6_numberStands n_this_bytes s_length s_at s_used s_fault s_bytes s_code = some (r, o_at, o_used, o_fault, o_code)) : kMi l yX6_numberStands cX6_numberStands 3 (some .boolean) r_X6_numberStands [.ref a0] E [(a0, .inr (6, [.ref a2, w0_1, w0_2, .ref a1, .int s_length, .int s_at, .int s_used, .int s_fault])), (a1, .inl (E.2 0, n_this_bytes, .inl s_bytes)), (a2, .inl (E.2 0, 120, .inl s_code))] sz 0 0 (fun x (_ : Unit) => x = r) (fun _ => [(a0, .inr (6, [.ref a2, w0_1, w0_2, .ref a1, .int s_length, .int o_at, .int o_used, .int o_fault])), (a1, .inl (E.2 0, n_this_bytes, .inl s_bytes)), (a2, .inl (E.2 0, 120, .inl o_code))]) := by
  refine kmeti rfl (Nat.le_of_ble_eq_true rfl) ?_
  intro p e s m args below meth c ls A Q X hV hret hl
  have X : kC p s m c cX6_numberStands 3 RX6 args E A := X
  have hx := X.1
  have hb := X.2.1
  have hl : lv_has ls 3 [(0, .ref a0)] := hl
  rw [f_X6_numberStands] at h
  refine lv_iconst (v := 0) hx hb dX6_numberStands_0 (by decide) ?_
  refine lv_istore_n (lv' := [(1, .int 0), (0, .ref a0)]) hx hb dX6_numberStands_1 rfl hl (by decide) rfl (fun ls hl1 => ?_)
  clear hl
  refine lv_iconst (v := 0) hx hb dX6_numberStands_2 (by decide) ?_
  refine lv_istore_n (lv' := [(2, .int 0), (1, .int 0), (0, .ref a0)]) hx hb dX6_numberStands_3 rfl hl1 (by decide) rfl (fun ls hl2 => ?_)
  clear hl1
  have J48 : ∀ (x1_3 : Int32) (at__4 : Int32) (H : Heap) (locs : List Loc) (ls : Array Slot), (f_X6_numberStands_J48 s_length s_used s_fault n_this_bytes s_bytes s_code ) x1_3 at__4 = some (r, o_at, o_used, o_fault, o_code) → kV E A s.heap H locs [(a0, .inr (6, [.ref a2, w0_1, w0_2, .ref a1, .int s_length, .int at__4, .int s_used, .int s_fault])), (a1, .inl (E.2 0, n_this_bytes, .inl s_bytes)), (a2, .inl (E.2 0, 120, .inl s_code))] → lv_has ls 3 [(0, .ref a0), (1, .int x1_3)] → W p l e r_X6_numberStands s m args below meth c H locs 0 0 Q (F0 m 48 ls []) := by
    intro x1_3 at__4 H locs ls hB48 hVB48 hlB48
    rw [f_X6_numberStands_J48] at hB48
    refine lv_aload_n hx hb dX6_numberStands_48 rfl (lv_at hlB48 0 rfl) ?_
    obtain ⟨r49_5, hc6, h7⟩ := cb1_s hB48
    clear hB48
    refine kgoiE (krunV (rest := []) X hVB48 [0, 1] (c_X6_next l E _ a0 a1 (.ref a2) (w0_1) (w0_2) (.int s_used) (.int s_fault) n_this_bytes s_length at__4 s_bytes r49_5 hc6) mw_291 kb_X6_next (ci := 6) rfl rfl (by decide) rfl rfl hlB48.1 rfl (Nat.le_of_ble_eq_true rfl) dX6_numberStands_49 (by decide)) X hVB48 [0, 1] [2] rfl rfl rfl (by decide) (fun u H locs hV8 => ?_)
    have hV8 : kV E A s.heap H locs [(a0, .inr (6, [.ref a2, w0_1, w0_2, .ref a1, .int s_length, .int at__4, .int s_used, .int s_fault])), (a1, .inl (E.2 0, n_this_bytes, .inl s_bytes)), (a2, .inl (E.2 0, 120, .inl s_code))] := hV8.sub [1, 2, 0] rfl rfl
    clear hVB48
    obtain ⟨r52_10, hc11, h12⟩ := cb1_s h7
    clear h7
    refine kgoiE (krunS (rest := []) X hV8 [] (c_X6_isDigit l E _ r49_5 r52_10 hc11) mw_318 kb_X6_isDigit (by decide) rfl rfl hlB48.1 rfl (Nat.le_of_ble_eq_true rfl) dX6_numberStands_52 (by decide)) X hV8 [] [0, 1, 2] rfl rfl rfl (by decide) (fun u H locs hV13 => ?_)
    have hV13 : kV E A s.heap H locs [(a0, .inr (6, [.ref a2, w0_1, w0_2, .ref a1, .int s_length, .int at__4, .int s_used, .int s_fault])), (a1, .inl (E.2 0, n_this_bytes, .inl s_bytes)), (a2, .inl (E.2 0, 120, .inl s_code))] := hV13.sub [0, 1, 2] rfl rfl
    clear hV8
    refine lv_if_eq (tgt := 64) hx hb dX6_numberStands_55 (by decide) (fun c15 => ?_) (fun c15 => ?_)
    · have h16 := itS c15 h12
      clear h12 c15
      refine lv_aload_n hx hb dX6_numberStands_64 rfl (lv_at hlB48 0 rfl) ?_
      refine lv_bipush (v := 48) hx hb dX6_numberStands_65 (by decide) ?_
      refine lv_iload_n hx hb dX6_numberStands_67 rfl (lv_at hlB48 1 rfl) ?_
      obtain ⟨o_used68_18, o_code68_19, hc20, h21⟩ := cb2_s h16
      clear h16
      refine kgov (krunV (rest := []) X hV13 [0, 2] (c_X6_put l E _ a0 a2 (w0_1) (w0_2) (.ref a1) (.int s_length) (.int at__4) (.int s_fault) s_used s_code 48 x1_3 o_used68_18 o_code68_19 hc20) mw_309 kb_X6_put (ci := 6) rfl rfl (by decide) rfl rfl hlB48.1 rfl (Nat.le_of_ble_eq_true rfl) dX6_numberStands_68 (by decide)) X hV13 [0, 2] [1] rfl rfl rfl (by decide) (fun u H locs hp23 hV22 => ?_)
      have hV22 : kV E A s.heap H locs [(a0, .inr (6, [.ref a2, w0_1, w0_2, .ref a1, .int s_length, .int at__4, .int o_used68_18, .int s_fault])), (a1, .inl (E.2 0, n_this_bytes, .inl s_bytes)), (a2, .inl (E.2 0, 120, .inl o_code68_19))] := hV22.sub [1, 0, 2] rfl rfl
      clear hV13
      refine lv_iconst (v := 1) hx hb dX6_numberStands_71 (by decide) ?_
      obtain ⟨q24, q25, q26, q27, q28⟩ := tup5_s h21
      clear h21
      exact hret _ () _ _ _ _ q24 rfl (by rw [← q25, ← q26, ← q27, ← q28]; exact hV22) dX6_numberStands_72
    · have h17 := ieS c15 h12
      clear h12 c15
      refine lv_aload_n hx hb dX6_numberStands_58 rfl (lv_at hlB48 0 rfl) ?_
      refine lv_iconst (v := 2) hx hb dX6_numberStands_59 (by decide) ?_
      obtain ⟨r60_29, o_fault60_30, hc31, h32⟩ := cb2_s h17
      clear h17
      refine kgoiE (krunV (rest := []) X hV13 [0] (c_X6_fail l E _ a0 (.ref a2) (w0_1) (w0_2) (.ref a1) (.int s_length) (.int at__4) (.int s_used) s_fault 2 r60_29 o_fault60_30 hc31) mw_295 kb_X6_fail (ci := 6) rfl rfl (by decide) rfl rfl hlB48.1 rfl (Nat.le_of_ble_eq_true rfl) dX6_numberStands_60 (by decide)) X hV13 [0] [1, 2] rfl rfl rfl (by decide) (fun u H locs hV33 => ?_)
      have hV33 : kV E A s.heap H locs [(a0, .inr (6, [.ref a2, w0_1, w0_2, .ref a1, .int s_length, .int at__4, .int s_used, .int o_fault60_30])), (a1, .inl (E.2 0, n_this_bytes, .inl s_bytes)), (a2, .inl (E.2 0, 120, .inl s_code))] := hV33.sub [2, 0, 1] rfl rfl
      clear hV13
      obtain ⟨hb35, h36⟩ := bo_s h32
      clear h32
      obtain ⟨q37, q38, q39, q40, q41⟩ := tup5_s h36
      clear h36
      exact hret _ () _ _ _ _ q37 hb35 (by rw [← q38, ← q39, ← q40, ← q41]; exact hV33) dX6_numberStands_63
  have L4 : ∀ (n4 : Nat) (x1_42 : Int32) (x2_43 : Int32) (at__44 : Int32) (H : Heap) (locs : List Loc) (ls : Array Slot), (f_X6_numberStands_L4 s_length n_this_bytes s_bytes (f_X6_numberStands_J48 s_length s_used s_fault n_this_bytes s_bytes s_code ) n4) x1_42 x2_43 at__44 = some (r, o_at, o_used, o_fault, o_code) → kV E A s.heap H locs [(a0, .inr (6, [.ref a2, w0_1, w0_2, .ref a1, .int s_length, .int at__44, .int s_used, .int s_fault])), (a1, .inl (E.2 0, n_this_bytes, .inl s_bytes)), (a2, .inl (E.2 0, 120, .inl s_code))] → lv_has ls 3 [(0, .ref a0), (1, .int x1_42), (2, .int x2_43)] → W p l e r_X6_numberStands s m args below meth c H locs 0 0 Q (F0 m 4 ls []) := by
    intro n4
    induction n4 with
    | zero =>
      intro x1_42 x2_43 at__44 H locs ls hB4 hVB4 hlB4
      rw [f_X6_numberStands_L4] at hB4
      exact nomatch hB4
    | succ n4 ih4 =>
      intro x1_42 x2_43 at__44 H locs ls hB4 hVB4 hlB4
      rw [f_X6_numberStands_L4] at hB4
      refine lv_iload_n hx hb dX6_numberStands_4 rfl (lv_at hlB4 2 rfl) ?_
      refine lv_iconst (v := 5) hx hb dX6_numberStands_5 (by decide) ?_
      refine lv_icmp_ge (tgt := 48) hx hb dX6_numberStands_6 (by decide) (fun c45 => ?_) (fun c45 => ?_)
      · have h46 := itS c45 hB4
        clear hB4 c45
        exact J48 x1_42 at__44 _ _ _ h46 hVB4 (lv_sub hlB4 [0, 1] rfl)
      · have h47 := ieS c45 hB4
        clear hB4 c45
        refine lv_aload_n hx hb dX6_numberStands_9 rfl (lv_at hlB4 0 rfl) ?_
        obtain ⟨r10_48, hc49, h50⟩ := cb1_s h47
        clear h47
        refine kgoiE (krunV (rest := []) X hVB4 [0, 1] (c_X6_next l E _ a0 a1 (.ref a2) (w0_1) (w0_2) (.int s_used) (.int s_fault) n_this_bytes s_length at__44 s_bytes r10_48 hc49) mw_291 kb_X6_next (ci := 6) rfl rfl (by decide) rfl rfl hlB4.1 rfl (Nat.le_of_ble_eq_true rfl) dX6_numberStands_10 (by decide)) X hVB4 [0, 1] [2] rfl rfl rfl (by decide) (fun u H locs hV51 => ?_)
        have hV51 : kV E A s.heap H locs [(a0, .inr (6, [.ref a2, w0_1, w0_2, .ref a1, .int s_length, .int at__44, .int s_used, .int s_fault])), (a1, .inl (E.2 0, n_this_bytes, .inl s_bytes)), (a2, .inl (E.2 0, 120, .inl s_code))] := hV51.sub [1, 2, 0] rfl rfl
        clear hVB4
        obtain ⟨r13_53, hc54, h55⟩ := cb1_s h50
        clear h50
        refine kgoiE (krunS (rest := []) X hV51 [] (c_X6_isDigit l E _ r10_48 r13_53 hc54) mw_318 kb_X6_isDigit (by decide) rfl rfl hlB4.1 rfl (Nat.le_of_ble_eq_true rfl) dX6_numberStands_13 (by decide)) X hV51 [] [0, 1, 2] rfl rfl rfl (by decide) (fun u H locs hV56 => ?_)
        have hV56 : kV E A s.heap H locs [(a0, .inr (6, [.ref a2, w0_1, w0_2, .ref a1, .int s_length, .int at__44, .int s_used, .int s_fault])), (a1, .inl (E.2 0, n_this_bytes, .inl s_bytes)), (a2, .inl (E.2 0, 120, .inl s_code))] := hV56.sub [0, 1, 2] rfl rfl
        clear hV51
        refine lv_if_eq (tgt := 48) hx hb dX6_numberStands_16 (by decide) (fun c58 => ?_) (fun c58 => ?_)
        · have h59 := itS c58 h55
          clear h55 c58
          exact J48 x1_42 at__44 _ _ _ h59 hV56 (lv_sub hlB4 [0, 1] rfl)
        · have h60 := ieS c58 h55
          clear h55 c58
          refine lv_bipush (v := 10) hx hb dX6_numberStands_19 (by decide) ?_
          refine lv_iload_n hx hb dX6_numberStands_21 rfl (lv_at hlB4 1 rfl) ?_
          refine lv_imul hx hb dX6_numberStands_22 ?_
          refine lv_aload_n hx hb dX6_numberStands_23 rfl (lv_at hlB4 0 rfl) ?_
          obtain ⟨r24_61, hc62, h63⟩ := cb1_s h60
          clear h60
          refine kgoiE (krunV (rest := [.int (10 * x1_42)]) X hV56 [0, 1] (c_X6_next l E _ a0 a1 (.ref a2) (w0_1) (w0_2) (.int s_used) (.int s_fault) n_this_bytes s_length at__44 s_bytes r24_61 hc62) mw_291 kb_X6_next (ci := 6) rfl rfl (by decide) rfl rfl hlB4.1 rfl (Nat.le_of_ble_eq_true rfl) dX6_numberStands_24 (by decide)) X hV56 [0, 1] [2] rfl rfl rfl (by decide) (fun u H locs hV64 => ?_)
          have hV64 : kV E A s.heap H locs [(a0, .inr (6, [.ref a2, w0_1, w0_2, .ref a1, .int s_length, .int at__44, .int s_used, .int s_fault])), (a1, .inl (E.2 0, n_this_bytes, .inl s_bytes)), (a2, .inl (E.2 0, 120, .inl s_code))] := hV64.sub [1, 2, 0] rfl rfl
          clear hV56
          refine lv_iadd hx hb dX6_numberStands_27 ?_
          refine lv_bipush (v := 48) hx hb dX6_numberStands_28 (by decide) ?_
          refine lv_isub hx hb dX6_numberStands_30 ?_
          obtain ⟨v31_66, e67, h68⟩ := nmI_s h63
          clear h63
          refine ktopi e67 ?_
          clear e67
          refine lv_istore_n (lv' := [(1, .int v31_66), (0, .ref a0), (2, .int x2_43)]) hx hb dX6_numberStands_31 rfl hlB4 (by decide) rfl (fun ls hl69 => ?_)
          clear hlB4
          refine lv_aload_n hx hb dX6_numberStands_32 rfl (lv_at hl69 1 rfl) ?_
          refine lv_dup hx hb dX6_numberStands_33 rfl ?_
          refine kget X hV64 (ci := 6) inlX6 rfl 0 rfl 5 (by decide) mw_62 rfl dX6_numberStands_34 ?_
          refine lv_iconst (v := 1) hx hb dX6_numberStands_37 (by decide) ?_
          refine lv_iadd hx hb dX6_numberStands_38 ?_
          obtain ⟨v39_70, e71, h72⟩ := nmI_s h68
          clear h68
          refine ktopi e71 ?_
          clear e71
          refine kput X hV64 (ci := 6) inlX6 rfl tyX6 tyX6_ok nmX6 0 rfl 5 (by decide) mw_62 rfl rfl rfl (Nat.le_of_ble_eq_true rfl) dX6_numberStands_39 (fun H locs hV73 => ?_)
          have hV73 : kV E A s.heap H locs [(a0, .inr (6, [.ref a2, w0_1, w0_2, .ref a1, .int s_length, .int v39_70, .int s_used, .int s_fault])), (a1, .inl (E.2 0, n_this_bytes, .inl s_bytes)), (a2, .inl (E.2 0, 120, .inl s_code))] := hV73
          clear hV64
          obtain ⟨v42_74, e75, h76⟩ := nmI_s h72
          clear h72
          refine lv_iinc (v := v42_74) (lv' := [(2, .int v42_74), (1, .int v31_66), (0, .ref a0)]) hx hb dX6_numberStands_42 hl69 (k := 2) rfl (by rw [e75]; rfl) (by decide) rfl (fun ls hl77 => ?_)
          clear hl69 e75
          refine lv_goto (tgt := 4) hx hb dX6_numberStands_45 (by decide) ?_
          exact ih4 v31_66 v42_74 v39_70 _ _ _ h76 hV73 (lv_sub hl77 [2, 1, 0] rfl)
  exact L4 FU 0 0 s_at _ _ _ h hV (lv_sub hl2 [2, 1, 0] rfl)
noncomputable def f_X6_faultCode (s_at : Int32) (s_fault : Int32) : Option (Int32) :=
    some ((((-1000) * s_fault) - s_at))
abbrev r_X6_faultCode : Room := { frames := 0, cells := 0, slots := 0, locals := 0 }
set_option maxHeartbeats 4000000 in
set_option maxRecDepth 100000 in
theorem c_X6_faultCode (l : Launch) (E : kE) (sz : Nat) (a0 : Nat) (w0_0 w0_1 w0_2 w0_3 w0_4 w0_6 : Value) (s_at : Int32) (s_fault : Int32) (r : Int32) (h : f_X6_faultCode s_at s_fault = some (r)) : kMi l yX6_faultCode cX6_faultCode 1 (some .int) r_X6_faultCode [.ref a0] E [(a0, .inr (6, [w0_0, w0_1, w0_2, w0_3, w0_4, .int s_at, w0_6, .int s_fault]))] sz 0 0 (fun x (_ : Unit) => x = r) (fun _ => [(a0, .inr (6, [w0_0, w0_1, w0_2, w0_3, w0_4, .int s_at, w0_6, .int s_fault]))]) := by
  refine kmeti rfl (Nat.le_of_ble_eq_true rfl) ?_
  intro p e s m args below meth c ls A Q X hV hret hl
  have X : kC p s m c cX6_faultCode 1 RX6 args E A := X
  have hx := X.1
  have hb := X.2.1
  have hl : lv_has ls 1 [(0, .ref a0)] := hl
  rw [f_X6_faultCode] at h
  refine lv_sipush (v := (-1000)) hx hb dX6_faultCode_0 (by decide) ?_
  refine lv_aload_n hx hb dX6_faultCode_3 rfl (lv_at hl 0 rfl) ?_
  refine kget X hV (ci := 6) inlX6 rfl 0 rfl 7 (by decide) mw_64 rfl dX6_faultCode_4 ?_
  refine lv_imul hx hb dX6_faultCode_7 ?_
  refine lv_aload_n hx hb dX6_faultCode_8 rfl (lv_at hl 0 rfl) ?_
  refine kget X hV (ci := 6) inlX6 rfl 0 rfl 5 (by decide) mw_62 rfl dX6_faultCode_9 ?_
  refine lv_isub hx hb dX6_faultCode_12 ?_
  have q1 := tup1_s h
  clear h
  exact hret _ () _ _ _ _ q1 rfl hV dX6_faultCode_13
