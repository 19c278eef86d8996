abbrev r_X1_choices : Room := { frames := 0, cells := 0, slots := 0, locals := 0 }
set_option maxHeartbeats 4000000 in
set_option maxRecDepth 100000 in
theorem c_X1_choices (l : Launch) (E : kE) (sz : Nat) (p1 : Int32) (p2 : Int32) (r : Int64) (h : f_X1_choices p1 p2 = some (r)) : kMl l yX1_choices cX1_choices 5 (some .long) r_X1_choices [.int p1, .int p2] E [] sz 0 0 (fun x (_ : Unit) => x = r) (fun _ => []) := by
  refine kmetl rfl (Nat.le_of_ble_eq_true rfl) ?_
  intro p e s m args below meth c ls A Q X hV hret hl
  have X : kC p s m c cX1_choices 5 RX1 args E A := X
  have hx := X.1
  have hb := X.2.1
  have hl : lv_has ls 5 [(0, .int p1), (1, .int p2)] := hl
  rw [f_X1_choices] at h
  refine lv_lconst (v := 1) hx hb dX1_choices_0 (by decide) ?_
  refine lv_lstore_n (lv' := [(2, .long 1), (0, .int p1), (1, .int p2)]) hx hb dX1_choices_1 rfl hl (by decide) rfl (fun ls hl1 => ?_)
  clear hl
  refine lv_iconst (v := 1) hx hb dX1_choices_2 (by decide) ?_
  refine lv_istore (lv' := [(4, .int 1), (2, .long 1), (0, .int p1), (1, .int p2)]) hx hb dX1_choices_3 hl1 (by decide) rfl (fun ls hl2 => ?_)
  clear hl1
  have L5 : ∀ (n5 : Nat) (x2_3 : Int64) (x4_4 : Int32) (H : Heap) (locs : List Loc) (ls : Array Slot), (f_X1_choices_L5 p1 p2  n5) x2_3 x4_4 = some (r) → kV E A s.heap H locs [] → lv_has ls 5 [(0, .int p1), (1, .int p2), (2, .long x2_3), (4, .int x4_4)] → W p l e r_X1_choices s m args below meth c H locs 0 0 Q (F0 m 5 ls []) := by
    intro n5
    induction n5 with
    | zero =>
      intro x2_3 x4_4 H locs ls hB5 hVB5 hlB5
      rw [f_X1_choices_L5] at hB5
      exact nomatch hB5
    | succ n5 ih5 =>
      intro x2_3 x4_4 H locs ls hB5 hVB5 hlB5
      rw [f_X1_choices_L5] at hB5
      refine lv_iload hx hb dX1_choices_5 (lv_at hlB5 3 rfl) ?_
      refine lv_iload_n hx hb dX1_choices_7 rfl (lv_at hlB5 1 rfl) ?_
      refine lv_icmp_gt (tgt := 31) hx hb dX1_choices_8 (by decide) (fun c5 => ?_) (fun c5 => ?_)
      · have h6 := itS c5 hB5
        clear hB5 c5
        refine lv_lload_n hx hb dX1_choices_31 rfl (lv_at hlB5 2 rfl) ?_
        have q8 := tup1_s h6
        clear h6
        exact hret _ () _ _ _ _ q8 hVB5 dX1_choices_32
      · have h7 := ieS c5 hB5
        clear hB5 c5
        refine lv_lload_n hx hb dX1_choices_11 rfl (lv_at hlB5 2 rfl) ?_
        refine lv_iload_n hx hb dX1_choices_12 rfl (lv_at hlB5 0 rfl) ?_
        refine lv_iload_n hx hb dX1_choices_13 rfl (lv_at hlB5 1 rfl) ?_
        refine lv_isub hx hb dX1_choices_14 ?_
        refine lv_iload hx hb dX1_choices_15 (lv_at hlB5 3 rfl) ?_
        refine lv_iadd hx hb dX1_choices_17 ?_
        refine lv_i2l (v := Int32.toInt64 ((p1 - p2) + x4_4)) hx hb dX1_choices_18 rfl ?_
        refine lv_lmul hx hb dX1_choices_19 ?_
        refine lv_iload hx hb dX1_choices_20 (lv_at hlB5 3 rfl) ?_
        refine lv_i2l (v := Int32.toInt64 x4_4) hx hb dX1_choices_22 rfl ?_
        obtain ⟨hn9, h10⟩ := dvL_s h7
        clear h7
        refine lv_ldiv hx hb dX1_choices_23 hn9 ?_
        obtain ⟨v24_11, e12, h13⟩ := nmL_s h10
        clear h10
        refine ktopl e12 ?_
        clear e12
        refine lv_lstore_n (lv' := [(2, .long v24_11), (0, .int p1), (1, .int p2), (4, .int x4_4)]) hx hb dX1_choices_24 rfl hlB5 (by decide) rfl (fun ls hl14 => ?_)
        clear hlB5
        obtain ⟨v25_15, e16, h17⟩ := nmI_s h13
        clear h13
        refine lv_iinc (v := v25_15) (lv' := [(4, .int v25_15), (2, .long v24_11), (0, .int p1), (1, .int p2)]) hx hb dX1_choices_25 hl14 (k := 3) rfl (by rw [e16]; rfl) (by decide) rfl (fun ls hl18 => ?_)
        clear hl14 e16
        refine lv_goto (tgt := 5) hx hb dX1_choices_28 (by decide) ?_
        exact ih5 v24_11 v25_15 _ _ _ h17 hVB5 (lv_sub hl18 [2, 3, 1, 0] rfl)
  exact L5 FU 1 1 _ _ _ h hV (lv_sub hl2 [2, 3, 1, 0] rfl)
abbrev r_X1_drawsWith : Room := { frames := 1, cells := 0, slots := 0, locals := 24 }
set_option maxHeartbeats 4000000 in
set_option maxRecDepth 100000 in
theorem c_X1_drawsWith (l : Launch) (E : kE) (sz : Nat) (p1 : Int32) (p2 : Int32) (p3 : Int32) (p4 : Int32) (r : Int64) (h : f_X1_drawsWith p1 p2 p3 p4 = some (r)) : kMl l yX1_drawsWith cX1_drawsWith 4 (some .long) r_X1_drawsWith [.int p1, .int p2, .int p3, .int p4] E [] sz 0 0 (fun x (_ : Unit) => x = r) (fun _ => []) := by
  refine kmetl rfl (Nat.le_of_ble_eq_true rfl) ?_
  intro p e s m args below meth c ls A Q X hV hret hl
  have X : kC p s m c cX1_drawsWith 4 RX1 args E A := X
  have hx := X.1
  have hb := X.2.1
  have hl : lv_has ls 4 [(0, .int p1), (1, .int p2), (2, .int p3), (3, .int p4)] := hl
  rw [f_X1_drawsWith] at h
  refine lv_iload_n hx hb dX1_drawsWith_0 rfl (lv_at hl 0 rfl) ?_
  refine lv_iload_n hx hb dX1_drawsWith_1 rfl (lv_at hl 2 rfl) ?_
  obtain ⟨r2_1, hc2, h3⟩ := cb1_s h
  clear h
  refine kgolE (krunS (rest := []) X hV [] (c_X1_choices l E _ p1 p3 r2_1 hc2) mw_1266 kb_X1_choices (by decide) rfl rfl hl.1 rfl (Nat.le_of_ble_eq_true rfl) dX1_drawsWith_2 (by decide)) X hV [] [] rfl rfl rfl (by decide) (fun u H locs hV4 => ?_)
  have hV4 : kV E A s.heap H locs [] := hV4.sub [] rfl rfl
  clear hV
  refine lv_iload_n hx hb dX1_drawsWith_5 rfl (lv_at hl 3 rfl) ?_
  refine lv_iload_n hx hb dX1_drawsWith_6 rfl (lv_at hl 0 rfl) ?_
  refine lv_isub hx hb dX1_drawsWith_7 ?_
  refine lv_iload_n hx hb dX1_drawsWith_8 rfl (lv_at hl 1 rfl) ?_
  refine lv_iload_n hx hb dX1_drawsWith_9 rfl (lv_at hl 2 rfl) ?_
  refine lv_isub hx hb dX1_drawsWith_10 ?_
  obtain ⟨r11_6, hc7, h8⟩ := cb1_s h3
  clear h3
  refine kgolE (krunS (rest := [.long r2_1]) X hV4 [] (c_X1_choices l E _ (p4 - p1) (p2 - p3) r11_6 hc7) mw_1266 kb_X1_choices (by decide) rfl rfl hl.1 rfl (Nat.le_of_ble_eq_true rfl) dX1_drawsWith_11 (by decide)) X hV4 [] [] rfl rfl rfl (by decide) (fun u H locs hV9 => ?_)
  have hV9 : kV E A s.heap H locs [] := hV9.sub [] rfl rfl
  clear hV4
  refine lv_lmul hx hb dX1_drawsWith_14 ?_
  have q11 := tup1_s h8
  clear h8
  exact hret _ () _ _ _ _ q11 hV9 dX1_drawsWith_15
abbrev r_X1_commonDivisor : Room := { frames := 1, cells := 0, slots := 0, locals := 23 }
set_option maxHeartbeats 4000000 in
set_option maxRecDepth 100000 in
theorem c_X1_commonDivisor (l : Launch) (E : kE) (sz : Nat) (p1 : Int64) (p2 : Int64) (r : Int64) (h : f_X1_commonDivisor p1 p2 = some (r)) : kMl l yX1_commonDivisor cX1_commonDivisor 11 (some .long) r_X1_commonDivisor [.long p1, .long p2] E [] sz 0 0 (fun x (_ : Unit) => x = r) (fun _ => []) := by
  refine kmetl rfl (Nat.le_of_ble_eq_true rfl) ?_
  intro p e s m args below meth c ls A Q X hV hret hl
  have X : kC p s m c cX1_commonDivisor 11 RX1 args E A := X
  have hx := X.1
  have hb := X.2.1
  have hl : lv_has ls 11 [(0, .long p1), (2, .long p2)] := hl
  rw [f_X1_commonDivisor] at h
  refine lv_lload_n hx hb dX1_commonDivisor_0 rfl (lv_at hl 0 rfl) ?_
  refine lv_lstore (lv' := [(4, .long p1), (0, .long p1), (2, .long p2)]) hx hb dX1_commonDivisor_1 hl (by decide) rfl (fun ls hl1 => ?_)
  clear hl
  refine lv_lload_n hx hb dX1_commonDivisor_3 rfl (lv_at hl1 2 rfl) ?_
  refine lv_lstore (lv' := [(6, .long p2), (4, .long p1), (0, .long p1), (2, .long p2)]) hx hb dX1_commonDivisor_4 hl1 (by decide) rfl (fun ls hl2 => ?_)
  clear hl1
  refine lv_iconst (v := 0) hx hb dX1_commonDivisor_6 (by decide) ?_
  refine lv_istore (lv' := [(8, .int 0), (6, .long p2), (4, .long p1), (0, .long p1), (2, .long p2)]) hx hb dX1_commonDivisor_7 hl2 (by decide) rfl (fun ls hl3 => ?_)
  clear hl2
  have J44 : ∀ (x4_4 : Int64) (H : Heap) (locs : List Loc) (ls : Array Slot), (f_X1_commonDivisor_J44  ) x4_4 = some (r) → kV E A s.heap H locs [] → lv_has ls 11 [(4, .long x4_4)] → W p l e r_X1_commonDivisor s m args below meth c H locs 0 0 Q (F0 m 44 ls []) := by
    intro x4_4 H locs ls hB44 hVB44 hlB44
    rw [f_X1_commonDivisor_J44] at hB44
    refine lv_lconst (v := 1) hx hb dX1_commonDivisor_44 (by decide) ?_
    refine lv_lload hx hb dX1_commonDivisor_45 (lv_at hlB44 0 rfl) ?_
    refine va_mmax_long hx hb (X.2.2.1.trans hlB44.1.symm) X.2.2.2.1 (X.2.2.2.2.1 _ mw_1273) (X.2.2.2.2.1 _ mw_1274) (X.2.2.2.2.1 _ mw_281) (X.2.2.2.2.1 _ mw_1275) (by decide) (Nat.le_of_ble_eq_true rfl) (by decide) (by decide) dX1_commonDivisor_47 ?_
    have q5 := tup1_s hB44
    clear hB44
    exact hret _ () _ _ _ _ q5 hVB44 dX1_commonDivisor_50
  have L9 : ∀ (n9 : Nat) (x4_6 : Int64) (x6_7 : Int64) (x8_8 : Int32) (H : Heap) (locs : List Loc) (ls : Array Slot), (f_X1_commonDivisor_L9  (f_X1_commonDivisor_J44  ) n9) x4_6 x6_7 x8_8 = some (r) → kV E A s.heap H locs [] → lv_has ls 11 [(4, .long x4_6), (6, .long x6_7), (8, .int x8_8)] → W p l e r_X1_commonDivisor s m args below meth c H locs 0 0 Q (F0 m 9 ls []) := by
    intro n9
    induction n9 with
    | zero =>
      intro x4_6 x6_7 x8_8 H locs ls hB9 hVB9 hlB9
      rw [f_X1_commonDivisor_L9] at hB9
      exact nomatch hB9
    | succ n9 ih9 =>
      intro x4_6 x6_7 x8_8 H locs ls hB9 hVB9 hlB9
      rw [f_X1_commonDivisor_L9] at hB9
      refine lv_iload hx hb dX1_commonDivisor_9 (lv_at hlB9 2 rfl) ?_
      refine lv_bipush (v := 100) hx hb dX1_commonDivisor_11 (by decide) ?_
      refine lv_icmp_ge (tgt := 44) hx hb dX1_commonDivisor_13 (by decide) (fun c9 => ?_) (fun c9 => ?_)
      · have h10 := itS c9 hB9
        clear hB9 c9
        exact J44 x4_6 _ _ _ h10 hVB9 (lv_sub hlB9 [0] rfl)
      · have h11 := ieS c9 hB9
        clear hB9 c9
        refine lv_lload hx hb dX1_commonDivisor_16 (lv_at hlB9 1 rfl) ?_
        refine lv_lconst (v := 0) hx hb dX1_commonDivisor_18 (by decide) ?_
        refine W.lcmp hx hb dX1_commonDivisor_19 ?_
        refine lv_if_eq (tgt := 44) hx hb dX1_commonDivisor_20 (by decide) (fun c12 => ?_) (fun c12 => ?_)
        · have h13 := itS c12 h11
          clear h11 c12
          exact J44 x4_6 _ _ _ h13 hVB9 (lv_sub hlB9 [0] rfl)
        · have h14 := ieS c12 h11
          clear h11 c12
          refine lv_lload hx hb dX1_commonDivisor_23 (lv_at hlB9 0 rfl) ?_
          refine lv_lload hx hb dX1_commonDivisor_25 (lv_at hlB9 1 rfl) ?_
          obtain ⟨hn15, h16⟩ := dvL_s h14
          clear h14
          refine lv_lrem hx hb dX1_commonDivisor_27 hn15 ?_
          obtain ⟨v28_17, e18, h19⟩ := nmL_s h16
          clear h16
          refine ktopl e18 ?_
          clear e18
          refine lv_lstore (lv' := [(9, .long v28_17), (4, .long x4_6), (6, .long x6_7), (8, .int x8_8)]) hx hb dX1_commonDivisor_28 hlB9 (by decide) rfl (fun ls hl20 => ?_)
          clear hlB9
          refine lv_lload hx hb dX1_commonDivisor_30 (lv_at hl20 2 rfl) ?_
          refine lv_lstore (lv' := [(4, .long x6_7), (9, .long v28_17), (6, .long x6_7), (8, .int x8_8)]) hx hb dX1_commonDivisor_32 hl20 (by decide) rfl (fun ls hl21 => ?_)
          clear hl20
          refine lv_lload hx hb dX1_commonDivisor_34 (lv_at hl21 1 rfl) ?_
          refine lv_lstore (lv' := [(6, .long v28_17), (4, .long x6_7), (9, .long v28_17), (8, .int x8_8)]) hx hb dX1_commonDivisor_36 hl21 (by decide) rfl (fun ls hl22 => ?_)
          clear hl21
          obtain ⟨v38_23, e24, h25⟩ := nmI_s h19
          clear h19
          refine lv_iinc (v := v38_23) (lv' := [(8, .int v38_23), (6, .long v28_17), (4, .long x6_7), (9, .long v28_17)]) hx hb dX1_commonDivisor_38 hl22 (k := 3) rfl (by rw [e24]; rfl) (by decide) rfl (fun ls hl26 => ?_)
          clear hl22 e24
          refine lv_goto (tgt := 9) hx hb dX1_commonDivisor_41 (by decide) ?_
          exact ih9 x6_7 v28_17 v38_23 _ _ _ h25 hVB9 (lv_sub hl26 [2, 1, 0] rfl)
  exact L9 FU p1 p2 0 _ _ _ h hV (lv_sub hl3 [2, 1, 0] rfl)
abbrev r_X7_add : Room := { frames := 0, cells := 0, slots := 0, locals := 0 }
set_option maxHeartbeats 4000000 in
set_option maxRecDepth 100000 in
theorem c_X7_add (l : Launch) (E : kE) (sz : Nat) (a0 a1 a2 : Nat) (w0_1 w0_3 w1_0 w1_1 w1_2 w1_3 w1_4 w1_5 w1_6 : Value) (s_many : Int32) (s_sources : Nat → Option Nat) (r : Int32) (o_many : Int32) (h : f_X7_add s_many = some (r, o_many)) : kMi l yX7_add cX7_add 2 (some .int) r_X7_add [.ref a0, .ref a1] E [(a0, .inr (7, [.ref a2, w0_1, .int s_many, w0_3])), (a1, .inr (8, [w1_0, w1_1, w1_2, w1_3, w1_4, w1_5, w1_6])), (a2, .inl (E.2 3, 10, .inr (.inr (.inr (.inr s_sources)))))] sz 0 0 (fun x (_ : Nat → Option Nat) => x = r) (fun u => [(a0, .inr (7, [.ref a2, w0_1, .int o_many, w0_3])), (a1, .inr (8, [w1_0, w1_1, w1_2, w1_3, w1_4, w1_5, w1_6])), (a2, .inl (E.2 3, 10, .inr (.inr (.inr (.inr u)))))]) := by
  refine kmeti rfl (Nat.le_of_ble_eq_true rfl) ?_
  intro p e s m args below meth c ls A Q X hV hret hl
  have X : kC p s m c cX7_add 2 RX7 args E A := X
  have hx := X.1
  have hb := X.2.1
  have hl : lv_has ls 2 [(0, .ref a0), (1, .ref a1)] := hl
  rw [f_X7_add] at h
  refine lv_aload_n hx hb dX7_add_0 rfl (lv_at hl 0 rfl) ?_
  refine kget X hV (ci := 7) inlX7 rfl 0 rfl 2 (by decide) mw_75 rfl dX7_add_1 ?_
  refine lv_bipush (v := 10) hx hb dX7_add_4 (by decide) ?_
  refine lv_icmp_lt (tgt := 11) hx hb dX7_add_6 (by decide) (fun c1 => ?_) (fun c1 => ?_)
  · have h2 := itS c1 h
    clear h c1
    refine lv_aload_n hx hb dX7_add_11 rfl (lv_at hl 0 rfl) ?_
    refine kget X hV (ci := 7) inlX7 rfl 0 rfl 0 (by decide) mw_70 rfl dX7_add_12 ?_
    refine lv_aload_n hx hb dX7_add_15 rfl (lv_at hl 0 rfl) ?_
    refine kget X hV (ci := 7) inlX7 rfl 0 rfl 2 (by decide) mw_75 rfl dX7_add_16 ?_
    refine lv_aload_n hx hb dX7_add_19 rfl (lv_at hl 1 rfl) ?_
    obtain ⟨hi4, h5⟩ := gdN_s h2
    clear h2
    refine kaast X hV 2 3 1 8 rfl rfl rfl rfl hi4 rfl dX7_add_20 (fun H locs hV6 => ?_)
    have hV6 : kV E A s.heap H locs [(a0, .inr (7, [.ref a2, w0_1, .int s_many, w0_3])), (a1, .inr (8, [w1_0, w1_1, w1_2, w1_3, w1_4, w1_5, w1_6])), (a2, .inl (E.2 3, 10, .inr (.inr (.inr (.inr ((va_up s_sources (Int32.toNatClampNeg s_many) (some a1))))))))] := hV6
    clear hV hi4
    refine lv_aload_n hx hb dX7_add_21 rfl (lv_at hl 0 rfl) ?_
    refine lv_dup hx hb dX7_add_22 rfl ?_
    refine kget X hV6 (ci := 7) inlX7 rfl 0 rfl 2 (by decide) mw_75 rfl dX7_add_23 ?_
    refine lv_iconst (v := 1) hx hb dX7_add_26 (by decide) ?_
    refine lv_iadd hx hb dX7_add_27 ?_
    obtain ⟨v28_7, e8, h9⟩ := nmI_s h5
    clear h5
    refine ktopi e8 ?_
    clear e8
    refine kput X hV6 (ci := 7) inlX7 rfl tyX7 tyX7_ok nmX7 0 rfl 2 (by decide) mw_75 rfl rfl rfl (Nat.le_of_ble_eq_true rfl) dX7_add_28 (fun H locs hV10 => ?_)
    have hV10 : kV E A s.heap H locs [(a0, .inr (7, [.ref a2, w0_1, .int v28_7, w0_3])), (a1, .inr (8, [w1_0, w1_1, w1_2, w1_3, w1_4, w1_5, w1_6])), (a2, .inl (E.2 3, 10, .inr (.inr (.inr (.inr ((va_up s_sources (Int32.toNatClampNeg s_many) (some a1))))))))] := hV10
    clear hV6
    refine lv_aload_n hx hb dX7_add_31 rfl (lv_at hl 0 rfl) ?_
    refine kget X hV10 (ci := 7) inlX7 rfl 0 rfl 2 (by decide) mw_75 rfl dX7_add_32 ?_
    refine lv_iconst (v := 1) hx hb dX7_add_35 (by decide) ?_
    refine lv_isub hx hb dX7_add_36 ?_
    obtain ⟨q11, q12⟩ := tup2_s h9
    clear h9
    exact hret _ (va_up s_sources (Int32.toNatClampNeg s_many) (some a1)) _ _ _ _ q11 rfl (by rw [← q12]; exact hV10) dX7_add_37
  · have h3 := ieS c1 h
    clear h c1
    refine lv_iconst (v := (-1)) hx hb dX7_add_9 (by decide) ?_
    obtain ⟨q13, q14⟩ := tup2_s h3
    clear h3
    exact hret _ s_sources _ _ _ _ q13 rfl (by rw [← q14]; exact hV) dX7_add_10
abbrev r_X7_sourceAt : Room := { frames := 1, cells := 0, slots := 0, locals := 22 }
set_option maxHeartbeats 4000000 in
set_option maxRecDepth 100000 in
theorem c_X7_sourceAt (l : Launch) (E : kE) (sz : Nat) (a0 a1 : Nat) (w0_1 w0_3 : Value) (s_many : Int32) (s_sources : Nat → Option Nat) (p1 : Int32) (h : f_X7_sourceAt s_many s_sources p1 = some ()) : kMq l yX7_sourceAt cX7_sourceAt 2 (some (.object "ScruffPaper$Source")) r_X7_sourceAt [.ref a0, .int p1] E [(a0, .inr (7, [.ref a1, w0_1, .int s_many, w0_3])), (a1, .inl (E.2 3, 10, .inr (.inr (.inr (.inr s_sources)))))] sz 0 0 (fun x (_ : Unit) => x = none) (fun _ => [(a0, .inr (7, [.ref a1, w0_1, .int s_many, w0_3])), (a1, .inl (E.2 3, 10, .inr (.inr (.inr (.inr s_sources)))))]) := by
  refine kmetq (Or.inl ⟨_, rfl⟩) rfl (Nat.le_of_ble_eq_true rfl) ?_
  intro p e s m args below meth c ls A Q X hV hret hl
  have X : kC p s m c cX7_sourceAt 2 RX7 args E A := X
  have hx := X.1
  have hb := X.2.1
  have hl : lv_has ls 2 [(0, .ref a0), (1, .int p1)] := hl
  rw [f_X7_sourceAt] at h
  refine lv_iload_n hx hb dX7_sourceAt_0 rfl (lv_at hl 1 rfl) ?_
  refine lv_iconst (v := 0) hx hb dX7_sourceAt_1 (by decide) ?_
  refine lv_aload_n hx hb dX7_sourceAt_2 rfl (lv_at hl 0 rfl) ?_
  refine kget X hV (ci := 7) inlX7 rfl 0 rfl 2 (by decide) mw_75 rfl dX7_sourceAt_3 ?_
  refine lv_iconst (v := 1) hx hb dX7_sourceAt_6 (by decide) ?_
  refine lv_isub hx hb dX7_sourceAt_7 ?_
  obtain ⟨r8_1, hc2, h3⟩ := cb1_s h
  clear h
  refine kgoiE (krunSN (rest := []) X hV [] (c_X11_isWithin l E _ p1 0 (s_many - 1) r8_1 hc2) (List.mem_of_getElem? (i := 2) rfl) kb_X11_isWithin (by decide) rfl rfl hl.1 rfl (Nat.le_of_ble_eq_true rfl) dX7_sourceAt_8 (by decide)) X hV [] [0, 1] rfl rfl rfl (by decide) (fun u H locs hV4 => ?_)
  have hV4 : kV E A s.heap H locs [(a0, .inr (7, [.ref a1, w0_1, .int s_many, w0_3])), (a1, .inl (E.2 3, 10, .inr (.inr (.inr (.inr s_sources)))))] := hV4.sub [0, 1] rfl rfl
  clear hV
  refine lv_if_eq (tgt := 23) hx hb dX7_sourceAt_11 (by decide) (fun c6 => ?_) (fun c6 => ?_)
  · have h7 := itS c6 h3
    clear h3 c6
    refine lv_null hx hb dX7_sourceAt_23 ?_
    exact hret none () _ _ _ _ rfl hV4 dX7_sourceAt_24
  · have h8 := ieS c6 h3
    clear h3 c6
    refine lv_aload_n hx hb dX7_sourceAt_14 rfl (lv_at hl 0 rfl) ?_
    refine kget X hV4 (ci := 7) inlX7 rfl 0 rfl 0 (by decide) mw_70 rfl dX7_sourceAt_15 ?_
    refine lv_iload_n hx hb dX7_sourceAt_18 rfl (lv_at hl 1 rfl) ?_
    obtain ⟨hi9, e10, h11⟩ := rdN_s h8
    clear h8
    refine kaald X hV4 1 3 rfl rfl hi9 e10 dX7_sourceAt_19 ?_
    clear hi9 e10
    refine W.eq (g2 := F0 m 20 ls [.null]) rfl ?_
    refine lv_goto (tgt := 24) hx hb dX7_sourceAt_20 (by decide) ?_
    exact hret none () _ _ _ _ rfl hV4 dX7_sourceAt_24
abbrev r_J7_fill_53178 : Room := { frames := 0, cells := 0, slots := 0, locals := 0 }
set_option maxHeartbeats 4000000 in
set_option maxRecDepth 100000 in
theorem c_J7_fill_53178 (l : Launch) (E : kE) (sz : Nat) (a0 : Nat) (n_p1 : Nat) (s_p1 : Nat → Int32) (p2 : Int32) (o_p1 : Nat → Int32) (h : f_J7_fill_53178 n_p1 s_p1 p2 = some (o_p1)) : kMv l yJ7_fill_53178 cJ7_fill_53178 4 r_J7_fill_53178 [.ref a0, .int p2] E [(a0, .inl (E.2 0, n_p1, .inl s_p1))] sz 0 0 (fun (_ : Unit) => True) (fun _ => [(a0, .inl (E.2 0, n_p1, .inl o_p1))]) := by
  refine kmetv rfl (Nat.le_of_ble_eq_true rfl) ?_
  intro p e s m args below meth c ls A Q X hnm hV hret hl
  have X : kC p s m c cJ7_fill_53178 4 RJ7 args E A := X
  have hx := X.1
  have hb := X.2.1
  have hl : lv_has ls 4 [(0, .ref a0), (1, .int p2)] := hl
  rw [f_J7_fill_53178] at h
  refine lv_iconst (v := 0) hx hb dJ7_fill_53178_0 (by decide) ?_
  refine lv_istore_n (lv' := [(2, .int 0), (0, .ref a0), (1, .int p2)]) hx hb dJ7_fill_53178_1 rfl hl (by decide) rfl (fun ls hl1 => ?_)
  clear hl
  refine lv_aload_n hx hb dJ7_fill_53178_2 rfl (lv_at hl1 1 rfl) ?_
  refine kalen X hV 0 0 rfl rfl (v := (Int32.ofNat n_p1)) rfl dJ7_fill_53178_3 ?_
  obtain ⟨v4_2, e3, h4⟩ := nmI_s h
  clear h
  refine ktopi e3 ?_
  clear e3
  refine lv_istore_n (lv' := [(3, .int v4_2), (2, .int 0), (0, .ref a0), (1, .int p2)]) hx hb dJ7_fill_53178_4 rfl hl1 (by decide) rfl (fun ls hl5 => ?_)
  clear hl1
  have L5 : ∀ (n5 : Nat) (x2_6 : Int32) (p1__7 : Nat → Int32) (H : Heap) (locs : List Loc) (ls : Array Slot), (f_J7_fill_53178_L5 n_p1 p2 v4_2  n5) x2_6 p1__7 = some (o_p1) → kV E A s.heap H locs [(a0, .inl (E.2 0, n_p1, .inl p1__7))] → lv_has ls 4 [(0, .ref a0), (1, .int p2), (2, .int x2_6), (3, .int v4_2)] → W p l e r_J7_fill_53178 s m args below meth c H locs 0 0 Q (F0 m 5 ls []) := by
    intro n5
    induction n5 with
    | zero =>
      intro x2_6 p1__7 H locs ls hB5 hVB5 hlB5
      rw [f_J7_fill_53178_L5] at hB5
      exact nomatch hB5
    | succ n5 ih5 =>
      intro x2_6 p1__7 H locs ls hB5 hVB5 hlB5
      rw [f_J7_fill_53178_L5] at hB5
      refine lv_iload_n hx hb dJ7_fill_53178_5 rfl (lv_at hlB5 2 rfl) ?_
      refine lv_iload_n hx hb dJ7_fill_53178_6 rfl (lv_at hlB5 3 rfl) ?_
      refine lv_icmp_ge (tgt := 20) hx hb dJ7_fill_53178_7 (by decide) (fun c8 => ?_) (fun c8 => ?_)
      · have h9 := itS c8 hB5
        clear hB5 c8
        have q11 := tup1_s h9
        clear h9
        exact hret () _ _ _ _ trivial (by rw [← q11]; exact hVB5) dJ7_fill_53178_20
      · have h10 := ieS c8 hB5
        clear hB5 c8
        refine lv_aload_n hx hb dJ7_fill_53178_10 rfl (lv_at hlB5 0 rfl) ?_
        refine lv_iload_n hx hb dJ7_fill_53178_11 rfl (lv_at hlB5 2 rfl) ?_
        refine lv_iload_n hx hb dJ7_fill_53178_12 rfl (lv_at hlB5 1 rfl) ?_
        obtain ⟨hi13, g13_12, e14, h15⟩ := wrI_s h10
        clear h10
        refine kiast X hVB5 0 rfl hi13 e14 dJ7_fill_53178_13 (fun H locs hV16 => ?_)
        have hV16 : kV E A s.heap H locs [(a0, .inl (E.2 0, n_p1, .inl g13_12))] := hV16
        clear hVB5 hi13 e14
        obtain ⟨v14_17, e18, h19⟩ := nmI_s h15
        clear h15
        refine lv_iinc (v := v14_17) (lv' := [(2, .int v14_17), (0, .ref a0), (1, .int p2), (3, .int v4_2)]) hx hb dJ7_fill_53178_14 hlB5 (k := 2) rfl (by rw [e18]; rfl) (by decide) rfl (fun ls hl20 => ?_)
        clear hlB5 e18
        refine lv_goto (tgt := 5) hx hb dJ7_fill_53178_17 (by decide) ?_
        exact ih5 v14_17 g13_12 _ _ _ h19 hV16 (lv_sub hl20 [1, 2, 0, 3] rfl)
  exact L5 FU 0 s_p1 _ _ _ h4 hV (lv_sub hl5 [2, 3, 1, 0] rfl)
abbrev r_X4_clear : Room := { frames := 1, cells := 0, slots := 0, locals := 23 }
set_option maxHeartbeats 4000000 in
set_option maxRecDepth 100000 in
theorem c_X4_clear (l : Launch) (E : kE) (sz : Nat) (a0 a1 a2 a3 : Nat) (w0_3 w0_4 : Value) (s_readers : Int32) (s_day : Int32) (s_heights : Nat → Int32) (s_highest : Nat → Int32) (s_shapes : Nat → Int32) (p1 : Int32) (o_readers : Int32) (o_day : Int32) (o_heights : Nat → Int32) (o_highest : Nat → Int32) (o_shapes : Nat → Int32) (h : f_X4_clear s_readers s_day s_heights s_highest s_shapes p1 = some (o_readers, o_day, o_heights, o_highest, o_shapes)) : kMv l yX4_clear cX4_clear 2 r_X4_clear [.ref a0, .int p1] E [(a0, .inr (4, [.ref a1, .ref a3, .ref a2, w0_3, w0_4, .int s_readers, .int s_day])), (a1, .inl (E.2 0, 1440, .inl s_heights)), (a2, .inl (E.2 0, 1440, .inl s_highest)), (a3, .inl (E.2 0, 1440, .inl s_shapes))] sz 0 0 (fun (_ : Unit) => True) (fun _ => [(a0, .inr (4, [.ref a1, .ref a3, .ref a2, w0_3, w0_4, .int o_readers, .int o_day])), (a1, .inl (E.2 0, 1440, .inl o_heights)), (a2, .inl (E.2 0, 1440, .inl o_highest)), (a3, .inl (E.2 0, 1440, .inl o_shapes))]) := by
  refine kmetv rfl (Nat.le_of_ble_eq_true rfl) ?_
  intro p e s m args below meth c ls A Q X hnm hV hret hl
  have X : kC p s m c cX4_clear 2 RX4 args E A := X
  have hx := X.1
  have hb := X.2.1
  have hl : lv_has ls 2 [(0, .ref a0), (1, .int p1)] := hl
  rw [f_X4_clear] at h
  refine lv_aload_n hx hb dX4_clear_0 rfl (lv_at hl 0 rfl) ?_
  refine lv_iload_n hx hb dX4_clear_1 rfl (lv_at hl 1 rfl) ?_
  refine kput X hV (ci := 4) inlX4 rfl tyX4 tyX4_ok nmX4 0 rfl 6 (by decide) mw_94 rfl rfl rfl (Nat.le_of_ble_eq_true rfl) dX4_clear_2 (fun H locs hV1 => ?_)
  have hV1 : kV E A s.heap H locs [(a0, .inr (4, [.ref a1, .ref a3, .ref a2, w0_3, w0_4, .int s_readers, .int p1])), (a1, .inl (E.2 0, 1440, .inl s_heights)), (a2, .inl (E.2 0, 1440, .inl s_highest)), (a3, .inl (E.2 0, 1440, .inl s_shapes))] := hV1
  clear hV
  refine lv_aload_n hx hb dX4_clear_5 rfl (lv_at hl 0 rfl) ?_
  refine lv_iconst (v := 0) hx hb dX4_clear_6 (by decide) ?_
  refine kput X hV1 (ci := 4) inlX4 rfl tyX4 tyX4_ok nmX4 0 rfl 5 (by decide) mw_93 rfl rfl rfl (Nat.le_of_ble_eq_true rfl) dX4_clear_7 (fun H locs hV2 => ?_)
  have hV2 : kV E A s.heap H locs [(a0, .inr (4, [.ref a1, .ref a3, .ref a2, w0_3, w0_4, .int 0, .int p1])), (a1, .inl (E.2 0, 1440, .inl s_heights)), (a2, .inl (E.2 0, 1440, .inl s_highest)), (a3, .inl (E.2 0, 1440, .inl s_shapes))] := hV2
  clear hV1
  refine lv_aload_n hx hb dX4_clear_10 rfl (lv_at hl 0 rfl) ?_
  refine kget X hV2 (ci := 4) inlX4 rfl 0 rfl 0 (by decide) mw_87 rfl dX4_clear_11 ?_
  refine lv_iconst (v := 0) hx hb dX4_clear_14 (by decide) ?_
  obtain ⟨o_p115_3, hc4, h5⟩ := cb1_s h
  clear h
  refine kgov (krunS (rest := []) X hV2 [1] (c_J7_fill_53178 l E _ a1 1440 s_heights 0 o_p115_3 hc4) mw_776 kb_J7_fill_53178 (by decide) rfl rfl hl.1 rfl (Nat.le_of_ble_eq_true rfl) dX4_clear_15 (by decide)) X hV2 [1] [0, 2, 3] rfl rfl rfl (by decide) (fun u H locs hp7 hV6 => ?_)
  have hV6 : kV E A s.heap H locs [(a0, .inr (4, [.ref a1, .ref a3, .ref a2, w0_3, w0_4, .int 0, .int p1])), (a1, .inl (E.2 0, 1440, .inl o_p115_3)), (a2, .inl (E.2 0, 1440, .inl s_highest)), (a3, .inl (E.2 0, 1440, .inl s_shapes))] := hV6.sub [0, 3, 1, 2] rfl rfl
  clear hV2
  refine lv_aload_n hx hb dX4_clear_18 rfl (lv_at hl 0 rfl) ?_
  refine kget X hV6 (ci := 4) inlX4 rfl 0 rfl 2 (by decide) mw_89 rfl dX4_clear_19 ?_
  refine lv_iconst (v := 0) hx hb dX4_clear_22 (by decide) ?_
  obtain ⟨o_p123_8, hc9, h10⟩ := cb1_s h5
  clear h5
  refine kgov (krunS (rest := []) X hV6 [2] (c_J7_fill_53178 l E _ a2 1440 s_highest 0 o_p123_8 hc9) mw_776 kb_J7_fill_53178 (by decide) rfl rfl hl.1 rfl (Nat.le_of_ble_eq_true rfl) dX4_clear_23 (by decide)) X hV6 [2] [0, 1, 3] rfl rfl rfl (by decide) (fun u H locs hp12 hV11 => ?_)
  have hV11 : kV E A s.heap H locs [(a0, .inr (4, [.ref a1, .ref a3, .ref a2, w0_3, w0_4, .int 0, .int p1])), (a1, .inl (E.2 0, 1440, .inl o_p115_3)), (a2, .inl (E.2 0, 1440, .inl o_p123_8)), (a3, .inl (E.2 0, 1440, .inl s_shapes))] := hV11.sub [0, 1, 3, 2] rfl rfl
  clear hV6
  refine lv_aload_n hx hb dX4_clear_26 rfl (lv_at hl 0 rfl) ?_
  refine kget X hV11 (ci := 4) inlX4 rfl 0 rfl 1 (by decide) mw_88 rfl dX4_clear_27 ?_
  refine lv_iconst (v := 4) hx hb dX4_clear_30 (by decide) ?_
  obtain ⟨o_p131_13, hc14, h15⟩ := cb1_s h10
  clear h10
  refine kgov (krunS (rest := []) X hV11 [3] (c_J7_fill_53178 l E _ a3 1440 s_shapes 4 o_p131_13 hc14) mw_776 kb_J7_fill_53178 (by decide) rfl rfl hl.1 rfl (Nat.le_of_ble_eq_true rfl) dX4_clear_31 (by decide)) X hV11 [3] [0, 1, 2] rfl rfl rfl (by decide) (fun u H locs hp17 hV16 => ?_)
  have hV16 : kV E A s.heap H locs [(a0, .inr (4, [.ref a1, .ref a3, .ref a2, w0_3, w0_4, .int 0, .int p1])), (a1, .inl (E.2 0, 1440, .inl o_p115_3)), (a2, .inl (E.2 0, 1440, .inl o_p123_8)), (a3, .inl (E.2 0, 1440, .inl o_p131_13))] := hV16.sub [0, 1, 2, 3] rfl rfl
  clear hV11
  obtain ⟨q18, q19, q20, q21, q22⟩ := tup5_s h15
  clear h15
  exact hret () _ _ _ _ trivial (by rw [← q18, ← q19, ← q20, ← q21, ← q22]; exact hV16) dX4_clear_34
abbrev r_X7_lay : Room := { frames := 2, cells := 0, slots := 0, locals := 44 }
set_option maxHeartbeats 4000000 in
set_option maxRecDepth 100000 in
theorem c_X7_lay (l : Launch) (E : kE) (sz : Nat) (a0 a1 a2 a3 a4 a5 : Nat) (w0_1 w0_3 w1_3 w1_4 : Value) (s_many : Int32) (s_p1_readers : Int32) (s_p1_day : Int32) (s_p1_heights : Nat → Int32) (s_p1_highest : Nat → Int32) (s_p1_shapes : Nat → Int32) (s_sources : Nat → Option Nat) (p2 : Int32) (o_p1_readers : Int32) (o_p1_day : Int32) (o_p1_heights : Nat → Int32) (o_p1_highest : Nat → Int32) (o_p1_shapes : Nat → Int32) (h : f_X7_lay s_many s_p1_readers s_p1_day s_p1_heights s_p1_highest s_p1_shapes s_sources p2 = some (o_p1_readers, o_p1_day, o_p1_heights, o_p1_highest, o_p1_shapes)) : kMv l yX7_lay cX7_lay 5 r_X7_lay [.ref a0, .ref a1, .int p2] E [(a0, .inr (7, [.ref a5, w0_1, .int s_many, w0_3])), (a1, .inr (4, [.ref a2, .ref a4, .ref a3, w1_3, w1_4, .int s_p1_readers, .int s_p1_day])), (a2, .inl (E.2 0, 1440, .inl s_p1_heights)), (a3, .inl (E.2 0, 1440, .inl s_p1_highest)), (a4, .inl (E.2 0, 1440, .inl s_p1_shapes)), (a5, .inl (E.2 3, 10, .inr (.inr (.inr (.inr s_sources)))))] sz 0 0 (fun (_ : Unit) => True) (fun _ => [(a0, .inr (7, [.ref a5, w0_1, .int s_many, w0_3])), (a1, .inr (4, [.ref a2, .ref a4, .ref a3, w1_3, w1_4, .int o_p1_readers, .int o_p1_day])), (a2, .inl (E.2 0, 1440, .inl o_p1_heights)), (a3, .inl (E.2 0, 1440, .inl o_p1_highest)), (a4, .inl (E.2 0, 1440, .inl o_p1_shapes)), (a5, .inl (E.2 3, 10, .inr (.inr (.inr (.inr s_sources)))))]) := by
  refine kmetv rfl (Nat.le_of_ble_eq_true rfl) ?_
  intro p e s m args below meth c ls A Q X hnm hV hret hl
  have X : kC p s m c cX7_lay 5 RX7 args E A := X
  have hx := X.1
  have hb := X.2.1
  have hl : lv_has ls 5 [(0, .ref a0), (1, .ref a1), (2, .int p2)] := hl
  rw [f_X7_lay] at h
  refine lv_aload_n hx hb dX7_lay_0 rfl (lv_at hl 1 rfl) ?_
  refine kget X hV (ci := 4) inlX4 rfl 1 rfl 6 (by decide) mw_771 rfl dX7_lay_1 ?_
  refine lv_iload_n hx hb dX7_lay_4 rfl (lv_at hl 2 rfl) ?_
  refine lv_icmp_ne (tgt := 9) hx hb dX7_lay_5 (by decide) (fun c1 => ?_) (fun c1 => ?_)
  · have h2 := ieS c1 h
    clear h c1
    refine lv_aload_n hx hb dX7_lay_9 rfl (lv_at hl 1 rfl) ?_
    refine lv_iload_n hx hb dX7_lay_10 rfl (lv_at hl 2 rfl) ?_
    obtain ⟨o_readers11_4, o_day11_5, o_heights11_6, o_highest11_7, o_shapes11_8, hc9, h10⟩ := cb5_s h2
    clear h2
    refine kgov (krunV (rest := []) X hV [1, 2, 3, 4] (c_X4_clear l E _ a1 a2 a3 a4 (w1_3) (w1_4) s_p1_readers s_p1_day s_p1_heights s_p1_highest s_p1_shapes p2 o_readers11_4 o_day11_5 o_heights11_6 o_highest11_7 o_shapes11_8 hc9) mw_772 kb_X4_clear (ci := 4) rfl rfl (by decide) rfl rfl hl.1 rfl (Nat.le_of_ble_eq_true rfl) dX7_lay_11 (by decide)) X hV [1, 2, 3, 4] [0, 5] rfl rfl rfl (by decide) (fun u H locs hp12 hV11 => ?_)
    have hV11 : kV E A s.heap H locs [(a0, .inr (7, [.ref a5, w0_1, .int s_many, w0_3])), (a1, .inr (4, [.ref a2, .ref a4, .ref a3, w1_3, w1_4, .int o_readers11_4, .int o_day11_5])), (a2, .inl (E.2 0, 1440, .inl o_heights11_6)), (a3, .inl (E.2 0, 1440, .inl o_highest11_7)), (a4, .inl (E.2 0, 1440, .inl o_shapes11_8)), (a5, .inl (E.2 3, 10, .inr (.inr (.inr (.inr s_sources)))))] := hV11.sub [0, 2, 3, 4, 5, 1] rfl rfl
    clear hV
    refine lv_iconst (v := 0) hx hb dX7_lay_14 (by decide) ?_
    refine lv_istore_n (lv' := [(3, .int 0), (0, .ref a0), (1, .ref a1), (2, .int p2)]) hx hb dX7_lay_15 rfl hl (by decide) rfl (fun ls hl13 => ?_)
    clear hl
    have L16 : ∀ (n16 : Nat) (x3_14 : Int32) (H : Heap) (locs : List Loc) (ls : Array Slot), (f_X7_lay_L16 s_many s_sources o_readers11_4 o_day11_5 o_heights11_6 o_highest11_7 o_shapes11_8  n16) x3_14 = some (o_p1_readers, o_p1_day, o_p1_heights, o_p1_highest, o_p1_shapes) → kV E A s.heap H locs [(a0, .inr (7, [.ref a5, w0_1, .int s_many, w0_3])), (a1, .inr (4, [.ref a2, .ref a4, .ref a3, w1_3, w1_4, .int o_readers11_4, .int o_day11_5])), (a2, .inl (E.2 0, 1440, .inl o_heights11_6)), (a3, .inl (E.2 0, 1440, .inl o_highest11_7)), (a4, .inl (E.2 0, 1440, .inl o_shapes11_8)), (a5, .inl (E.2 3, 10, .inr (.inr (.inr (.inr s_sources)))))] → lv_has ls 5 [(0, .ref a0), (3, .int x3_14)] → W p l e r_X7_lay s m args below meth c H locs 0 0 Q (F0 m 16 ls []) := by
      intro n16
      induction n16 with
      | zero =>
        intro x3_14 H locs ls hB16 hVB16 hlB16
        rw [f_X7_lay_L16] at hB16
        exact nomatch hB16
      | succ n16 ih16 =>
        intro x3_14 H locs ls hB16 hVB16 hlB16
        rw [f_X7_lay_L16] at hB16
        refine lv_iload_n hx hb dX7_lay_16 rfl (lv_at hlB16 1 rfl) ?_
        refine lv_aload_n hx hb dX7_lay_17 rfl (lv_at hlB16 0 rfl) ?_
        refine kget X hVB16 (ci := 7) inlX7 rfl 0 rfl 2 (by decide) mw_75 rfl dX7_lay_18 ?_
        refine lv_icmp_ge (tgt := 67) hx hb dX7_lay_21 (by decide) (fun c15 => ?_) (fun c15 => ?_)
        · have h16 := itS c15 hB16
          clear hB16 c15
          obtain ⟨q18, q19, q20, q21, q22⟩ := tup5_s h16
          clear h16
          exact hret () _ _ _ _ trivial (by rw [← q18, ← q19, ← q20, ← q21, ← q22]; exact hVB16) dX7_lay_67
        · have h17 := ieS c15 hB16
          clear hB16 c15
          refine lv_aload_n hx hb dX7_lay_24 rfl (lv_at hlB16 0 rfl) ?_
          refine kget X hVB16 (ci := 7) inlX7 rfl 0 rfl 0 (by decide) mw_70 rfl dX7_lay_25 ?_
          refine lv_iload_n hx hb dX7_lay_28 rfl (lv_at hlB16 1 rfl) ?_
          obtain ⟨hi23, e24, h25⟩ := rdN_s h17
          clear h17
          refine kaald X hVB16 5 3 rfl rfl hi23 e24 dX7_lay_29 ?_
          clear hi23 e24
          refine W.eq (g2 := F0 m 30 ls [.null]) rfl ?_
          refine lv_astoreN (lv' := [(4, .null), (0, .ref a0), (3, .int x3_14)]) hx hb dX7_lay_30 hlB16 (by decide) rfl (fun ls hl26 => ?_)
          clear hlB16
          refine lv_aloadN hx hb dX7_lay_32 (lv_at hl26 0 rfl) ?_
          refine lv_ifnullN (tgt := 61) hx hb dX7_lay_34 (by decide) ?_
          obtain ⟨v61_27, e28, h29⟩ := nmI_s h25
          clear h25
          refine lv_iinc (v := v61_27) (lv' := [(3, .int v61_27), (4, .null), (0, .ref a0)]) hx hb dX7_lay_61 hl26 (k := 2) rfl (by rw [e28]; rfl) (by decide) rfl (fun ls hl30 => ?_)
          clear hl26 e28
          refine lv_goto (tgt := 16) hx hb dX7_lay_64 (by decide) ?_
          exact ih16 v61_27 _ _ _ h29 hVB16 (lv_sub hl30 [2, 0] rfl)
    exact L16 FU 0 _ _ _ h10 hV11 (lv_sub hl13 [1, 0] rfl)
  · have h3 := itS c1 h
    clear h c1
    obtain ⟨q31, q32, q33, q34, q35⟩ := tup5_s h3
    clear h3
    exact hret () _ _ _ _ trivial (by rw [← q31, ← q32, ← q33, ← q34, ← q35]; exact hV) dX7_lay_8
abbrev r_X4_forget : Room := { frames := 0, cells := 0, slots := 0, locals := 0 }
set_option maxHeartbeats 4000000 in
set_option maxRecDepth 100000 in
theorem c_X4_forget (l : Launch) (E : kE) (sz : Nat) (a0 : Nat) (w0_0 w0_1 w0_2 w0_3 w0_4 w0_5 : Value) (s_day : Int32) (o_day : Int32) (h : f_X4_forget s_day = some (o_day)) : kMv l yX4_forget cX4_forget 1 r_X4_forget [.ref a0] E [(a0, .inr (4, [w0_0, w0_1, w0_2, w0_3, w0_4, w0_5, .int s_day]))] sz 0 0 (fun (_ : Unit) => True) (fun _ => [(a0, .inr (4, [w0_0, w0_1, w0_2, w0_3, w0_4, w0_5, .int o_day]))]) := by
  refine kmetv rfl (Nat.le_of_ble_eq_true rfl) ?_
  intro p e s m args below meth c ls A Q X hnm hV hret hl
  have X : kC p s m c cX4_forget 1 RX4 args E A := X
  have hx := X.1
  have hb := X.2.1
  have hl : lv_has ls 1 [(0, .ref a0)] := hl
  rw [f_X4_forget] at h
  refine lv_aload_n hx hb dX4_forget_0 rfl (lv_at hl 0 rfl) ?_
  refine lv_iconst (v := (-1)) hx hb dX4_forget_1 (by decide) ?_
  refine kput X hV (ci := 4) inlX4 rfl tyX4 tyX4_ok nmX4 0 rfl 6 (by decide) mw_94 rfl rfl rfl (Nat.le_of_ble_eq_true rfl) dX4_forget_2 (fun H locs hV1 => ?_)
  have hV1 : kV E A s.heap H locs [(a0, .inr (4, [w0_0, w0_1, w0_2, w0_3, w0_4, w0_5, .int (-1)]))] := hV1
  clear hV
  have q2 := tup1_s h
  clear h
  exact hret () _ _ _ _ trivial (by rw [← q2]; exact hV1) dX4_forget_5
abbrev r_X4_greatestOf : Room := { frames := 1, cells := 0, slots := 0, locals := 23 }
set_option maxHeartbeats 4000000 in
set_option maxRecDepth 100000 in
theorem c_X4_greatestOf (l : Launch) (E : kE) (sz : Nat) (a0 a1 : Nat) (w0_1 w0_2 w0_3 w0_4 w0_5 w0_6 : Value) (s_heights : Nat → Int32) (p1 : Int32) (p2 : Int32) (r : Int32) (h : f_X4_greatestOf s_heights p1 p2 = some (r)) : kMi l yX4_greatestOf cX4_greatestOf 5 (some .int) r_X4_greatestOf [.ref a0, .int p1, .int p2] E [(a0, .inr (4, [.ref a1, w0_1, w0_2, w0_3, w0_4, w0_5, w0_6])), (a1, .inl (E.2 0, 1440, .inl s_heights))] sz 0 0 (fun x (_ : Unit) => x = r) (fun _ => [(a0, .inr (4, [.ref a1, w0_1, w0_2, w0_3, w0_4, w0_5, w0_6])), (a1, .inl (E.2 0, 1440, .inl s_heights))]) := by
  refine kmeti rfl (Nat.le_of_ble_eq_true rfl) ?_
  intro p e s m args below meth c ls A Q X hV hret hl
  have X : kC p s m c cX4_greatestOf 5 RX4 args E A := X
  have hx := X.1
  have hb := X.2.1
  have hl : lv_has ls 5 [(0, .ref a0), (1, .int p1), (2, .int p2)] := hl
  rw [f_X4_greatestOf] at h
  refine lv_iconst (v := 0) hx hb dX4_greatestOf_0 (by decide) ?_
  refine lv_istore_n (lv' := [(3, .int 0), (0, .ref a0), (1, .int p1), (2, .int p2)]) hx hb dX4_greatestOf_1 rfl hl (by decide) rfl (fun ls hl1 => ?_)
  clear hl
  refine lv_iload_n hx hb dX4_greatestOf_2 rfl (lv_at hl1 2 rfl) ?_
  refine lv_istore (lv' := [(4, .int p1), (3, .int 0), (0, .ref a0), (1, .int p1), (2, .int p2)]) hx hb dX4_greatestOf_3 hl1 (by decide) rfl (fun ls hl2 => ?_)
  clear hl1
  have L5 : ∀ (n5 : Nat) (x3_3 : Int32) (x4_4 : Int32) (H : Heap) (locs : List Loc) (ls : Array Slot), (f_X4_greatestOf_L5 s_heights p2  n5) x3_3 x4_4 = some (r) → kV E A s.heap H locs [(a0, .inr (4, [.ref a1, w0_1, w0_2, w0_3, w0_4, w0_5, w0_6])), (a1, .inl (E.2 0, 1440, .inl s_heights))] → lv_has ls 5 [(0, .ref a0), (2, .int p2), (3, .int x3_3), (4, .int x4_4)] → W p l e r_X4_greatestOf s m args below meth c H locs 0 0 Q (F0 m 5 ls []) := by
    intro n5
    induction n5 with
    | zero =>
      intro x3_3 x4_4 H locs ls hB5 hVB5 hlB5
      rw [f_X4_greatestOf_L5] at hB5
      exact nomatch hB5
    | succ n5 ih5 =>
      intro x3_3 x4_4 H locs ls hB5 hVB5 hlB5
      rw [f_X4_greatestOf_L5] at hB5
      refine lv_iload hx hb dX4_greatestOf_5 (lv_at hlB5 3 rfl) ?_
      refine lv_iload_n hx hb dX4_greatestOf_7 rfl (lv_at hlB5 1 rfl) ?_
      refine lv_icmp_gt (tgt := 37) hx hb dX4_greatestOf_8 (by decide) (fun c5 => ?_) (fun c5 => ?_)
      · have h6 := itS c5 hB5
        clear hB5 c5
        refine lv_iload_n hx hb dX4_greatestOf_37 rfl (lv_at hlB5 2 rfl) ?_
        have q8 := tup1_s h6
        clear h6
        exact hret _ () _ _ _ _ q8 rfl hVB5 dX4_greatestOf_38
      · have h7 := ieS c5 hB5
        clear hB5 c5
        refine lv_iload hx hb dX4_greatestOf_11 (lv_at hlB5 3 rfl) ?_
        refine lv_sipush (v := 1440) hx hb dX4_greatestOf_13 (by decide) ?_
        refine lv_icmp_ge (tgt := 37) hx hb dX4_greatestOf_16 (by decide) (fun c9 => ?_) (fun c9 => ?_)
        · have h10 := itS c9 h7
          clear h7 c9
          refine lv_iload_n hx hb dX4_greatestOf_37 rfl (lv_at hlB5 2 rfl) ?_
          have q12 := tup1_s h10
          clear h10
          exact hret _ () _ _ _ _ q12 rfl hVB5 dX4_greatestOf_38
        · have h11 := ieS c9 h7
          clear h7 c9
          refine lv_iload_n hx hb dX4_greatestOf_19 rfl (lv_at hlB5 2 rfl) ?_
          refine lv_aload_n hx hb dX4_greatestOf_20 rfl (lv_at hlB5 0 rfl) ?_
          refine kget X hVB5 (ci := 4) inlX4 rfl 0 rfl 0 (by decide) mw_87 rfl dX4_greatestOf_21 ?_
          refine lv_iload hx hb dX4_greatestOf_24 (lv_at hlB5 3 rfl) ?_
          obtain ⟨hi14, v26_13, e15, h16⟩ := rdI_s h11
          clear h11
          refine kiald X hVB5 1 rfl hi14 e15 dX4_greatestOf_26 ?_
          clear hi14 e15
          refine va_mmax hx hb (X.2.2.1.trans hlB5.1.symm) X.2.2.2.1 (X.2.2.2.2.1 _ mw_820) (X.2.2.2.2.1 _ mw_354) (X.2.2.2.2.1 _ mw_281) (X.2.2.2.2.1 _ mw_355) (by decide) (Nat.le_of_ble_eq_true rfl) (by decide) (by decide) dX4_greatestOf_27 ?_
          obtain ⟨v30_17, e18, h19⟩ := nmI_s h16
          clear h16
          refine ktopi e18 ?_
          clear e18
          refine lv_istore_n (lv' := [(3, .int v30_17), (0, .ref a0), (2, .int p2), (4, .int x4_4)]) hx hb dX4_greatestOf_30 rfl hlB5 (by decide) rfl (fun ls hl20 => ?_)
          clear hlB5
          obtain ⟨v31_21, e22, h23⟩ := nmI_s h19
          clear h19
          refine lv_iinc (v := v31_21) (lv' := [(4, .int v31_21), (3, .int v30_17), (0, .ref a0), (2, .int p2)]) hx hb dX4_greatestOf_31 hl20 (k := 3) rfl (by rw [e22]; rfl) (by decide) rfl (fun ls hl24 => ?_)
          clear hl20 e22
          refine lv_goto (tgt := 5) hx hb dX4_greatestOf_34 (by decide) ?_
          exact ih5 v30_17 v31_21 _ _ _ h23 hVB5 (lv_sub hl24 [2, 3, 1, 0] rfl)
  exact L5 FU 0 p1 _ _ _ h hV (lv_sub hl2 [2, 4, 1, 0] rfl)
abbrev r_X4_greatestBefore : Room := { frames := 2, cells := 0, slots := 0, locals := 47 }
set_option maxHeartbeats 4000000 in
set_option maxRecDepth 100000 in
theorem c_X4_greatestBefore (l : Launch) (E : kE) (sz : Nat) (a0 a1 : Nat) (w0_1 w0_2 w0_3 w0_4 w0_5 w0_6 : Value) (s_heights : Nat → Int32) (p1 : Int32) (p2 : Int32) (r : Int32) (h : f_X4_greatestBefore s_heights p1 p2 = some (r)) : kMi l yX4_greatestBefore cX4_greatestBefore 5 (some .int) r_X4_greatestBefore [.ref a0, .int p1, .int p2] E [(a0, .inr (4, [.ref a1, w0_1, w0_2, w0_3, w0_4, w0_5, w0_6])), (a1, .inl (E.2 0, 1440, .inl s_heights))] sz 0 0 (fun x (_ : Unit) => x = r) (fun _ => [(a0, .inr (4, [.ref a1, w0_1, w0_2, w0_3, w0_4, w0_5, w0_6])), (a1, .inl (E.2 0, 1440, .inl s_heights))]) := by
  refine kmeti rfl (Nat.le_of_ble_eq_true rfl) ?_
  intro p e s m args below meth c ls A Q X hV hret hl
  have X : kC p s m c cX4_greatestBefore 5 RX4 args E A := X
  have hx := X.1
  have hb := X.2.1
  have hl : lv_has ls 5 [(0, .ref a0), (1, .int p1), (2, .int p2)] := hl
  rw [f_X4_greatestBefore] at h
  refine lv_iload_n hx hb dX4_greatestBefore_0 rfl (lv_at hl 1 rfl) ?_
  have J25 : ∀  (H : Heap) (locs : List Loc) (ls : Array Slot), (f_X4_greatestBefore_J25 s_heights p1 p2 ) = some (r) → kV E A s.heap H locs [(a0, .inr (4, [.ref a1, w0_1, w0_2, w0_3, w0_4, w0_5, w0_6])), (a1, .inl (E.2 0, 1440, .inl s_heights))] → lv_has ls 5 [(0, .ref a0), (1, .int p1), (2, .int p2)] → W p l e r_X4_greatestBefore s m args below meth c H locs 0 0 Q (F0 m 25 ls []) := by
    intro  H locs ls hB25 hVB25 hlB25
    rw [f_X4_greatestBefore_J25] at hB25
    refine lv_iload_n hx hb dX4_greatestBefore_25 rfl (lv_at hlB25 1 rfl) ?_
    refine lv_bipush (v := 10) hx hb dX4_greatestBefore_26 (by decide) ?_
    refine lv_isub hx hb dX4_greatestBefore_28 ?_
    refine lv_iconst (v := 1) hx hb dX4_greatestBefore_29 (by decide) ?_
    refine lv_isub hx hb dX4_greatestBefore_30 ?_
    obtain ⟨v31_1, e2, h3⟩ := nmI_s hB25
    clear hB25
    refine ktopi e2 ?_
    clear e2
    refine lv_istore_n (lv' := [(3, .int v31_1), (0, .ref a0), (1, .int p1), (2, .int p2)]) hx hb dX4_greatestBefore_31 rfl hlB25 (by decide) rfl (fun ls hl4 => ?_)
    clear hlB25
    refine lv_iload_n hx hb dX4_greatestBefore_32 rfl (lv_at hl4 0 rfl) ?_
    have J51 : ∀ (t0_5 : Int32) (H : Heap) (locs : List Loc) (ls : Array Slot), (f_X4_greatestBefore_J51 s_heights p1 p2 v31_1 ) t0_5 = some (r) → kV E A s.heap H locs [(a0, .inr (4, [.ref a1, w0_1, w0_2, w0_3, w0_4, w0_5, w0_6])), (a1, .inl (E.2 0, 1440, .inl s_heights))] → lv_has ls 5 [(0, .ref a0), (1, .int p1), (2, .int p2), (3, .int v31_1)] → W p l e r_X4_greatestBefore s m args below meth c H locs 0 0 Q (F0 m 51 ls [.int t0_5]) := by
      intro t0_5 H locs ls hB51 hVB51 hlB51
      rw [f_X4_greatestBefore_J51] at hB51
      refine lv_istore (lv' := [(4, .int t0_5), (0, .ref a0), (1, .int p1), (2, .int p2), (3, .int v31_1)]) hx hb dX4_greatestBefore_51 hlB51 (by decide) rfl (fun ls hl6 => ?_)
      clear hlB51
      refine lv_iload hx hb dX4_greatestBefore_53 (lv_at hl6 0 rfl) ?_
      refine lv_if_eq (tgt := 62) hx hb dX4_greatestBefore_55 (by decide) (fun c7 => ?_) (fun c7 => ?_)
      · have h8 := itS c7 hB51
        clear hB51 c7
        refine lv_aload_n hx hb dX4_greatestBefore_62 rfl (lv_at hl6 1 rfl) ?_
        refine lv_iload_n hx hb dX4_greatestBefore_63 rfl (lv_at hl6 4 rfl) ?_
        refine lv_iconst (v := 1) hx hb dX4_greatestBefore_64 (by decide) ?_
        refine lv_iadd hx hb dX4_greatestBefore_65 ?_
        refine lv_iload_n hx hb dX4_greatestBefore_66 rfl (lv_at hl6 2 rfl) ?_
        refine lv_iconst (v := 1) hx hb dX4_greatestBefore_67 (by decide) ?_
        refine lv_isub hx hb dX4_greatestBefore_68 ?_
        obtain ⟨r69_10, hc11, h12⟩ := cb1_s h8
        clear h8
        refine kgoiE (krunV (rest := []) X hVB51 [0, 1] (c_X4_greatestOf l E _ a0 a1 (w0_1) (w0_2) (w0_3) (w0_4) (w0_5) (w0_6) s_heights (v31_1 + 1) (p1 - 1) r69_10 hc11) mw_816 kb_X4_greatestOf (ci := 4) rfl rfl (by decide) rfl rfl hl6.1 rfl (Nat.le_of_ble_eq_true rfl) dX4_greatestBefore_69 (by decide)) X hVB51 [0, 1] [] rfl rfl rfl (by decide) (fun u H locs hV13 => ?_)
        have hV13 : kV E A s.heap H locs [(a0, .inr (4, [.ref a1, w0_1, w0_2, w0_3, w0_4, w0_5, w0_6])), (a1, .inl (E.2 0, 1440, .inl s_heights))] := hV13.sub [0, 1] rfl rfl
        clear hVB51
        have q15 := tup1_s h12
        clear h12
        exact hret _ () _ _ _ _ q15 rfl hV13 dX4_greatestBefore_72
      · have h9 := ieS c7 hB51
        clear hB51 c7
        refine lv_iload_n hx hb dX4_greatestBefore_58 rfl (lv_at hl6 3 rfl) ?_
        refine lv_goto (tgt := 72) hx hb dX4_greatestBefore_59 (by decide) ?_
        have q16 := tup1_s h9
        clear h9
        exact hret _ () _ _ _ _ q16 rfl hVB51 dX4_greatestBefore_72
    refine lv_if_lt (tgt := 46) hx hb dX4_greatestBefore_33 (by decide) (fun c17 => ?_) (fun c17 => ?_)
    · have h18 := itS c17 h3
      clear h3 c17
      refine lv_iconst (v := 1) hx hb dX4_greatestBefore_46 (by decide) ?_
      refine lv_goto (tgt := 51) hx hb dX4_greatestBefore_47 (by decide) ?_
      exact J51 1 _ _ _ h18 hVB25 (lv_sub hl4 [1, 2, 3, 0] rfl)
    · have h19 := ieS c17 h3
      clear h3 c17
      refine lv_aload_n hx hb dX4_greatestBefore_36 rfl (lv_at hl4 1 rfl) ?_
      refine kget X hVB25 (ci := 4) inlX4 rfl 0 rfl 0 (by decide) mw_87 rfl dX4_greatestBefore_37 ?_
      refine lv_iload_n hx hb dX4_greatestBefore_40 rfl (lv_at hl4 0 rfl) ?_
      obtain ⟨hi21, v41_20, e22, h23⟩ := rdI_s h19
      clear h19
      refine kiald X hVB25 1 rfl hi21 e22 dX4_greatestBefore_41 ?_
      clear hi21 e22
      refine lv_iload_n hx hb dX4_greatestBefore_42 rfl (lv_at hl4 3 rfl) ?_
      refine lv_icmp_ge (tgt := 50) hx hb dX4_greatestBefore_43 (by decide) (fun c24 => ?_) (fun c24 => ?_)
      · have h25 := itS c24 h23
        clear h23 c24
        refine lv_iconst (v := 0) hx hb dX4_greatestBefore_50 (by decide) ?_
        exact J51 0 _ _ _ h25 hVB25 (lv_sub hl4 [1, 2, 3, 0] rfl)
      · have h26 := ieS c24 h23
        clear h23 c24
        refine lv_iconst (v := 1) hx hb dX4_greatestBefore_46 (by decide) ?_
        refine lv_goto (tgt := 51) hx hb dX4_greatestBefore_47 (by decide) ?_
        exact J51 1 _ _ _ h26 hVB25 (lv_sub hl4 [1, 2, 3, 0] rfl)
  refine lv_if_le (tgt := 25) hx hb dX4_greatestBefore_1 (by decide) (fun c27 => ?_) (fun c27 => ?_)
  · have h28 := itS c27 h
    clear h c27
    exact J25  _ _ _ h28 hV (lv_sub hl [0, 1, 2] rfl)
  · have h29 := ieS c27 h
    clear h c27
    refine lv_aload_n hx hb dX4_greatestBefore_4 rfl (lv_at hl 0 rfl) ?_
    refine kget X hV (ci := 4) inlX4 rfl 0 rfl 0 (by decide) mw_87 rfl dX4_greatestBefore_5 ?_
    refine lv_iload_n hx hb dX4_greatestBefore_8 rfl (lv_at hl 1 rfl) ?_
    refine lv_iconst (v := 1) hx hb dX4_greatestBefore_9 (by decide) ?_
    refine lv_isub hx hb dX4_greatestBefore_10 ?_
    obtain ⟨hi31, v11_30, e32, h33⟩ := rdI_s h29
    clear h29
    refine kiald X hV 1 rfl hi31 e32 dX4_greatestBefore_11 ?_
    clear hi31 e32
    refine lv_iload_n hx hb dX4_greatestBefore_12 rfl (lv_at hl 2 rfl) ?_
    refine lv_icmp_lt (tgt := 25) hx hb dX4_greatestBefore_13 (by decide) (fun c34 => ?_) (fun c34 => ?_)
    · have h35 := itS c34 h33
      clear h33 c34
      exact J25  _ _ _ h35 hV (lv_sub hl [0, 1, 2] rfl)
    · have h36 := ieS c34 h33
      clear h33 c34
      refine lv_aload_n hx hb dX4_greatestBefore_16 rfl (lv_at hl 0 rfl) ?_
      refine kget X hV (ci := 4) inlX4 rfl 0 rfl 0 (by decide) mw_87 rfl dX4_greatestBefore_17 ?_
      refine lv_iload_n hx hb dX4_greatestBefore_20 rfl (lv_at hl 1 rfl) ?_
      refine lv_iconst (v := 1) hx hb dX4_greatestBefore_21 (by decide) ?_
      refine lv_isub hx hb dX4_greatestBefore_22 ?_
      obtain ⟨hi38, v23_37, e39, h40⟩ := rdI_s h36
      clear h36
      refine kiald X hV 1 rfl hi38 e39 dX4_greatestBefore_23 ?_
      clear hi38 e39
      have q41 := tup1_s h40
      clear h40
      exact hret _ () _ _ _ _ q41 rfl hV dX4_greatestBefore_24
abbrev r_X4_isMarked : Room := { frames := 2, cells := 0, slots := 0, locals := 42 }
set_option maxHeartbeats 4000000 in
set_option maxRecDepth 100000 in
theorem c_X4_isMarked (l : Launch) (E : kE) (sz : Nat) (a0 a1 : Nat) (w0_0 w0_1 w0_2 w0_4 w0_5 w0_6 : Value) (s_marked : Nat → Int32) (p1 : Int32) (p2 : Int32) (r : Int32) (h : f_X4_isMarked s_marked p1 p2 = some (r)) : kMi l yX4_isMarked cX4_isMarked 3 (some .boolean) r_X4_isMarked [.ref a0, .int p1, .int p2] E [(a0, .inr (4, [w0_0, w0_1, w0_2, .ref a1, w0_4, w0_5, w0_6])), (a1, .inl (E.2 0, 1440, .inl s_marked))] sz 0 0 (fun x (_ : Unit) => x = r) (fun _ => [(a0, .inr (4, [w0_0, w0_1, w0_2, .ref a1, w0_4, w0_5, w0_6])), (a1, .inl (E.2 0, 1440, .inl s_marked))]) := by
  refine kmeti rfl (Nat.le_of_ble_eq_true rfl) ?_
  intro p e s m args below meth c ls A Q X hV hret hl
  have X : kC p s m c cX4_isMarked 3 RX4 args E A := X
  have hx := X.1
  have hb := X.2.1
  have hl : lv_has ls 3 [(0, .ref a0), (1, .int p1), (2, .int p2)] := hl
  rw [f_X4_isMarked] at h
  refine lv_iload_n hx hb dX4_isMarked_0 rfl (lv_at hl 2 rfl) ?_
  obtain ⟨r1_1, hc2, h3⟩ := cb1_s h
  clear h
  refine kgoiE (krunSN (rest := []) X hV [] (c_X11_isMinute l E _ p2 r1_1 hc2) (List.mem_of_getElem? (i := 3) rfl) kb_X11_isMinute (by decide) rfl rfl hl.1 rfl (Nat.le_of_ble_eq_true rfl) dX4_isMarked_1 (by decide)) X hV [] [0, 1] rfl rfl rfl (by decide) (fun u H locs hV4 => ?_)
  have hV4 : kV E A s.heap H locs [(a0, .inr (4, [w0_0, w0_1, w0_2, .ref a1, w0_4, w0_5, w0_6])), (a1, .inl (E.2 0, 1440, .inl s_marked))] := hV4.sub [0, 1] rfl rfl
  clear hV
  refine lv_if_eq (tgt := 25) hx hb dX4_isMarked_4 (by decide) (fun c6 => ?_) (fun c6 => ?_)
  · have h7 := itS c6 h3
    clear h3 c6
    refine lv_iconst (v := 0) hx hb dX4_isMarked_25 (by decide) ?_
    have q9 := tup1_s h7
    clear h7
    exact hret _ () _ _ _ _ q9 rfl hV4 dX4_isMarked_26
  · have h8 := ieS c6 h3
    clear h3 c6
    refine lv_aload_n hx hb dX4_isMarked_7 rfl (lv_at hl 0 rfl) ?_
    refine kget X hV4 (ci := 4) inlX4 rfl 0 rfl 3 (by decide) mw_90 rfl dX4_isMarked_8 ?_
    refine lv_iload_n hx hb dX4_isMarked_11 rfl (lv_at hl 2 rfl) ?_
    obtain ⟨hi11, v12_10, e12, h13⟩ := rdI_s h8
    clear h8
    refine kiald X hV4 1 rfl hi11 e12 dX4_isMarked_12 ?_
    clear hi11 e12
    refine lv_iload_n hx hb dX4_isMarked_13 rfl (lv_at hl 1 rfl) ?_
    refine lv_ishr hx hb dX4_isMarked_14 ?_
    refine lv_iconst (v := 1) hx hb dX4_isMarked_15 (by decide) ?_
    refine lv_iand hx hb dX4_isMarked_16 ?_
    refine lv_iconst (v := 1) hx hb dX4_isMarked_17 (by decide) ?_
    refine lv_icmp_ne (tgt := 25) hx hb dX4_isMarked_18 (by decide) (fun c14 => ?_) (fun c14 => ?_)
    · have h15 := ieS c14 h13
      clear h13 c14
      refine lv_iconst (v := 0) hx hb dX4_isMarked_25 (by decide) ?_
      have q17 := tup1_s h15
      clear h15
      exact hret _ () _ _ _ _ q17 rfl hV4 dX4_isMarked_26
    · have h16 := itS c14 h13
      clear h13 c14
      refine lv_iconst (v := 1) hx hb dX4_isMarked_21 (by decide) ?_
      refine lv_goto (tgt := 26) hx hb dX4_isMarked_22 (by decide) ?_
      have q18 := tup1_s h16
      clear h16
      exact hret _ () _ _ _ _ q18 rfl hV4 dX4_isMarked_26
abbrev r_X4_read : Room := { frames := 3, cells := 0, slots := 0, locals := 71 }
set_option maxHeartbeats 4000000 in
set_option maxRecDepth 100000 in
theorem c_X4_read (l : Launch) (E : kE) (sz : Nat) (a0 a1 a2 a3 a4 a5 : Nat) (w0_2 w3_1 : Value) (s_readers : Int32) (s_day : Int32) (s_heights : Nat → Int32) (s_marked : Nat → Int32) (s_shapes : Nat → Int32) (s_reckoner_letters : Nat → Int32) (p1 : Int32) (o_readers : Int32) (o_marked : Nat → Int32) (o_reckoner_letters : Nat → Int32) (h : f_X4_read s_readers s_day s_heights s_marked s_shapes s_reckoner_letters p1 = some (o_readers, o_marked, o_reckoner_letters)) : kMv l yX4_read cX4_read 8 r_X4_read [.ref a0, .int p1, .null] E [(a0, .inr (4, [.ref a1, .ref a4, w0_2, .ref a2, .ref a3, .int s_readers, .int s_day])), (a1, .inl (E.2 0, 1440, .inl s_heights)), (a2, .inl (E.2 0, 1440, .inl s_marked)), (a3, .inr (5, [.ref a5, w3_1])), (a4, .inl (E.2 0, 1440, .inl s_shapes)), (a5, .inl (E.2 0, 128, .inl s_reckoner_letters))] sz 0 0 (fun (_ : Unit) => True) (fun _ => [(a0, .inr (4, [.ref a1, .ref a4, w0_2, .ref a2, .ref a3, .int o_readers, .int s_day])), (a1, .inl (E.2 0, 1440, .inl s_heights)), (a2, .inl (E.2 0, 1440, .inl o_marked)), (a3, .inr (5, [.ref a5, w3_1])), (a4, .inl (E.2 0, 1440, .inl s_shapes)), (a5, .inl (E.2 0, 128, .inl o_reckoner_letters))]) := by
  refine kmetv rfl (Nat.le_of_ble_eq_true rfl) ?_
  intro p e s m args below meth c ls A Q X hnm hV hret hl
  have X : kC p s m c cX4_read 8 RX4 args E A := X
  have hx := X.1
  have hb := X.2.1
  have hl : lv_has ls 8 [(0, .ref a0), (1, .int p1), (2, .null)] := hl
  rw [f_X4_read] at h
  refine lv_iconst (v := 1) hx hb dX4_read_0 (by decide) ?_
  refine lv_iload_n hx hb dX4_read_1 rfl (lv_at hl 1 rfl) ?_
  refine lv_ishl hx hb dX4_read_2 ?_
  obtain ⟨v3_1, e2, h3⟩ := nmI_s h
  clear h
  refine ktopi e2 ?_
  clear e2
  refine lv_istore_n (lv' := [(3, .int v3_1), (0, .ref a0), (1, .int p1), (2, .null)]) hx hb dX4_read_3 rfl hl (by decide) rfl (fun ls hl4 => ?_)
  clear hl
  refine lv_aload_n hx hb dX4_read_4 rfl (lv_at hl4 1 rfl) ?_
  refine kget X hV (ci := 4) inlX4 rfl 0 rfl 5 (by decide) mw_93 rfl dX4_read_5 ?_
  refine lv_iload_n hx hb dX4_read_8 rfl (lv_at hl4 0 rfl) ?_
  refine lv_iand hx hb dX4_read_9 ?_
  refine lv_if_eq (tgt := 14) hx hb dX4_read_10 (by decide) (fun c5 => ?_) (fun c5 => ?_)
  · have h6 := itS c5 h3
    clear h3 c5
    refine lv_aload_n hx hb dX4_read_14 rfl (lv_at hl4 1 rfl) ?_
    refine lv_dup hx hb dX4_read_15 rfl ?_
    refine kget X hV (ci := 4) inlX4 rfl 0 rfl 5 (by decide) mw_93 rfl dX4_read_16 ?_
    refine lv_iload_n hx hb dX4_read_19 rfl (lv_at hl4 0 rfl) ?_
    refine lv_ior hx hb dX4_read_20 ?_
    obtain ⟨v21_8, e9, h10⟩ := nmI_s h6
    clear h6
    refine ktopi e9 ?_
    clear e9
    refine kput X hV (ci := 4) inlX4 rfl tyX4 tyX4_ok nmX4 0 rfl 5 (by decide) mw_93 rfl rfl rfl (Nat.le_of_ble_eq_true rfl) dX4_read_21 (fun H locs hV11 => ?_)
    have hV11 : kV E A s.heap H locs [(a0, .inr (4, [.ref a1, .ref a4, w0_2, .ref a2, .ref a3, .int v21_8, .int s_day])), (a1, .inl (E.2 0, 1440, .inl s_heights)), (a2, .inl (E.2 0, 1440, .inl s_marked)), (a3, .inr (5, [.ref a5, w3_1])), (a4, .inl (E.2 0, 1440, .inl s_shapes)), (a5, .inl (E.2 0, 128, .inl s_reckoner_letters))] := hV11
    clear hV
    refine lv_aload_n hx hb dX4_read_24 rfl (lv_at hl4 1 rfl) ?_
    refine kget X hV11 (ci := 4) inlX4 rfl 0 rfl 4 (by decide) mw_92 rfl dX4_read_25 ?_
    refine kget X hV11 (ci := 5) inlX5 rfl 3 rfl 0 (by decide) mw_811 rfl dX4_read_28 ?_
    refine lv_astore (lv' := [(4, .ref a5), (3, .int v3_1), (0, .ref a0), (1, .int p1), (2, .null)]) hx hb dX4_read_31 hl4 (by decide) rfl (fun ls hl12 => ?_)
    clear hl4
    refine lv_aload hx hb dX4_read_33 (lv_at hl12 0 rfl) ?_
    refine lv_bipush (v := 100) hx hb dX4_read_35 (by decide) ?_
    refine lv_aload_n hx hb dX4_read_37 rfl (lv_at hl12 2 rfl) ?_
    refine kget X hV11 (ci := 4) inlX4 rfl 0 rfl 6 (by decide) mw_94 rfl dX4_read_38 ?_
    obtain ⟨hi14, g41_13, e15, h16⟩ := wrI_s h10
    clear h10
    refine kiast X hV11 5 rfl hi14 e15 dX4_read_41 (fun H locs hV17 => ?_)
    have hV17 : kV E A s.heap H locs [(a0, .inr (4, [.ref a1, .ref a4, w0_2, .ref a2, .ref a3, .int v21_8, .int s_day])), (a1, .inl (E.2 0, 1440, .inl s_heights)), (a2, .inl (E.2 0, 1440, .inl s_marked)), (a3, .inr (5, [.ref a5, w3_1])), (a4, .inl (E.2 0, 1440, .inl s_shapes)), (a5, .inl (E.2 0, 128, .inl g41_13))] := hV17
    clear hV11 hi14 e15
    refine lv_aload hx hb dX4_read_42 (lv_at hl12 0 rfl) ?_
    refine lv_bipush (v := 102) hx hb dX4_read_44 (by decide) ?_
    refine lv_aload_n hx hb dX4_read_46 rfl (lv_at hl12 2 rfl) ?_
    refine kget X hV17 (ci := 4) inlX4 rfl 0 rfl 6 (by decide) mw_94 rfl dX4_read_47 ?_
    refine lv_bipush (v := 7) hx hb dX4_read_50 (by decide) ?_
    refine lv_irem hx hb dX4_read_52 (by decide) ?_
    obtain ⟨v53_18, e19, h20⟩ := nmI_s h16
    clear h16
    refine ktopi e19 ?_
    clear e19
    obtain ⟨hi22, g53_21, e23, h24⟩ := wrI_s h20
    clear h20
    refine kiast X hV17 5 rfl hi22 e23 dX4_read_53 (fun H locs hV25 => ?_)
    have hV25 : kV E A s.heap H locs [(a0, .inr (4, [.ref a1, .ref a4, w0_2, .ref a2, .ref a3, .int v21_8, .int s_day])), (a1, .inl (E.2 0, 1440, .inl s_heights)), (a2, .inl (E.2 0, 1440, .inl s_marked)), (a3, .inr (5, [.ref a5, w3_1])), (a4, .inl (E.2 0, 1440, .inl s_shapes)), (a5, .inl (E.2 0, 128, .inl g53_21))] := hV25
    clear hV17 hi22 e23
    refine lv_aload hx hb dX4_read_54 (lv_at hl12 0 rfl) ?_
    refine lv_bipush (v := 116) hx hb dX4_read_56 (by decide) ?_
    refine lv_iconst (v := 0) hx hb dX4_read_58 (by decide) ?_
    obtain ⟨hi27, g59_26, e28, h29⟩ := wrI_s h24
    clear h24
    refine kiast X hV25 5 rfl hi27 e28 dX4_read_59 (fun H locs hV30 => ?_)
    have hV30 : kV E A s.heap H locs [(a0, .inr (4, [.ref a1, .ref a4, w0_2, .ref a2, .ref a3, .int v21_8, .int s_day])), (a1, .inl (E.2 0, 1440, .inl s_heights)), (a2, .inl (E.2 0, 1440, .inl s_marked)), (a3, .inr (5, [.ref a5, w3_1])), (a4, .inl (E.2 0, 1440, .inl s_shapes)), (a5, .inl (E.2 0, 128, .inl g59_26))] := hV30
    clear hV25 hi27 e28
    refine lv_iconst (v := 0) hx hb dX4_read_60 (by decide) ?_
    refine lv_istore (lv' := [(5, .int 0), (4, .ref a5), (3, .int v3_1), (0, .ref a0), (1, .int p1), (2, .null)]) hx hb dX4_read_61 hl12 (by decide) rfl (fun ls hl31 => ?_)
    clear hl12
    refine lv_iconst (v := 0) hx hb dX4_read_63 (by decide) ?_
    refine lv_istore (lv' := [(6, .int 0), (5, .int 0), (4, .ref a5), (3, .int v3_1), (0, .ref a0), (1, .int p1), (2, .null)]) hx hb dX4_read_64 hl31 (by decide) rfl (fun ls hl32 => ?_)
    clear hl31
    have L66 : ∀ (n66 : Nat) (x5_33 : Int32) (x6_34 : Int32) (marked__35 : Nat → Int32) (reckoner_letters__36 : Nat → Int32) (H : Heap) (locs : List Loc) (ls : Array Slot), (f_X4_read_L66 s_day s_heights s_shapes p1 v3_1 v21_8  n66) x5_33 x6_34 marked__35 reckoner_letters__36 = some (o_readers, o_marked, o_reckoner_letters) → kV E A s.heap H locs [(a0, .inr (4, [.ref a1, .ref a4, w0_2, .ref a2, .ref a3, .int v21_8, .int s_day])), (a1, .inl (E.2 0, 1440, .inl s_heights)), (a2, .inl (E.2 0, 1440, .inl marked__35)), (a3, .inr (5, [.ref a5, w3_1])), (a4, .inl (E.2 0, 1440, .inl s_shapes)), (a5, .inl (E.2 0, 128, .inl reckoner_letters__36))] → lv_has ls 8 [(0, .ref a0), (1, .int p1), (2, .null), (3, .int v3_1), (4, .ref a5), (5, .int x5_33), (6, .int x6_34)] → W p l e r_X4_read s m args below meth c H locs 0 0 Q (F0 m 66 ls []) := by
      intro n66
      induction n66 with
      | zero =>
        intro x5_33 x6_34 marked__35 reckoner_letters__36 H locs ls hB66 hVB66 hlB66
        rw [f_X4_read_L66] at hB66
        exact nomatch hB66
      | succ n66 ih66 =>
        intro x5_33 x6_34 marked__35 reckoner_letters__36 H locs ls hB66 hVB66 hlB66
        rw [f_X4_read_L66] at hB66
        refine lv_iload hx hb dX4_read_66 (lv_at hlB66 6 rfl) ?_
        refine lv_sipush (v := 1440) hx hb dX4_read_68 (by decide) ?_
        refine lv_icmp_ge (tgt := 256) hx hb dX4_read_71 (by decide) (fun c37 => ?_) (fun c37 => ?_)
        · have h38 := itS c37 hB66
          clear hB66 c37
          obtain ⟨q40, q41, q42⟩ := tup3_s h38
          clear h38
          exact hret () _ _ _ _ trivial (by rw [← q40, ← q41, ← q42]; exact hVB66) dX4_read_256
        · have h39 := ieS c37 hB66
          clear hB66 c37
          refine lv_aload_n hx hb dX4_read_74 rfl (lv_at hlB66 0 rfl) ?_
          refine lv_iload hx hb dX4_read_75 (lv_at hlB66 6 rfl) ?_
          refine lv_iload hx hb dX4_read_77 (lv_at hlB66 5 rfl) ?_
          obtain ⟨r79_43, hc44, h45⟩ := cb1_s h39
          clear h39
          refine kgoiE (krunV (rest := []) X hVB66 [0, 1] (c_X4_greatestBefore l E _ a0 a1 (.ref a4) (w0_2) (.ref a2) (.ref a3) (.int v21_8) (.int s_day) s_heights x6_34 x5_33 r79_43 hc44) mw_812 kb_X4_greatestBefore (ci := 4) rfl rfl (by decide) rfl rfl hlB66.1 rfl (Nat.le_of_ble_eq_true rfl) dX4_read_79 (by decide)) X hVB66 [0, 1] [2, 3, 4, 5] rfl rfl rfl (by decide) (fun u H locs hV46 => ?_)
          have hV46 : kV E A s.heap H locs [(a0, .inr (4, [.ref a1, .ref a4, w0_2, .ref a2, .ref a3, .int v21_8, .int s_day])), (a1, .inl (E.2 0, 1440, .inl s_heights)), (a2, .inl (E.2 0, 1440, .inl marked__35)), (a3, .inr (5, [.ref a5, w3_1])), (a4, .inl (E.2 0, 1440, .inl s_shapes)), (a5, .inl (E.2 0, 128, .inl reckoner_letters__36))] := hV46.sub [4, 5, 0, 1, 2, 3] rfl rfl
          clear hVB66
          refine lv_istore (lv' := [(5, .int r79_43), (0, .ref a0), (1, .int p1), (2, .null), (3, .int v3_1), (4, .ref a5), (6, .int x6_34)]) hx hb dX4_read_82 hlB66 (by decide) rfl (fun ls hl48 => ?_)
          clear hlB66
          refine lv_aload hx hb dX4_read_84 (lv_at hl48 5 rfl) ?_
          refine lv_bipush (v := 103) hx hb dX4_read_86 (by decide) ?_
          refine lv_iload hx hb dX4_read_88 (lv_at hl48 0 rfl) ?_
          obtain ⟨hi50, g90_49, e51, h52⟩ := wrI_s h45
          clear h45
          refine kiast X hV46 5 rfl hi50 e51 dX4_read_90 (fun H locs hV53 => ?_)
          have hV53 : kV E A s.heap H locs [(a0, .inr (4, [.ref a1, .ref a4, w0_2, .ref a2, .ref a3, .int v21_8, .int s_day])), (a1, .inl (E.2 0, 1440, .inl s_heights)), (a2, .inl (E.2 0, 1440, .inl marked__35)), (a3, .inr (5, [.ref a5, w3_1])), (a4, .inl (E.2 0, 1440, .inl s_shapes)), (a5, .inl (E.2 0, 128, .inl g90_49))] := hV53
          clear hV46 hi50 e51
          refine lv_aload hx hb dX4_read_91 (lv_at hl48 5 rfl) ?_
          refine lv_bipush (v := 104) hx hb dX4_read_93 (by decide) ?_
          refine lv_aload_n hx hb dX4_read_95 rfl (lv_at hl48 1 rfl) ?_
          refine kget X hV53 (ci := 4) inlX4 rfl 0 rfl 0 (by decide) mw_87 rfl dX4_read_96 ?_
          refine lv_iload hx hb dX4_read_99 (lv_at hl48 6 rfl) ?_
          obtain ⟨hi55, v101_54, e56, h57⟩ := rdI_s h52
          clear h52
          refine kiald X hV53 1 rfl hi55 e56 dX4_read_101 ?_
          clear hi55 e56
          obtain ⟨hi59, g102_58, e60, h61⟩ := wrI_s h57
          clear h57
          refine kiast X hV53 5 rfl hi59 e60 dX4_read_102 (fun H locs hV62 => ?_)
          have hV62 : kV E A s.heap H locs [(a0, .inr (4, [.ref a1, .ref a4, w0_2, .ref a2, .ref a3, .int v21_8, .int s_day])), (a1, .inl (E.2 0, 1440, .inl s_heights)), (a2, .inl (E.2 0, 1440, .inl marked__35)), (a3, .inr (5, [.ref a5, w3_1])), (a4, .inl (E.2 0, 1440, .inl s_shapes)), (a5, .inl (E.2 0, 128, .inl g102_58))] := hV62
          clear hV53 hi59 e60
          refine lv_aload hx hb dX4_read_103 (lv_at hl48 5 rfl) ?_
          refine lv_bipush (v := 98) hx hb dX4_read_105 (by decide) ?_
          refine lv_iload hx hb dX4_read_107 (lv_at hl48 6 rfl) ?_
          have J125 : ∀ (t2_63 : Int32) (H : Heap) (locs : List Loc) (ls : Array Slot), (f_X4_read_J125 s_day s_shapes p1 v3_1 x6_34 marked__35 r79_43 g102_58 (f_X4_read_L66 s_day s_heights s_shapes p1 v3_1 v21_8  n66)) t2_63 = some (o_readers, o_marked, o_reckoner_letters) → kV E A s.heap H locs [(a0, .inr (4, [.ref a1, .ref a4, w0_2, .ref a2, .ref a3, .int v21_8, .int s_day])), (a1, .inl (E.2 0, 1440, .inl s_heights)), (a2, .inl (E.2 0, 1440, .inl marked__35)), (a3, .inr (5, [.ref a5, w3_1])), (a4, .inl (E.2 0, 1440, .inl s_shapes)), (a5, .inl (E.2 0, 128, .inl g102_58))] → lv_has ls 8 [(0, .ref a0), (1, .int p1), (2, .null), (3, .int v3_1), (4, .ref a5), (5, .int r79_43), (6, .int x6_34)] → W p l e r_X4_read s m args below meth c H locs 0 0 Q (F0 m 125 ls [.int t2_63, .int 98, .ref a5]) := by
            intro t2_63 H locs ls hB125 hVB125 hlB125
            rw [f_X4_read_J125] at hB125
            obtain ⟨hi65, g125_64, e66, h67⟩ := wrI_s hB125
            clear hB125
            refine kiast X hVB125 5 rfl hi65 e66 dX4_read_125 (fun H locs hV68 => ?_)
            have hV68 : kV E A s.heap H locs [(a0, .inr (4, [.ref a1, .ref a4, w0_2, .ref a2, .ref a3, .int v21_8, .int s_day])), (a1, .inl (E.2 0, 1440, .inl s_heights)), (a2, .inl (E.2 0, 1440, .inl marked__35)), (a3, .inr (5, [.ref a5, w3_1])), (a4, .inl (E.2 0, 1440, .inl s_shapes)), (a5, .inl (E.2 0, 128, .inl g125_64))] := hV68
            clear hVB125 hi65 e66
            refine lv_aload hx hb dX4_read_126 (lv_at hlB125 4 rfl) ?_
            refine lv_bipush (v := 108) hx hb dX4_read_128 (by decide) ?_
            refine lv_aload_n hx hb dX4_read_130 rfl (lv_at hlB125 0 rfl) ?_
            refine kget X hV68 (ci := 4) inlX4 rfl 0 rfl 1 (by decide) mw_88 rfl dX4_read_131 ?_
            refine lv_iload hx hb dX4_read_134 (lv_at hlB125 6 rfl) ?_
            obtain ⟨hi70, v136_69, e71, h72⟩ := rdI_s h67
            clear h67
            refine kiald X hV68 4 rfl hi70 e71 dX4_read_136 ?_
            clear hi70 e71
            obtain ⟨hi74, g137_73, e75, h76⟩ := wrI_s h72
            clear h72
            refine kiast X hV68 5 rfl hi74 e75 dX4_read_137 (fun H locs hV77 => ?_)
            have hV77 : kV E A s.heap H locs [(a0, .inr (4, [.ref a1, .ref a4, w0_2, .ref a2, .ref a3, .int v21_8, .int s_day])), (a1, .inl (E.2 0, 1440, .inl s_heights)), (a2, .inl (E.2 0, 1440, .inl marked__35)), (a3, .inr (5, [.ref a5, w3_1])), (a4, .inl (E.2 0, 1440, .inl s_shapes)), (a5, .inl (E.2 0, 128, .inl g137_73))] := hV77
            clear hV68 hi74 e75
            refine lv_aload hx hb dX4_read_138 (lv_at hlB125 4 rfl) ?_
            refine lv_bipush (v := 109) hx hb dX4_read_140 (by decide) ?_
            refine lv_iload hx hb dX4_read_142 (lv_at hlB125 6 rfl) ?_
            obtain ⟨hi79, g144_78, e80, h81⟩ := wrI_s h76
            clear h76
            refine kiast X hV77 5 rfl hi79 e80 dX4_read_144 (fun H locs hV82 => ?_)
            have hV82 : kV E A s.heap H locs [(a0, .inr (4, [.ref a1, .ref a4, w0_2, .ref a2, .ref a3, .int v21_8, .int s_day])), (a1, .inl (E.2 0, 1440, .inl s_heights)), (a2, .inl (E.2 0, 1440, .inl marked__35)), (a3, .inr (5, [.ref a5, w3_1])), (a4, .inl (E.2 0, 1440, .inl s_shapes)), (a5, .inl (E.2 0, 128, .inl g144_78))] := hV82
            clear hV77 hi79 e80
            refine lv_aload hx hb dX4_read_145 (lv_at hlB125 4 rfl) ?_
            refine lv_bipush (v := 115) hx hb dX4_read_147 (by decide) ?_
            refine lv_aload_n hx hb dX4_read_149 rfl (lv_at hlB125 0 rfl) ?_
            refine kget X hV82 (ci := 4) inlX4 rfl 0 rfl 6 (by decide) mw_94 rfl dX4_read_150 ?_
            refine lv_iload hx hb dX4_read_153 (lv_at hlB125 6 rfl) ?_
            obtain ⟨r155_83, hc84, h85⟩ := cb1_s h81
            clear h81
            refine kgoiE (krunSN (rest := [.int 115, .ref a5]) X hV82 [] (c_X11_starMinute l E _ s_day x6_34 r155_83 hc84) (List.mem_of_getElem? (i := 4) rfl) kb_X11_starMinute (by decide) rfl rfl hlB125.1 rfl (Nat.le_of_ble_eq_true rfl) dX4_read_155 (by decide)) X hV82 [] [0, 1, 2, 3, 4, 5] rfl rfl rfl (by decide) (fun u H locs hV86 => ?_)
            have hV86 : kV E A s.heap H locs [(a0, .inr (4, [.ref a1, .ref a4, w0_2, .ref a2, .ref a3, .int v21_8, .int s_day])), (a1, .inl (E.2 0, 1440, .inl s_heights)), (a2, .inl (E.2 0, 1440, .inl marked__35)), (a3, .inr (5, [.ref a5, w3_1])), (a4, .inl (E.2 0, 1440, .inl s_shapes)), (a5, .inl (E.2 0, 128, .inl g144_78))] := hV86.sub [0, 1, 2, 3, 4, 5] rfl rfl
            clear hV82
            obtain ⟨hi89, g158_88, e90, h91⟩ := wrI_s h85
            clear h85
            refine kiast X hV86 5 rfl hi89 e90 dX4_read_158 (fun H locs hV92 => ?_)
            have hV92 : kV E A s.heap H locs [(a0, .inr (4, [.ref a1, .ref a4, w0_2, .ref a2, .ref a3, .int v21_8, .int s_day])), (a1, .inl (E.2 0, 1440, .inl s_heights)), (a2, .inl (E.2 0, 1440, .inl marked__35)), (a3, .inr (5, [.ref a5, w3_1])), (a4, .inl (E.2 0, 1440, .inl s_shapes)), (a5, .inl (E.2 0, 128, .inl g158_88))] := hV92
            clear hV86 hi89 e90
            refine lv_aload_n hx hb dX4_read_159 rfl (lv_at hlB125 0 rfl) ?_
            refine lv_iload_n hx hb dX4_read_160 rfl (lv_at hlB125 1 rfl) ?_
            refine lv_iload hx hb dX4_read_161 (lv_at hlB125 6 rfl) ?_
            refine lv_iconst (v := 2) hx hb dX4_read_163 (by decide) ?_
            refine lv_isub hx hb dX4_read_164 ?_
            obtain ⟨r165_93, hc94, h95⟩ := cb1_s h91
            clear h91
            refine kgoiE (krunV (rest := []) X hV92 [0, 2] (c_X4_isMarked l E _ a0 a2 (.ref a1) (.ref a4) (w0_2) (.ref a3) (.int v21_8) (.int s_day) marked__35 p1 (x6_34 - 2) r165_93 hc94) mw_821 kb_X4_isMarked (ci := 4) rfl rfl (by decide) rfl rfl hlB125.1 rfl (Nat.le_of_ble_eq_true rfl) dX4_read_165 (by decide)) X hV92 [0, 2] [1, 3, 4, 5] rfl rfl rfl (by decide) (fun u H locs hV96 => ?_)
            have hV96 : kV E A s.heap H locs [(a0, .inr (4, [.ref a1, .ref a4, w0_2, .ref a2, .ref a3, .int v21_8, .int s_day])), (a1, .inl (E.2 0, 1440, .inl s_heights)), (a2, .inl (E.2 0, 1440, .inl marked__35)), (a3, .inr (5, [.ref a5, w3_1])), (a4, .inl (E.2 0, 1440, .inl s_shapes)), (a5, .inl (E.2 0, 128, .inl g158_88))] := hV96.sub [4, 0, 5, 1, 2, 3] rfl rfl
            clear hV92
            have J192 : ∀ (reckoner_letters__98 : Nat → Int32) (H : Heap) (locs : List Loc) (ls : Array Slot), (f_X4_read_J192 v3_1 x6_34 marked__35 r79_43 (f_X4_read_L66 s_day s_heights s_shapes p1 v3_1 v21_8  n66)) reckoner_letters__98 = some (o_readers, o_marked, o_reckoner_letters) → kV E A s.heap H locs [(a0, .inr (4, [.ref a1, .ref a4, w0_2, .ref a2, .ref a3, .int v21_8, .int s_day])), (a1, .inl (E.2 0, 1440, .inl s_heights)), (a2, .inl (E.2 0, 1440, .inl marked__35)), (a3, .inr (5, [.ref a5, w3_1])), (a4, .inl (E.2 0, 1440, .inl s_shapes)), (a5, .inl (E.2 0, 128, .inl reckoner_letters__98))] → lv_has ls 8 [(0, .ref a0), (1, .int p1), (2, .null), (3, .int v3_1), (4, .ref a5), (5, .int r79_43), (6, .int x6_34)] → W p l e r_X4_read s m args below meth c H locs 0 0 Q (F0 m 192 ls []) := by
              intro reckoner_letters__98 H locs ls hB192 hVB192 hlB192
              rw [f_X4_read_J192] at hB192
              refine lv_aload_nN hx hb dX4_read_192 rfl (lv_at hlB192 2 rfl) ?_
              refine lv_ifnullN (tgt := 212) hx hb dX4_read_193 (by decide) ?_
              refine lv_iconst (v := 0) hx hb dX4_read_212 (by decide) ?_
              refine lv_istore (lv' := [(7, .int 0), (0, .ref a0), (1, .int p1), (2, .null), (3, .int v3_1), (4, .ref a5), (5, .int r79_43), (6, .int x6_34)]) hx hb dX4_read_213 hlB192 (by decide) rfl (fun ls hl99 => ?_)
              clear hlB192
              refine lv_aload_n hx hb dX4_read_215 rfl (lv_at hl99 1 rfl) ?_
              refine kget X hVB192 (ci := 4) inlX4 rfl 0 rfl 3 (by decide) mw_90 rfl dX4_read_216 ?_
              refine lv_iload hx hb dX4_read_219 (lv_at hl99 7 rfl) ?_
              refine lv_iload hx hb dX4_read_221 (lv_at hl99 0 rfl) ?_
              refine lv_if_eq (tgt := 238) hx hb dX4_read_223 (by decide) (fun c100 => ?_) (fun c100 => by exact absurd c100 (by decide))
              clear c100
              refine lv_aload_n hx hb dX4_read_238 rfl (lv_at hl99 1 rfl) ?_
              refine kget X hVB192 (ci := 4) inlX4 rfl 0 rfl 3 (by decide) mw_90 rfl dX4_read_239 ?_
              refine lv_iload hx hb dX4_read_242 (lv_at hl99 7 rfl) ?_
              obtain ⟨hi102, v244_101, e103, h104⟩ := rdI_s hB192
              clear hB192
              refine kiald X hVB192 2 rfl hi102 e103 dX4_read_244 ?_
              clear hi102 e103
              refine lv_iload_n hx hb dX4_read_245 rfl (lv_at hl99 4 rfl) ?_
              refine lv_iconst (v := (-1)) hx hb dX4_read_246 (by decide) ?_
              refine lv_ixor hx hb dX4_read_247 ?_
              refine lv_iand hx hb dX4_read_248 ?_
              obtain ⟨v249_105, e106, h107⟩ := nmI_s h104
              clear h104
              refine ktopi e106 ?_
              clear e106
              obtain ⟨hi109, g249_108, e110, h111⟩ := wrI_s h107
              clear h107
              refine kiast X hVB192 2 rfl hi109 e110 dX4_read_249 (fun H locs hV112 => ?_)
              have hV112 : kV E A s.heap H locs [(a0, .inr (4, [.ref a1, .ref a4, w0_2, .ref a2, .ref a3, .int v21_8, .int s_day])), (a1, .inl (E.2 0, 1440, .inl s_heights)), (a2, .inl (E.2 0, 1440, .inl g249_108)), (a3, .inr (5, [.ref a5, w3_1])), (a4, .inl (E.2 0, 1440, .inl s_shapes)), (a5, .inl (E.2 0, 128, .inl reckoner_letters__98))] := hV112
              clear hVB192 hi109 e110
              obtain ⟨v250_113, e114, h115⟩ := nmI_s h111
              clear h111
              refine lv_iinc (v := v250_113) (lv' := [(6, .int v250_113), (7, .int 0), (0, .ref a0), (1, .int p1), (2, .null), (3, .int v3_1), (4, .ref a5), (5, .int r79_43)]) hx hb dX4_read_250 hl99 (k := 7) rfl (by rw [e114]; rfl) (by decide) rfl (fun ls hl116 => ?_)
              clear hl99 e114
              refine lv_goto (tgt := 66) hx hb dX4_read_253 (by decide) ?_
              exact ih66 r79_43 v250_113 g249_108 reckoner_letters__98 _ _ _ h115 hV112 (lv_sub hl116 [2, 3, 4, 5, 6, 7, 0] rfl)
            refine lv_if_eq (tgt := 192) hx hb dX4_read_168 (by decide) (fun c117 => ?_) (fun c117 => ?_)
            · have h118 := itS c117 h95
              clear h95 c117
              exact J192 g158_88 _ _ _ h118 hV96 (lv_sub hlB125 [0, 1, 2, 3, 4, 5, 6] rfl)
            · have h119 := ieS c117 h95
              clear h95 c117
              refine lv_aload_n hx hb dX4_read_171 rfl (lv_at hlB125 0 rfl) ?_
              refine lv_iload_n hx hb dX4_read_172 rfl (lv_at hlB125 1 rfl) ?_
              refine lv_iload hx hb dX4_read_173 (lv_at hlB125 6 rfl) ?_
              refine lv_iconst (v := 1) hx hb dX4_read_175 (by decide) ?_
              refine lv_isub hx hb dX4_read_176 ?_
              obtain ⟨r177_120, hc121, h122⟩ := cb1_s h119
              clear h119
              refine kgoiE (krunV (rest := []) X hV96 [0, 2] (c_X4_isMarked l E _ a0 a2 (.ref a1) (.ref a4) (w0_2) (.ref a3) (.int v21_8) (.int s_day) marked__35 p1 (x6_34 - 1) r177_120 hc121) mw_821 kb_X4_isMarked (ci := 4) rfl rfl (by decide) rfl rfl hlB125.1 rfl (Nat.le_of_ble_eq_true rfl) dX4_read_177 (by decide)) X hV96 [0, 2] [1, 3, 4, 5] rfl rfl rfl (by decide) (fun u H locs hV123 => ?_)
              have hV123 : kV E A s.heap H locs [(a0, .inr (4, [.ref a1, .ref a4, w0_2, .ref a2, .ref a3, .int v21_8, .int s_day])), (a1, .inl (E.2 0, 1440, .inl s_heights)), (a2, .inl (E.2 0, 1440, .inl marked__35)), (a3, .inr (5, [.ref a5, w3_1])), (a4, .inl (E.2 0, 1440, .inl s_shapes)), (a5, .inl (E.2 0, 128, .inl g158_88))] := hV123.sub [4, 0, 5, 1, 2, 3] rfl rfl
              clear hV96
              refine lv_if_ne (tgt := 192) hx hb dX4_read_180 (by decide) (fun c125 => ?_) (fun c125 => ?_)
              · have h126 := ieS c125 h122
                clear h122 c125
                exact J192 g158_88 _ _ _ h126 hV123 (lv_sub hlB125 [0, 1, 2, 3, 4, 5, 6] rfl)
              · have h127 := itS c125 h122
                clear h122 c125
                refine lv_aload hx hb dX4_read_183 (lv_at hlB125 4 rfl) ?_
                refine lv_bipush (v := 116) hx hb dX4_read_185 (by decide) ?_
                refine lv_dup2_11 hx hb dX4_read_187 rfl rfl ?_
                obtain ⟨hi129, v188_128, e130, h131⟩ := rdI_s h127
                clear h127
                refine kiald X hV123 5 rfl hi129 e130 dX4_read_188 ?_
                clear hi129 e130
                refine lv_iconst (v := 1) hx hb dX4_read_189 (by decide) ?_
                refine lv_iadd hx hb dX4_read_190 ?_
                obtain ⟨v191_132, e133, h134⟩ := nmI_s h131
                clear h131
                refine ktopi e133 ?_
                clear e133
                obtain ⟨hi136, g191_135, e137, h138⟩ := wrI_s h134
                clear h134
                refine kiast X hV123 5 rfl hi136 e137 dX4_read_191 (fun H locs hV139 => ?_)
                have hV139 : kV E A s.heap H locs [(a0, .inr (4, [.ref a1, .ref a4, w0_2, .ref a2, .ref a3, .int v21_8, .int s_day])), (a1, .inl (E.2 0, 1440, .inl s_heights)), (a2, .inl (E.2 0, 1440, .inl marked__35)), (a3, .inr (5, [.ref a5, w3_1])), (a4, .inl (E.2 0, 1440, .inl s_shapes)), (a5, .inl (E.2 0, 128, .inl g191_135))] := hV139
                clear hV123 hi136 e137
                exact J192 g191_135 _ _ _ h138 hV139 (lv_sub hlB125 [0, 1, 2, 3, 4, 5, 6] rfl)
          refine lv_if_le (tgt := 124) hx hb dX4_read_109 (by decide) (fun c140 => ?_) (fun c140 => ?_)
          · have h141 := itS c140 h61
            clear h61 c140
            refine lv_iconst (v := 0) hx hb dX4_read_124 (by decide) ?_
            exact J125 0 _ _ _ h141 hV62 (lv_sub hl48 [1, 2, 3, 4, 5, 0, 6] rfl)
          · have h142 := ieS c140 h61
            clear h61 c140
            refine lv_aload_n hx hb dX4_read_112 rfl (lv_at hl48 1 rfl) ?_
            refine kget X hV62 (ci := 4) inlX4 rfl 0 rfl 0 (by decide) mw_87 rfl dX4_read_113 ?_
            refine lv_iload hx hb dX4_read_116 (lv_at hl48 6 rfl) ?_
            refine lv_iconst (v := 1) hx hb dX4_read_118 (by decide) ?_
            refine lv_isub hx hb dX4_read_119 ?_
            obtain ⟨hi144, v120_143, e145, h146⟩ := rdI_s h142
            clear h142
            refine kiald X hV62 1 rfl hi144 e145 dX4_read_120 ?_
            clear hi144 e145
            refine lv_goto (tgt := 125) hx hb dX4_read_121 (by decide) ?_
            exact J125 v120_143 _ _ _ h146 hV62 (lv_sub hl48 [1, 2, 3, 4, 5, 0, 6] rfl)
    exact L66 FU 0 0 s_marked g59_26 _ _ _ h29 hV30 (lv_sub hl32 [4, 5, 6, 3, 2, 1, 0] rfl)
  · have h7 := ieS c5 h3
    clear h3 c5
    obtain ⟨q147, q148, q149⟩ := tup3_s h7
    clear h7
    exact hret () _ _ _ _ trivial (by rw [← q147, ← q148, ← q149]; exact hV) dX4_read_13
abbrev r_X4_beginsMark : Room := { frames := 3, cells := 0, slots := 0, locals := 64 }
set_option maxHeartbeats 4000000 in
set_option maxRecDepth 100000 in
theorem c_X4_beginsMark (l : Launch) (E : kE) (sz : Nat) (a0 a1 : Nat) (w0_0 w0_1 w0_2 w0_4 w0_5 w0_6 : Value) (s_marked : Nat → Int32) (p1 : Int32) (p2 : Int32) (r : Int32) (h : f_X4_beginsMark s_marked p1 p2 = some (r)) : kMi l yX4_beginsMark cX4_beginsMark 3 (some .boolean) r_X4_beginsMark [.ref a0, .int p1, .int p2] E [(a0, .inr (4, [w0_0, w0_1, w0_2, .ref a1, w0_4, w0_5, w0_6])), (a1, .inl (E.2 0, 1440, .inl s_marked))] sz 0 0 (fun x (_ : Unit) => x = r) (fun _ => [(a0, .inr (4, [w0_0, w0_1, w0_2, .ref a1, w0_4, w0_5, w0_6])), (a1, .inl (E.2 0, 1440, .inl s_marked))]) := by
  refine kmeti rfl (Nat.le_of_ble_eq_true rfl) ?_
  intro p e s m args below meth c ls A Q X hV hret hl
  have X : kC p s m c cX4_beginsMark 3 RX4 args E A := X
  have hx := X.1
  have hb := X.2.1
  have hl : lv_has ls 3 [(0, .ref a0), (1, .int p1), (2, .int p2)] := hl
  rw [f_X4_beginsMark] at h
  refine lv_aload_n hx hb dX4_beginsMark_0 rfl (lv_at hl 0 rfl) ?_
  refine lv_iload_n hx hb dX4_beginsMark_1 rfl (lv_at hl 1 rfl) ?_
  refine lv_iload_n hx hb dX4_beginsMark_2 rfl (lv_at hl 2 rfl) ?_
  obtain ⟨r3_1, hc2, h3⟩ := cb1_s h
  clear h
  refine kgoiE (krunV (rest := []) X hV [0, 1] (c_X4_isMarked l E _ a0 a1 (w0_0) (w0_1) (w0_2) (w0_4) (w0_5) (w0_6) s_marked p1 p2 r3_1 hc2) mw_821 kb_X4_isMarked (ci := 4) rfl rfl (by decide) rfl rfl hl.1 rfl (Nat.le_of_ble_eq_true rfl) dX4_beginsMark_3 (by decide)) X hV [0, 1] [] rfl rfl rfl (by decide) (fun u H locs hV4 => ?_)
  have hV4 : kV E A s.heap H locs [(a0, .inr (4, [w0_0, w0_1, w0_2, .ref a1, w0_4, w0_5, w0_6])), (a1, .inl (E.2 0, 1440, .inl s_marked))] := hV4.sub [0, 1] rfl rfl
  clear hV
  refine lv_if_eq (tgt := 24) hx hb dX4_beginsMark_6 (by decide) (fun c6 => ?_) (fun c6 => ?_)
  · have h7 := itS c6 h3
    clear h3 c6
    refine lv_iconst (v := 0) hx hb dX4_beginsMark_24 (by decide) ?_
    have q9 := tup1_s h7
    clear h7
    exact hret _ () _ _ _ _ q9 rfl hV4 dX4_beginsMark_25
  · have h8 := ieS c6 h3
    clear h3 c6
    refine lv_aload_n hx hb dX4_beginsMark_9 rfl (lv_at hl 0 rfl) ?_
    refine lv_iload_n hx hb dX4_beginsMark_10 rfl (lv_at hl 1 rfl) ?_
    refine lv_iload_n hx hb dX4_beginsMark_11 rfl (lv_at hl 2 rfl) ?_
    refine lv_iconst (v := 1) hx hb dX4_beginsMark_12 (by decide) ?_
    refine lv_isub hx hb dX4_beginsMark_13 ?_
    obtain ⟨r14_10, hc11, h12⟩ := cb1_s h8
    clear h8
    refine kgoiE (krunV (rest := []) X hV4 [0, 1] (c_X4_isMarked l E _ a0 a1 (w0_0) (w0_1) (w0_2) (w0_4) (w0_5) (w0_6) s_marked p1 (p2 - 1) r14_10 hc11) mw_821 kb_X4_isMarked (ci := 4) rfl rfl (by decide) rfl rfl hl.1 rfl (Nat.le_of_ble_eq_true rfl) dX4_beginsMark_14 (by decide)) X hV4 [0, 1] [] rfl rfl rfl (by decide) (fun u H locs hV13 => ?_)
    have hV13 : kV E A s.heap H locs [(a0, .inr (4, [w0_0, w0_1, w0_2, .ref a1, w0_4, w0_5, w0_6])), (a1, .inl (E.2 0, 1440, .inl s_marked))] := hV13.sub [0, 1] rfl rfl
    clear hV4
    refine lv_if_ne (tgt := 24) hx hb dX4_beginsMark_17 (by decide) (fun c15 => ?_) (fun c15 => ?_)
    · have h16 := ieS c15 h12
      clear h12 c15
      refine lv_iconst (v := 0) hx hb dX4_beginsMark_24 (by decide) ?_
      have q18 := tup1_s h16
      clear h16
      exact hret _ () _ _ _ _ q18 rfl hV13 dX4_beginsMark_25
    · have h17 := itS c15 h12
      clear h12 c15
      refine lv_iconst (v := 1) hx hb dX4_beginsMark_20 (by decide) ?_
      refine lv_goto (tgt := 25) hx hb dX4_beginsMark_21 (by decide) ?_
      have q19 := tup1_s h17
      clear h17
      exact hret _ () _ _ _ _ q19 rfl hV13 dX4_beginsMark_25
abbrev r_X4_marksOf : Room := { frames := 4, cells := 0, slots := 0, locals := 86 }
set_option maxHeartbeats 4000000 in
set_option maxRecDepth 100000 in
theorem c_X4_marksOf (l : Launch) (E : kE) (sz : Nat) (a0 a1 : Nat) (w0_0 w0_1 w0_2 w0_4 w0_5 w0_6 : Value) (s_marked : Nat → Int32) (p1 : Int32) (r : Int32) (h : f_X4_marksOf s_marked p1 = some (r)) : kMi l yX4_marksOf cX4_marksOf 4 (some .int) r_X4_marksOf [.ref a0, .int p1] E [(a0, .inr (4, [w0_0, w0_1, w0_2, .ref a1, w0_4, w0_5, w0_6])), (a1, .inl (E.2 0, 1440, .inl s_marked))] sz 0 0 (fun x (_ : Unit) => x = r) (fun _ => [(a0, .inr (4, [w0_0, w0_1, w0_2, .ref a1, w0_4, w0_5, w0_6])), (a1, .inl (E.2 0, 1440, .inl s_marked))]) := by
  refine kmeti rfl (Nat.le_of_ble_eq_true rfl) ?_
  intro p e s m args below meth c ls A Q X hV hret hl
  have X : kC p s m c cX4_marksOf 4 RX4 args E A := X
  have hx := X.1
  have hb := X.2.1
  have hl : lv_has ls 4 [(0, .ref a0), (1, .int p1)] := hl
  rw [f_X4_marksOf] at h
  refine lv_iconst (v := 0) hx hb dX4_marksOf_0 (by decide) ?_
  refine lv_istore_n (lv' := [(2, .int 0), (0, .ref a0), (1, .int p1)]) hx hb dX4_marksOf_1 rfl hl (by decide) rfl (fun ls hl1 => ?_)
  clear hl
  refine lv_iconst (v := 0) hx hb dX4_marksOf_2 (by decide) ?_
  refine lv_istore_n (lv' := [(3, .int 0), (2, .int 0), (0, .ref a0), (1, .int p1)]) hx hb dX4_marksOf_3 rfl hl1 (by decide) rfl (fun ls hl2 => ?_)
  clear hl1
  have L4 : ∀ (n4 : Nat) (x2_3 : Int32) (x3_4 : Int32) (H : Heap) (locs : List Loc) (ls : Array Slot), (f_X4_marksOf_L4 s_marked p1  n4) x2_3 x3_4 = some (r) → kV E A s.heap H locs [(a0, .inr (4, [w0_0, w0_1, w0_2, .ref a1, w0_4, w0_5, w0_6])), (a1, .inl (E.2 0, 1440, .inl s_marked))] → lv_has ls 4 [(0, .ref a0), (1, .int p1), (2, .int x2_3), (3, .int x3_4)] → W p l e r_X4_marksOf s m args below meth c H locs 0 0 Q (F0 m 4 ls []) := by
    intro n4
    induction n4 with
    | zero =>
      intro x2_3 x3_4 H locs ls hB4 hVB4 hlB4
      rw [f_X4_marksOf_L4] at hB4
      exact nomatch hB4
    | succ n4 ih4 =>
      intro x2_3 x3_4 H locs ls hB4 hVB4 hlB4
      rw [f_X4_marksOf_L4] at hB4
      refine lv_iload_n hx hb dX4_marksOf_4 rfl (lv_at hlB4 3 rfl) ?_
      refine lv_sipush (v := 1440) hx hb dX4_marksOf_5 (by decide) ?_
      refine lv_icmp_ge (tgt := 34) hx hb dX4_marksOf_8 (by decide) (fun c5 => ?_) (fun c5 => ?_)
      · have h6 := itS c5 hB4
        clear hB4 c5
        refine lv_iload_n hx hb dX4_marksOf_34 rfl (lv_at hlB4 2 rfl) ?_
        have q8 := tup1_s h6
        clear h6
        exact hret _ () _ _ _ _ q8 rfl hVB4 dX4_marksOf_35
      · have h7 := ieS c5 hB4
        clear hB4 c5
        refine lv_iload_n hx hb dX4_marksOf_11 rfl (lv_at hlB4 2 rfl) ?_
        refine lv_aload_n hx hb dX4_marksOf_12 rfl (lv_at hlB4 0 rfl) ?_
        refine lv_iload_n hx hb dX4_marksOf_13 rfl (lv_at hlB4 1 rfl) ?_
        refine lv_iload_n hx hb dX4_marksOf_14 rfl (lv_at hlB4 3 rfl) ?_
        obtain ⟨r15_9, hc10, h11⟩ := cb1_s h7
        clear h7
        refine kgoiE (krunV (rest := [.int x2_3]) X hVB4 [0, 1] (c_X4_beginsMark l E _ a0 a1 (w0_0) (w0_1) (w0_2) (w0_4) (w0_5) (w0_6) s_marked p1 x3_4 r15_9 hc10) mw_830 kb_X4_beginsMark (ci := 4) rfl rfl (by decide) rfl rfl hlB4.1 rfl (Nat.le_of_ble_eq_true rfl) dX4_marksOf_15 (by decide)) X hVB4 [0, 1] [] rfl rfl rfl (by decide) (fun u H locs hV12 => ?_)
        have hV12 : kV E A s.heap H locs [(a0, .inr (4, [w0_0, w0_1, w0_2, .ref a1, w0_4, w0_5, w0_6])), (a1, .inl (E.2 0, 1440, .inl s_marked))] := hV12.sub [0, 1] rfl rfl
        clear hVB4
        refine lv_if_eq (tgt := 25) hx hb dX4_marksOf_18 (by decide) (fun c14 => ?_) (fun c14 => ?_)
        · have h15 := itS c14 h11
          clear h11 c14
          refine lv_iconst (v := 0) hx hb dX4_marksOf_25 (by decide) ?_
          refine lv_iadd hx hb dX4_marksOf_26 ?_
          obtain ⟨v27_17, e18, h19⟩ := nmI_s h15
          clear h15
          refine ktopi e18 ?_
          clear e18
          refine lv_istore_n (lv' := [(2, .int v27_17), (0, .ref a0), (1, .int p1), (3, .int x3_4)]) hx hb dX4_marksOf_27 rfl hlB4 (by decide) rfl (fun ls hl20 => ?_)
          clear hlB4
          obtain ⟨v28_21, e22, h23⟩ := nmI_s h19
          clear h19
          refine lv_iinc (v := v28_21) (lv' := [(3, .int v28_21), (2, .int v27_17), (0, .ref a0), (1, .int p1)]) hx hb dX4_marksOf_28 hl20 (k := 3) rfl (by rw [e22]; rfl) (by decide) rfl (fun ls hl24 => ?_)
          clear hl20 e22
          refine lv_goto (tgt := 4) hx hb dX4_marksOf_31 (by decide) ?_
          exact ih4 v27_17 v28_21 _ _ _ h23 hV12 (lv_sub hl24 [2, 3, 1, 0] rfl)
        · have h16 := ieS c14 h11
          clear h11 c14
          refine lv_iconst (v := 1) hx hb dX4_marksOf_21 (by decide) ?_
          refine lv_goto (tgt := 26) hx hb dX4_marksOf_22 (by decide) ?_
          refine lv_iadd hx hb dX4_marksOf_26 ?_
          obtain ⟨v27_25, e26, h27⟩ := nmI_s h16
          clear h16
          refine ktopi e26 ?_
          clear e26
          refine lv_istore_n (lv' := [(2, .int v27_25), (0, .ref a0), (1, .int p1), (3, .int x3_4)]) hx hb dX4_marksOf_27 rfl hlB4 (by decide) rfl (fun ls hl28 => ?_)
          clear hlB4
          obtain ⟨v28_29, e30, h31⟩ := nmI_s h27
          clear h27
          refine lv_iinc (v := v28_29) (lv' := [(3, .int v28_29), (2, .int v27_25), (0, .ref a0), (1, .int p1)]) hx hb dX4_marksOf_28 hl28 (k := 3) rfl (by rw [e30]; rfl) (by decide) rfl (fun ls hl32 => ?_)
          clear hl28 e30
          refine lv_goto (tgt := 4) hx hb dX4_marksOf_31 (by decide) ?_
          exact ih4 v27_25 v28_29 _ _ _ h31 hV12 (lv_sub hl32 [2, 3, 1, 0] rfl)
  exact L4 FU 0 0 _ _ _ h hV (lv_sub hl2 [2, 3, 1, 0] rfl)
abbrev r_X4_markNumber : Room := { frames := 4, cells := 0, slots := 0, locals := 86 }
set_option maxHeartbeats 4000000 in
set_option maxRecDepth 100000 in
theorem c_X4_markNumber (l : Launch) (E : kE) (sz : Nat) (a0 a1 : Nat) (w0_0 w0_1 w0_2 w0_4 w0_5 w0_6 : Value) (s_marked : Nat → Int32) (p1 : Int32) (p2 : Int32) (r : Int32) (h : f_X4_markNumber s_marked p1 p2 = some (r)) : kMi l yX4_markNumber cX4_markNumber 5 (some .int) r_X4_markNumber [.ref a0, .int p1, .int p2] E [(a0, .inr (4, [w0_0, w0_1, w0_2, .ref a1, w0_4, w0_5, w0_6])), (a1, .inl (E.2 0, 1440, .inl s_marked))] sz 0 0 (fun x (_ : Unit) => x = r) (fun _ => [(a0, .inr (4, [w0_0, w0_1, w0_2, .ref a1, w0_4, w0_5, w0_6])), (a1, .inl (E.2 0, 1440, .inl s_marked))]) := by
  refine kmeti rfl (Nat.le_of_ble_eq_true rfl) ?_
  intro p e s m args below meth c ls A Q X hV hret hl
  have X : kC p s m c cX4_markNumber 5 RX4 args E A := X
  have hx := X.1
  have hb := X.2.1
  have hl : lv_has ls 5 [(0, .ref a0), (1, .int p1), (2, .int p2)] := hl
  rw [f_X4_markNumber] at h
  refine lv_iload_n hx hb dX4_markNumber_0 rfl (lv_at hl 2 rfl) ?_
  refine lv_iconst (v := 3) hx hb dX4_markNumber_1 (by decide) ?_
  refine lv_idiv hx hb dX4_markNumber_2 (by decide) ?_
  obtain ⟨v3_1, e2, h3⟩ := nmI_s h
  clear h
  refine ktopi e2 ?_
  clear e2
  refine lv_istore_n (lv' := [(3, .int v3_1), (0, .ref a0), (1, .int p1), (2, .int p2)]) hx hb dX4_markNumber_3 rfl hl (by decide) rfl (fun ls hl4 => ?_)
  clear hl
  refine lv_iconst (v := 0) hx hb dX4_markNumber_4 (by decide) ?_
  refine lv_istore (lv' := [(4, .int 0), (3, .int v3_1), (0, .ref a0), (1, .int p1), (2, .int p2)]) hx hb dX4_markNumber_5 hl4 (by decide) rfl (fun ls hl5 => ?_)
  clear hl4
  have J29 : ∀ (x4_6 : Int32) (H : Heap) (locs : List Loc) (ls : Array Slot), (f_X4_markNumber_J29  ) x4_6 = some (r) → kV E A s.heap H locs [(a0, .inr (4, [w0_0, w0_1, w0_2, .ref a1, w0_4, w0_5, w0_6])), (a1, .inl (E.2 0, 1440, .inl s_marked))] → lv_has ls 5 [(0, .ref a0), (1, .int p1), (2, .int p2), (4, .int x4_6)] → W p l e r_X4_markNumber s m args below meth c H locs 0 0 Q (F0 m 29 ls []) := by
    intro x4_6 H locs ls hB29 hVB29 hlB29
    rw [f_X4_markNumber_J29] at hB29
    refine lv_aload_n hx hb dX4_markNumber_29 rfl (lv_at hlB29 0 rfl) ?_
    refine lv_iload_n hx hb dX4_markNumber_30 rfl (lv_at hlB29 1 rfl) ?_
    refine lv_iload hx hb dX4_markNumber_31 (lv_at hlB29 3 rfl) ?_
    refine lv_iload_n hx hb dX4_markNumber_33 rfl (lv_at hlB29 2 rfl) ?_
    refine lv_iconst (v := 3) hx hb dX4_markNumber_34 (by decide) ?_
    refine lv_irem hx hb dX4_markNumber_35 (by decide) ?_
    exact nomatch hB29
  have L7 : ∀ (n7 : Nat) (x3_7 : Int32) (x4_8 : Int32) (H : Heap) (locs : List Loc) (ls : Array Slot), (f_X4_markNumber_L7 s_marked p1 (f_X4_markNumber_J29  ) n7) x3_7 x4_8 = some (r) → kV E A s.heap H locs [(a0, .inr (4, [w0_0, w0_1, w0_2, .ref a1, w0_4, w0_5, w0_6])), (a1, .inl (E.2 0, 1440, .inl s_marked))] → lv_has ls 5 [(0, .ref a0), (1, .int p1), (2, .int p2), (3, .int x3_7), (4, .int x4_8)] → W p l e r_X4_markNumber s m args below meth c H locs 0 0 Q (F0 m 7 ls []) := by
    intro n7
    induction n7 with
    | zero =>
      intro x3_7 x4_8 H locs ls hB7 hVB7 hlB7
      rw [f_X4_markNumber_L7] at hB7
      exact nomatch hB7
    | succ n7 ih7 =>
      intro x3_7 x4_8 H locs ls hB7 hVB7 hlB7
      rw [f_X4_markNumber_L7] at hB7
      refine lv_iload hx hb dX4_markNumber_7 (lv_at hlB7 4 rfl) ?_
      refine lv_sipush (v := 1440) hx hb dX4_markNumber_9 (by decide) ?_
      refine lv_icmp_ge (tgt := 49) hx hb dX4_markNumber_12 (by decide) (fun c9 => ?_) (fun c9 => ?_)
      · have h10 := itS c9 hB7
        clear hB7 c9
        refine lv_iconst (v := (-1)) hx hb dX4_markNumber_49 (by decide) ?_
        have q12 := tup1_s h10
        clear h10
        exact hret _ () _ _ _ _ q12 rfl hVB7 dX4_markNumber_50
      · have h11 := ieS c9 hB7
        clear hB7 c9
        refine lv_aload_n hx hb dX4_markNumber_15 rfl (lv_at hlB7 0 rfl) ?_
        refine lv_iload_n hx hb dX4_markNumber_16 rfl (lv_at hlB7 1 rfl) ?_
        refine lv_iload hx hb dX4_markNumber_17 (lv_at hlB7 4 rfl) ?_
        obtain ⟨r19_13, hc14, h15⟩ := cb1_s h11
        clear h11
        refine kgoiE (krunV (rest := []) X hVB7 [0, 1] (c_X4_beginsMark l E _ a0 a1 (w0_0) (w0_1) (w0_2) (w0_4) (w0_5) (w0_6) s_marked p1 x4_8 r19_13 hc14) mw_830 kb_X4_beginsMark (ci := 4) rfl rfl (by decide) rfl rfl hlB7.1 rfl (Nat.le_of_ble_eq_true rfl) dX4_markNumber_19 (by decide)) X hVB7 [0, 1] [] rfl rfl rfl (by decide) (fun u H locs hV16 => ?_)
        have hV16 : kV E A s.heap H locs [(a0, .inr (4, [w0_0, w0_1, w0_2, .ref a1, w0_4, w0_5, w0_6])), (a1, .inl (E.2 0, 1440, .inl s_marked))] := hV16.sub [0, 1] rfl rfl
        clear hVB7
        refine lv_if_eq (tgt := 43) hx hb dX4_markNumber_22 (by decide) (fun c18 => ?_) (fun c18 => ?_)
        · have h19 := itS c18 h15
          clear h15 c18
          obtain ⟨v43_21, e22, h23⟩ := nmI_s h19
          clear h19
          refine lv_iinc (v := v43_21) (lv' := [(4, .int v43_21), (0, .ref a0), (1, .int p1), (2, .int p2), (3, .int x3_7)]) hx hb dX4_markNumber_43 hlB7 (k := 4) rfl (by rw [e22]; rfl) (by decide) rfl (fun ls hl24 => ?_)
          clear hlB7 e22
          refine lv_goto (tgt := 7) hx hb dX4_markNumber_46 (by decide) ?_
          exact ih7 x3_7 v43_21 _ _ _ h23 hV16 (lv_sub hl24 [1, 2, 3, 4, 0] rfl)
        · have h20 := ieS c18 h15
          clear h15 c18
          refine lv_iload_n hx hb dX4_markNumber_25 rfl (lv_at hlB7 3 rfl) ?_
          refine lv_if_ne (tgt := 40) hx hb dX4_markNumber_26 (by decide) (fun c25 => ?_) (fun c25 => ?_)
          · have h26 := ieS c25 h20
            clear h20 c25
            obtain ⟨v40_28, e29, h30⟩ := nmI_s h26
            clear h26
            refine lv_iinc (v := v40_28) (lv' := [(3, .int v40_28), (0, .ref a0), (1, .int p1), (2, .int p2), (4, .int x4_8)]) hx hb dX4_markNumber_40 hlB7 (k := 3) rfl (by rw [e29]; rfl) (by decide) rfl (fun ls hl31 => ?_)
            clear hlB7 e29
            obtain ⟨v43_32, e33, h34⟩ := nmI_s h30
            clear h30
            refine lv_iinc (v := v43_32) (lv' := [(4, .int v43_32), (3, .int v40_28), (0, .ref a0), (1, .int p1), (2, .int p2)]) hx hb dX4_markNumber_43 hl31 (k := 4) rfl (by rw [e33]; rfl) (by decide) rfl (fun ls hl35 => ?_)
            clear hl31 e33
            refine lv_goto (tgt := 7) hx hb dX4_markNumber_46 (by decide) ?_
            exact ih7 v40_28 v43_32 _ _ _ h34 hV16 (lv_sub hl35 [2, 3, 4, 1, 0] rfl)
          · have h27 := itS c25 h20
            clear h20 c25
            exact J29 x4_8 _ _ _ h27 hV16 (lv_sub hlB7 [0, 1, 2, 4] rfl)
  exact L7 FU v3_1 0 _ _ _ h3 hV (lv_sub hl5 [2, 3, 4, 1, 0] rfl)
abbrev r_X4_beginsPassed : Room := { frames := 4, cells := 0, slots := 0, locals := 86 }
set_option maxHeartbeats 4000000 in
set_option maxRecDepth 100000 in
theorem c_X4_beginsPassed (l : Launch) (E : kE) (sz : Nat) (a0 a1 : Nat) (w0_0 w0_1 w0_2 w0_4 w0_5 w0_6 : Value) (s_marked : Nat → Int32) (p1 : Int32) (p2 : Int32) (p3 : Int32) (r : Int32) (h : f_X4_beginsPassed s_marked p1 p2 p3 = some (r)) : kMi l yX4_beginsPassed cX4_beginsPassed 5 (some .boolean) r_X4_beginsPassed [.ref a0, .int p1, .int p2, .int p3] E [(a0, .inr (4, [w0_0, w0_1, w0_2, .ref a1, w0_4, w0_5, w0_6])), (a1, .inl (E.2 0, 1440, .inl s_marked))] sz 0 0 (fun x (_ : Unit) => x = r) (fun _ => [(a0, .inr (4, [w0_0, w0_1, w0_2, .ref a1, w0_4, w0_5, w0_6])), (a1, .inl (E.2 0, 1440, .inl s_marked))]) := by
  refine kmeti rfl (Nat.le_of_ble_eq_true rfl) ?_
  intro p e s m args below meth c ls A Q X hV hret hl
  have X : kC p s m c cX4_beginsPassed 5 RX4 args E A := X
  have hx := X.1
  have hb := X.2.1
  have hl : lv_has ls 5 [(0, .ref a0), (1, .int p1), (2, .int p2), (3, .int p3)] := hl
  rw [f_X4_beginsPassed] at h
  refine lv_aload_n hx hb dX4_beginsPassed_0 rfl (lv_at hl 0 rfl) ?_
  refine lv_iload_n hx hb dX4_beginsPassed_1 rfl (lv_at hl 2 rfl) ?_
  refine lv_iload_n hx hb dX4_beginsPassed_2 rfl (lv_at hl 3 rfl) ?_
  obtain ⟨r3_1, hc2, h3⟩ := cb1_s h
  clear h
  refine kgoiE (krunV (rest := []) X hV [0, 1] (c_X4_beginsMark l E _ a0 a1 (w0_0) (w0_1) (w0_2) (w0_4) (w0_5) (w0_6) s_marked p2 p3 r3_1 hc2) mw_830 kb_X4_beginsMark (ci := 4) rfl rfl (by decide) rfl rfl hl.1 rfl (Nat.le_of_ble_eq_true rfl) dX4_beginsPassed_3 (by decide)) X hV [0, 1] [] rfl rfl rfl (by decide) (fun u H locs hV4 => ?_)
  have hV4 : kV E A s.heap H locs [(a0, .inr (4, [w0_0, w0_1, w0_2, .ref a1, w0_4, w0_5, w0_6])), (a1, .inl (E.2 0, 1440, .inl s_marked))] := hV4.sub [0, 1] rfl rfl
  clear hV
  refine lv_if_ne (tgt := 11) hx hb dX4_beginsPassed_6 (by decide) (fun c6 => ?_) (fun c6 => ?_)
  · have h7 := ieS c6 h3
    clear h3 c6
    refine lv_iload_n hx hb dX4_beginsPassed_11 rfl (lv_at hl 3 rfl) ?_
    refine lv_istore (lv' := [(4, .int p3), (0, .ref a0), (1, .int p1), (2, .int p2), (3, .int p3)]) hx hb dX4_beginsPassed_12 hl (by decide) rfl (fun ls hl9 => ?_)
    clear hl
    have L14 : ∀ (n14 : Nat) (x4_10 : Int32) (H : Heap) (locs : List Loc) (ls : Array Slot), (f_X4_beginsPassed_L14 s_marked p1 p2  n14) x4_10 = some (r) → kV E A s.heap H locs [(a0, .inr (4, [w0_0, w0_1, w0_2, .ref a1, w0_4, w0_5, w0_6])), (a1, .inl (E.2 0, 1440, .inl s_marked))] → lv_has ls 5 [(0, .ref a0), (1, .int p1), (2, .int p2), (4, .int x4_10)] → W p l e r_X4_beginsPassed s m args below meth c H locs 0 0 Q (F0 m 14 ls []) := by
      intro n14
      induction n14 with
      | zero =>
        intro x4_10 H locs ls hB14 hVB14 hlB14
        rw [f_X4_beginsPassed_L14] at hB14
        exact nomatch hB14
      | succ n14 ih14 =>
        intro x4_10 H locs ls hB14 hVB14 hlB14
        rw [f_X4_beginsPassed_L14] at hB14
        refine lv_iload hx hb dX4_beginsPassed_14 (lv_at hlB14 3 rfl) ?_
        refine lv_sipush (v := 1440) hx hb dX4_beginsPassed_16 (by decide) ?_
        refine lv_icmp_ge (tgt := 50) hx hb dX4_beginsPassed_19 (by decide) (fun c11 => ?_) (fun c11 => ?_)
        · have h12 := itS c11 hB14
          clear hB14 c11
          refine lv_iconst (v := 1) hx hb dX4_beginsPassed_50 (by decide) ?_
          have q14 := tup1_s h12
          clear h12
          exact hret _ () _ _ _ _ q14 rfl hVB14 dX4_beginsPassed_51
        · have h13 := ieS c11 hB14
          clear hB14 c11
          refine lv_aload_n hx hb dX4_beginsPassed_22 rfl (lv_at hlB14 0 rfl) ?_
          refine lv_iload_n hx hb dX4_beginsPassed_23 rfl (lv_at hlB14 2 rfl) ?_
          refine lv_iload hx hb dX4_beginsPassed_24 (lv_at hlB14 3 rfl) ?_
          obtain ⟨r26_15, hc16, h17⟩ := cb1_s h13
          clear h13
          refine kgoiE (krunV (rest := []) X hVB14 [0, 1] (c_X4_isMarked l E _ a0 a1 (w0_0) (w0_1) (w0_2) (w0_4) (w0_5) (w0_6) s_marked p2 x4_10 r26_15 hc16) mw_821 kb_X4_isMarked (ci := 4) rfl rfl (by decide) rfl rfl hlB14.1 rfl (Nat.le_of_ble_eq_true rfl) dX4_beginsPassed_26 (by decide)) X hVB14 [0, 1] [] rfl rfl rfl (by decide) (fun u H locs hV18 => ?_)
          have hV18 : kV E A s.heap H locs [(a0, .inr (4, [w0_0, w0_1, w0_2, .ref a1, w0_4, w0_5, w0_6])), (a1, .inl (E.2 0, 1440, .inl s_marked))] := hV18.sub [0, 1] rfl rfl
          clear hVB14
          refine lv_if_eq (tgt := 50) hx hb dX4_beginsPassed_29 (by decide) (fun c20 => ?_) (fun c20 => ?_)
          · have h21 := itS c20 h17
            clear h17 c20
            refine lv_iconst (v := 1) hx hb dX4_beginsPassed_50 (by decide) ?_
            have q23 := tup1_s h21
            clear h21
            exact hret _ () _ _ _ _ q23 rfl hV18 dX4_beginsPassed_51
          · have h22 := ieS c20 h17
            clear h17 c20
            refine lv_aload_n hx hb dX4_beginsPassed_32 rfl (lv_at hlB14 0 rfl) ?_
            refine lv_iload_n hx hb dX4_beginsPassed_33 rfl (lv_at hlB14 1 rfl) ?_
            refine lv_iload hx hb dX4_beginsPassed_34 (lv_at hlB14 3 rfl) ?_
            obtain ⟨r36_24, hc25, h26⟩ := cb1_s h22
            clear h22
            refine kgoiE (krunV (rest := []) X hV18 [0, 1] (c_X4_isMarked l E _ a0 a1 (w0_0) (w0_1) (w0_2) (w0_4) (w0_5) (w0_6) s_marked p1 x4_10 r36_24 hc25) mw_821 kb_X4_isMarked (ci := 4) rfl rfl (by decide) rfl rfl hlB14.1 rfl (Nat.le_of_ble_eq_true rfl) dX4_beginsPassed_36 (by decide)) X hV18 [0, 1] [] rfl rfl rfl (by decide) (fun u H locs hV27 => ?_)
            have hV27 : kV E A s.heap H locs [(a0, .inr (4, [w0_0, w0_1, w0_2, .ref a1, w0_4, w0_5, w0_6])), (a1, .inl (E.2 0, 1440, .inl s_marked))] := hV27.sub [0, 1] rfl rfl
            clear hV18
            refine lv_if_eq (tgt := 44) hx hb dX4_beginsPassed_39 (by decide) (fun c29 => ?_) (fun c29 => ?_)
            · have h30 := itS c29 h26
              clear h26 c29
              obtain ⟨v44_32, e33, h34⟩ := nmI_s h30
              clear h30
              refine lv_iinc (v := v44_32) (lv' := [(4, .int v44_32), (0, .ref a0), (1, .int p1), (2, .int p2)]) hx hb dX4_beginsPassed_44 hlB14 (k := 3) rfl (by rw [e33]; rfl) (by decide) rfl (fun ls hl35 => ?_)
              clear hlB14 e33
              refine lv_goto (tgt := 14) hx hb dX4_beginsPassed_47 (by decide) ?_
              exact ih14 v44_32 _ _ _ h34 hV27 (lv_sub hl35 [1, 2, 3, 0] rfl)
            · have h31 := ieS c29 h26
              clear h26 c29
              refine lv_iconst (v := 0) hx hb dX4_beginsPassed_42 (by decide) ?_
              have q36 := tup1_s h31
              clear h31
              exact hret _ () _ _ _ _ q36 rfl hV27 dX4_beginsPassed_43
    exact L14 FU p3 _ _ _ h7 hV4 (lv_sub hl9 [1, 2, 3, 0] rfl)
  · have h8 := itS c6 h3
    clear h3 c6
    refine lv_iconst (v := 0) hx hb dX4_beginsPassed_9 (by decide) ?_
    have q37 := tup1_s h8
    clear h8
    exact hret _ () _ _ _ _ q37 rfl hV4 dX4_beginsPassed_10
abbrev r_X4_passedMarks : Room := { frames := 5, cells := 0, slots := 0, locals := 110 }
set_option maxHeartbeats 4000000 in
set_option maxRecDepth 100000 in
theorem c_X4_passedMarks (l : Launch) (E : kE) (sz : Nat) (a0 a1 : Nat) (w0_0 w0_1 w0_2 w0_4 w0_5 w0_6 : Value) (s_marked : Nat → Int32) (p1 : Int32) (p2 : Int32) (r : Int32) (h : f_X4_passedMarks s_marked p1 p2 = some (r)) : kMi l yX4_passedMarks cX4_passedMarks 5 (some .int) r_X4_passedMarks [.ref a0, .int p1, .int p2] E [(a0, .inr (4, [w0_0, w0_1, w0_2, .ref a1, w0_4, w0_5, w0_6])), (a1, .inl (E.2 0, 1440, .inl s_marked))] sz 0 0 (fun x (_ : Unit) => x = r) (fun _ => [(a0, .inr (4, [w0_0, w0_1, w0_2, .ref a1, w0_4, w0_5, w0_6])), (a1, .inl (E.2 0, 1440, .inl s_marked))]) := by
  refine kmeti rfl (Nat.le_of_ble_eq_true rfl) ?_
  intro p e s m args below meth c ls A Q X hV hret hl
  have X : kC p s m c cX4_passedMarks 5 RX4 args E A := X
  have hx := X.1
  have hb := X.2.1
  have hl : lv_has ls 5 [(0, .ref a0), (1, .int p1), (2, .int p2)] := hl
  rw [f_X4_passedMarks] at h
  refine lv_iconst (v := 0) hx hb dX4_passedMarks_0 (by decide) ?_
  refine lv_istore_n (lv' := [(3, .int 0), (0, .ref a0), (1, .int p1), (2, .int p2)]) hx hb dX4_passedMarks_1 rfl hl (by decide) rfl (fun ls hl1 => ?_)
  clear hl
  refine lv_iconst (v := 0) hx hb dX4_passedMarks_2 (by decide) ?_
  refine lv_istore (lv' := [(4, .int 0), (3, .int 0), (0, .ref a0), (1, .int p1), (2, .int p2)]) hx hb dX4_passedMarks_3 hl1 (by decide) rfl (fun ls hl2 => ?_)
  clear hl1
  have L5 : ∀ (n5 : Nat) (x3_3 : Int32) (x4_4 : Int32) (H : Heap) (locs : List Loc) (ls : Array Slot), (f_X4_passedMarks_L5 s_marked p1 p2  n5) x3_3 x4_4 = some (r) → kV E A s.heap H locs [(a0, .inr (4, [w0_0, w0_1, w0_2, .ref a1, w0_4, w0_5, w0_6])), (a1, .inl (E.2 0, 1440, .inl s_marked))] → lv_has ls 5 [(0, .ref a0), (1, .int p1), (2, .int p2), (3, .int x3_3), (4, .int x4_4)] → W p l e r_X4_passedMarks s m args below meth c H locs 0 0 Q (F0 m 5 ls []) := by
    intro n5
    induction n5 with
    | zero =>
      intro x3_3 x4_4 H locs ls hB5 hVB5 hlB5
      rw [f_X4_passedMarks_L5] at hB5
      exact nomatch hB5
    | succ n5 ih5 =>
      intro x3_3 x4_4 H locs ls hB5 hVB5 hlB5
      rw [f_X4_passedMarks_L5] at hB5
      refine lv_iload hx hb dX4_passedMarks_5 (lv_at hlB5 4 rfl) ?_
      refine lv_sipush (v := 1440) hx hb dX4_passedMarks_7 (by decide) ?_
      refine lv_icmp_ge (tgt := 38) hx hb dX4_passedMarks_10 (by decide) (fun c5 => ?_) (fun c5 => ?_)
      · have h6 := itS c5 hB5
        clear hB5 c5
        refine lv_iload_n hx hb dX4_passedMarks_38 rfl (lv_at hlB5 3 rfl) ?_
        have q8 := tup1_s h6
        clear h6
        exact hret _ () _ _ _ _ q8 rfl hVB5 dX4_passedMarks_39
      · have h7 := ieS c5 hB5
        clear hB5 c5
        refine lv_iload_n hx hb dX4_passedMarks_13 rfl (lv_at hlB5 3 rfl) ?_
        refine lv_aload_n hx hb dX4_passedMarks_14 rfl (lv_at hlB5 0 rfl) ?_
        refine lv_iload_n hx hb dX4_passedMarks_15 rfl (lv_at hlB5 1 rfl) ?_
        refine lv_iload_n hx hb dX4_passedMarks_16 rfl (lv_at hlB5 2 rfl) ?_
        refine lv_iload hx hb dX4_passedMarks_17 (lv_at hlB5 4 rfl) ?_
        obtain ⟨r19_9, hc10, h11⟩ := cb1_s h7
        clear h7
        refine kgoiE (krunV (rest := [.int x3_3]) X hVB5 [0, 1] (c_X4_beginsPassed l E _ a0 a1 (w0_0) (w0_1) (w0_2) (w0_4) (w0_5) (w0_6) s_marked p1 p2 x4_4 r19_9 hc10) mw_870 kb_X4_beginsPassed (ci := 4) rfl rfl (by decide) rfl rfl hlB5.1 rfl (Nat.le_of_ble_eq_true rfl) dX4_passedMarks_19 (by decide)) X hVB5 [0, 1] [] rfl rfl rfl (by decide) (fun u H locs hV12 => ?_)
        have hV12 : kV E A s.heap H locs [(a0, .inr (4, [w0_0, w0_1, w0_2, .ref a1, w0_4, w0_5, w0_6])), (a1, .inl (E.2 0, 1440, .inl s_marked))] := hV12.sub [0, 1] rfl rfl
        clear hVB5
        refine lv_if_eq (tgt := 29) hx hb dX4_passedMarks_22 (by decide) (fun c14 => ?_) (fun c14 => ?_)
        · have h15 := itS c14 h11
          clear h11 c14
          refine lv_iconst (v := 0) hx hb dX4_passedMarks_29 (by decide) ?_
          refine lv_iadd hx hb dX4_passedMarks_30 ?_
          obtain ⟨v31_17, e18, h19⟩ := nmI_s h15
          clear h15
          refine ktopi e18 ?_
          clear e18
          refine lv_istore_n (lv' := [(3, .int v31_17), (0, .ref a0), (1, .int p1), (2, .int p2), (4, .int x4_4)]) hx hb dX4_passedMarks_31 rfl hlB5 (by decide) rfl (fun ls hl20 => ?_)
          clear hlB5
          obtain ⟨v32_21, e22, h23⟩ := nmI_s h19
          clear h19
          refine lv_iinc (v := v32_21) (lv' := [(4, .int v32_21), (3, .int v31_17), (0, .ref a0), (1, .int p1), (2, .int p2)]) hx hb dX4_passedMarks_32 hl20 (k := 4) rfl (by rw [e22]; rfl) (by decide) rfl (fun ls hl24 => ?_)
          clear hl20 e22
          refine lv_goto (tgt := 5) hx hb dX4_passedMarks_35 (by decide) ?_
          exact ih5 v31_17 v32_21 _ _ _ h23 hV12 (lv_sub hl24 [2, 3, 4, 1, 0] rfl)
        · have h16 := ieS c14 h11
          clear h11 c14
          refine lv_iconst (v := 1) hx hb dX4_passedMarks_25 (by decide) ?_
          refine lv_goto (tgt := 30) hx hb dX4_passedMarks_26 (by decide) ?_
          refine lv_iadd hx hb dX4_passedMarks_30 ?_
          obtain ⟨v31_25, e26, h27⟩ := nmI_s h16
          clear h16
          refine ktopi e26 ?_
          clear e26
          refine lv_istore_n (lv' := [(3, .int v31_25), (0, .ref a0), (1, .int p1), (2, .int p2), (4, .int x4_4)]) hx hb dX4_passedMarks_31 rfl hlB5 (by decide) rfl (fun ls hl28 => ?_)
          clear hlB5
          obtain ⟨v32_29, e30, h31⟩ := nmI_s h27
          clear h27
          refine lv_iinc (v := v32_29) (lv' := [(4, .int v32_29), (3, .int v31_25), (0, .ref a0), (1, .int p1), (2, .int p2)]) hx hb dX4_passedMarks_32 hl28 (k := 4) rfl (by rw [e30]; rfl) (by decide) rfl (fun ls hl32 => ?_)
          clear hl28 e30
          refine lv_goto (tgt := 5) hx hb dX4_passedMarks_35 (by decide) ?_
          exact ih5 v31_25 v32_29 _ _ _ h31 hV12 (lv_sub hl32 [2, 3, 4, 1, 0] rfl)
  exact L5 FU 0 0 _ _ _ h hV (lv_sub hl2 [2, 3, 4, 1, 0] rfl)
abbrev r_X4_firstWrong : Room := { frames := 4, cells := 0, slots := 0, locals := 86 }
set_option maxHeartbeats 4000000 in
set_option maxRecDepth 100000 in
theorem c_X4_firstWrong (l : Launch) (E : kE) (sz : Nat) (a0 a1 : Nat) (a_p2 : Nat) (w0_0 w0_1 w0_2 w0_4 w0_5 w0_6 : Value) (s_marked : Nat → Int32) (p1 : Int32) (p3 : Int32) (r : Int32) (h : f_X4_firstWrong s_marked p1 p3 = some (r)) : kMi l yX4_firstWrong cX4_firstWrong 7 (some .int) r_X4_firstWrong [.ref a0, .int p1, .ref a_p2, .int p3] E [(a0, .inr (4, [w0_0, w0_1, w0_2, .ref a1, w0_4, w0_5, w0_6])), (a1, .inl (E.2 0, 1440, .inl s_marked))] sz 0 0 (fun x (_ : Unit) => x = r) (fun _ => [(a0, .inr (4, [w0_0, w0_1, w0_2, .ref a1, w0_4, w0_5, w0_6])), (a1, .inl (E.2 0, 1440, .inl s_marked))]) := by
  refine kmeti rfl (Nat.le_of_ble_eq_true rfl) ?_
  intro p e s m args below meth c ls A Q X hV hret hl
  have X : kC p s m c cX4_firstWrong 7 RX4 args E A := X
  have hx := X.1
  have hb := X.2.1
  have hl : lv_has ls 7 [(0, .ref a0), (1, .int p1), (2, .ref a_p2), (3, .int p3)] := hl
  rw [f_X4_firstWrong] at h
  refine lv_iconst (v := 0) hx hb dX4_firstWrong_0 (by decide) ?_
  refine lv_istore (lv' := [(4, .int 0), (0, .ref a0), (1, .int p1), (2, .ref a_p2), (3, .int p3)]) hx hb dX4_firstWrong_1 hl (by decide) rfl (fun ls hl1 => ?_)
  clear hl
  refine lv_iconst (v := 0) hx hb dX4_firstWrong_3 (by decide) ?_
  refine lv_istore (lv' := [(5, .int 0), (4, .int 0), (0, .ref a0), (1, .int p1), (2, .ref a_p2), (3, .int p3)]) hx hb dX4_firstWrong_4 hl1 (by decide) rfl (fun ls hl2 => ?_)
  clear hl1
  have J80 : ∀  (H : Heap) (locs : List Loc) (ls : Array Slot), (f_X4_firstWrong_J80 p3 ) = some (r) → kV E A s.heap H locs [(a0, .inr (4, [w0_0, w0_1, w0_2, .ref a1, w0_4, w0_5, w0_6])), (a1, .inl (E.2 0, 1440, .inl s_marked))] → lv_has ls 7 [(3, .int p3), (4, .int 0)] → W p l e r_X4_firstWrong s m args below meth c H locs 0 0 Q (F0 m 80 ls []) := by
    intro  H locs ls hB80 hVB80 hlB80
    rw [f_X4_firstWrong_J80] at hB80
    refine lv_iload hx hb dX4_firstWrong_80 (lv_at hlB80 1 rfl) ?_
    refine lv_iconst (v := 3) hx hb dX4_firstWrong_82 (by decide) ?_
    refine lv_iload_n hx hb dX4_firstWrong_83 rfl (lv_at hlB80 0 rfl) ?_
    refine lv_imul hx hb dX4_firstWrong_84 ?_
    refine lv_icmp_ge (tgt := 93) hx hb dX4_firstWrong_85 (by decide) (fun c3 => ?_) (fun c3 => ?_)
    · have h4 := itS c3 hB80
      clear hB80 c3
      refine lv_iconst (v := (-1)) hx hb dX4_firstWrong_93 (by decide) ?_
      have q6 := tup1_s h4
      clear h4
      exact hret _ () _ _ _ _ q6 rfl hVB80 dX4_firstWrong_94
    · have h5 := ieS c3 hB80
      clear hB80 c3
      refine lv_iload hx hb dX4_firstWrong_88 (lv_at hlB80 1 rfl) ?_
      refine lv_goto (tgt := 94) hx hb dX4_firstWrong_90 (by decide) ?_
      have q7 := tup1_s h5
      clear h5
      exact hret _ () _ _ _ _ q7 rfl hVB80 dX4_firstWrong_94
  have L6 : ∀ (n6 : Nat) (x5_8 : Int32) (H : Heap) (locs : List Loc) (ls : Array Slot), (f_X4_firstWrong_L6 s_marked p1 p3 (f_X4_firstWrong_J80 p3 ) n6) x5_8 = some (r) → kV E A s.heap H locs [(a0, .inr (4, [w0_0, w0_1, w0_2, .ref a1, w0_4, w0_5, w0_6])), (a1, .inl (E.2 0, 1440, .inl s_marked))] → lv_has ls 7 [(0, .ref a0), (1, .int p1), (2, .ref a_p2), (3, .int p3), (4, .int 0), (5, .int x5_8)] → W p l e r_X4_firstWrong s m args below meth c H locs 0 0 Q (F0 m 6 ls []) := by
    intro n6
    induction n6 with
    | zero =>
      intro x5_8 H locs ls hB6 hVB6 hlB6
      rw [f_X4_firstWrong_L6] at hB6
      exact nomatch hB6
    | succ n6 ih6 =>
      intro x5_8 H locs ls hB6 hVB6 hlB6
      rw [f_X4_firstWrong_L6] at hB6
      refine lv_iload hx hb dX4_firstWrong_6 (lv_at hlB6 5 rfl) ?_
      refine lv_sipush (v := 1440) hx hb dX4_firstWrong_8 (by decide) ?_
      refine lv_icmp_ge (tgt := 80) hx hb dX4_firstWrong_11 (by decide) (fun c9 => ?_) (fun c9 => ?_)
      · have h10 := itS c9 hB6
        clear hB6 c9
        exact J80  _ _ _ h10 hVB6 (lv_sub hlB6 [3, 4] rfl)
      · have h11 := ieS c9 hB6
        clear hB6 c9
        refine lv_aload_n hx hb dX4_firstWrong_14 rfl (lv_at hlB6 0 rfl) ?_
        refine lv_iload_n hx hb dX4_firstWrong_15 rfl (lv_at hlB6 1 rfl) ?_
        refine lv_iload hx hb dX4_firstWrong_16 (lv_at hlB6 5 rfl) ?_
        obtain ⟨r18_12, hc13, h14⟩ := cb1_s h11
        clear h11
        refine kgoiE (krunV (rest := []) X hVB6 [0, 1] (c_X4_beginsMark l E _ a0 a1 (w0_0) (w0_1) (w0_2) (w0_4) (w0_5) (w0_6) s_marked p1 x5_8 r18_12 hc13) mw_830 kb_X4_beginsMark (ci := 4) rfl rfl (by decide) rfl rfl hlB6.1 rfl (Nat.le_of_ble_eq_true rfl) dX4_firstWrong_18 (by decide)) X hVB6 [0, 1] [] rfl rfl rfl (by decide) (fun u H locs hV15 => ?_)
        have hV15 : kV E A s.heap H locs [(a0, .inr (4, [w0_0, w0_1, w0_2, .ref a1, w0_4, w0_5, w0_6])), (a1, .inl (E.2 0, 1440, .inl s_marked))] := hV15.sub [0, 1] rfl rfl
        clear hVB6
        refine lv_if_eq (tgt := 74) hx hb dX4_firstWrong_21 (by decide) (fun c17 => ?_) (fun c17 => ?_)
        · have h18 := itS c17 h14
          clear h14 c17
          obtain ⟨v74_20, e21, h22⟩ := nmI_s h18
          clear h18
          refine lv_iinc (v := v74_20) (lv' := [(5, .int v74_20), (0, .ref a0), (1, .int p1), (2, .ref a_p2), (3, .int p3), (4, .int 0)]) hx hb dX4_firstWrong_74 hlB6 (k := 5) rfl (by rw [e21]; rfl) (by decide) rfl (fun ls hl23 => ?_)
          clear hlB6 e21
          refine lv_goto (tgt := 6) hx hb dX4_firstWrong_77 (by decide) ?_
          exact ih6 v74_20 _ _ _ h22 hV15 (lv_sub hl23 [1, 2, 3, 4, 5, 0] rfl)
        · have h19 := ieS c17 h14
          clear h14 c17
          refine lv_iload hx hb dX4_firstWrong_24 (lv_at hlB6 4 rfl) ?_
          refine lv_iconst (v := 3) hx hb dX4_firstWrong_26 (by decide) ?_
          refine lv_iload_n hx hb dX4_firstWrong_27 rfl (lv_at hlB6 3 rfl) ?_
          refine lv_imul hx hb dX4_firstWrong_28 ?_
          refine lv_icmp_lt (tgt := 35) hx hb dX4_firstWrong_29 (by decide) (fun c24 => ?_) (fun c24 => ?_)
          · have h25 := itS c24 h19
            clear h19 c24
            refine lv_iconst (v := 0) hx hb dX4_firstWrong_35 (by decide) ?_
            refine lv_istore (lv' := [(6, .int 0), (0, .ref a0), (1, .int p1), (2, .ref a_p2), (3, .int p3), (4, .int 0), (5, .int x5_8)]) hx hb dX4_firstWrong_36 hlB6 (by decide) rfl (fun ls hl27 => ?_)
            clear hlB6
            refine lv_iload hx hb dX4_firstWrong_38 (lv_at hl27 0 rfl) ?_
            refine lv_iconst (v := 3) hx hb dX4_firstWrong_40 (by decide) ?_
            refine lv_icmp_ge (tgt := 74) hx hb dX4_firstWrong_41 (by decide) (fun c28 => by exact absurd c28 (by decide)) (fun c28 => ?_)
            clear c28
            refine lv_aload_n hx hb dX4_firstWrong_44 rfl (lv_at hl27 3 rfl) ?_
            refine lv_iload hx hb dX4_firstWrong_45 (lv_at hl27 5 rfl) ?_
            exact nomatch h25
          · have h26 := ieS c24 h19
            clear h19 c24
            refine lv_iload hx hb dX4_firstWrong_32 (lv_at hlB6 4 rfl) ?_
            have q29 := tup1_s h26
            clear h26
            exact hret _ () _ _ _ _ q29 rfl hV15 dX4_firstWrong_34
  exact L6 FU 0 _ _ _ h hV (lv_sub hl2 [2, 3, 4, 5, 1, 0] rfl)
abbrev r_X11_tapeHas : Room := { frames := 1, cells := 0, slots := 0, locals := 22 }
set_option maxHeartbeats 4000000 in
set_option maxRecDepth 100000 in
theorem c_X11_tapeHas (l : Launch) (E : kE) (sz : Nat) (a0 a1 : Nat) (w0_1 w0_2 w0_3 w0_4 w0_5 w0_6 w0_7 w0_8 w1_0 : Value) (s_tape_length : Int32) (p1 : Int32) (p2 : Int32) (r : Int32) (h : f_X11_tapeHas s_tape_length p1 p2 = some (r)) : kMi l yX11_tapeHas cX11_tapeHas 3 (some .boolean) r_X11_tapeHas [.ref a0, .int p1, .int p2] E [(a0, .inr (11, [.ref a1, w0_1, w0_2, w0_3, w0_4, w0_5, w0_6, w0_7, w0_8])), (a1, .inr (9, [w1_0, .int s_tape_length]))] sz 0 0 (fun x (_ : Unit) => x = r) (fun _ => [(a0, .inr (11, [.ref a1, w0_1, w0_2, w0_3, w0_4, w0_5, w0_6, w0_7, w0_8])), (a1, .inr (9, [w1_0, .int s_tape_length]))]) := by
  refine kmeti rfl (Nat.le_of_ble_eq_true rfl) ?_
  intro p e s m args below meth c ls A Q X hV hret hl
  have X : kC p s m c cX11_tapeHas 3 RX11 args E A := X
  have hx := X.1
  have hb := X.2.1
  have hl : lv_has ls 3 [(0, .ref a0), (1, .int p1), (2, .int p2)] := hl
  rw [f_X11_tapeHas] at h
  refine lv_iload_n hx hb dX11_tapeHas_0 rfl (lv_at hl 1 rfl) ?_
  refine lv_iconst (v := 1) hx hb dX11_tapeHas_1 (by decide) ?_
  refine lv_iload_n hx hb dX11_tapeHas_2 rfl (lv_at hl 2 rfl) ?_
  obtain ⟨r3_1, hc2, h3⟩ := cb1_s h
  clear h
  refine kgoiE (krunS (rest := []) X hV [] (c_X11_isWithin l E _ p1 1 p2 r3_1 hc2) mw_187 kb_X11_isWithin (by decide) rfl rfl hl.1 rfl (Nat.le_of_ble_eq_true rfl) dX11_tapeHas_3 (by decide)) X hV [] [0, 1] rfl rfl rfl (by decide) (fun u H locs hV4 => ?_)
  have hV4 : kV E A s.heap H locs [(a0, .inr (11, [.ref a1, w0_1, w0_2, w0_3, w0_4, w0_5, w0_6, w0_7, w0_8])), (a1, .inr (9, [w1_0, .int s_tape_length]))] := hV4.sub [0, 1] rfl rfl
  clear hV
  refine lv_if_eq (tgt := 24) hx hb dX11_tapeHas_6 (by decide) (fun c6 => ?_) (fun c6 => ?_)
  · have h7 := itS c6 h3
    clear h3 c6
    refine lv_iconst (v := 0) hx hb dX11_tapeHas_24 (by decide) ?_
    have q9 := tup1_s h7
    clear h7
    exact hret _ () _ _ _ _ q9 rfl hV4 dX11_tapeHas_25
  · have h8 := ieS c6 h3
    clear h3 c6
    refine lv_iload_n hx hb dX11_tapeHas_9 rfl (lv_at hl 1 rfl) ?_
    refine lv_aload_n hx hb dX11_tapeHas_10 rfl (lv_at hl 0 rfl) ?_
    refine kget X hV4 (ci := 11) inlX11 rfl 0 rfl 0 (by decide) mw_15 rfl dX11_tapeHas_11 ?_
    refine kget X hV4 (ci := 9) inlX9 rfl 1 rfl 1 (by decide) mw_242 rfl dX11_tapeHas_14 ?_
    refine lv_icmp_gt (tgt := 24) hx hb dX11_tapeHas_17 (by decide) (fun c10 => ?_) (fun c10 => ?_)
    · have h11 := itS c10 h8
      clear h8 c10
      refine lv_iconst (v := 0) hx hb dX11_tapeHas_24 (by decide) ?_
      have q13 := tup1_s h11
      clear h11
      exact hret _ () _ _ _ _ q13 rfl hV4 dX11_tapeHas_25
    · have h12 := ieS c10 h8
      clear h8 c10
      refine lv_iconst (v := 1) hx hb dX11_tapeHas_20 (by decide) ?_
      refine lv_goto (tgt := 25) hx hb dX11_tapeHas_21 (by decide) ?_
      have q14 := tup1_s h12
      clear h12
      exact hret _ () _ _ _ _ q14 rfl hV4 dX11_tapeHas_25
abbrev r_X11_canScan : Room := { frames := 2, cells := 0, slots := 0, locals := 42 }
set_option maxHeartbeats 4000000 in
set_option maxRecDepth 100000 in
theorem c_X11_canScan (l : Launch) (E : kE) (sz : Nat) (a0 a1 : Nat) (w0_0 w0_1 w0_2 w0_3 w0_4 w0_5 w0_7 w0_8 w1_0 w1_1 w1_3 w1_4 w1_5 : Value) (s_blips_many : Int32) (p1 : Int32) (p2 : Int32) (p3 : Int32) (r : Int32) (h : f_X11_canScan s_blips_many p1 p2 p3 = some (r)) : kMi l yX11_canScan cX11_canScan 5 (some .boolean) r_X11_canScan [.ref a0, .int p1, .int p2, .int p3] E [(a0, .inr (11, [w0_0, w0_1, w0_2, w0_3, w0_4, w0_5, .ref a1, w0_7, w0_8])), (a1, .inr (0, [w1_0, w1_1, .int s_blips_many, w1_3, w1_4, w1_5]))] sz 0 0 (fun x (_ : Unit) => x = r) (fun _ => [(a0, .inr (11, [w0_0, w0_1, w0_2, w0_3, w0_4, w0_5, .ref a1, w0_7, w0_8])), (a1, .inr (0, [w1_0, w1_1, .int s_blips_many, w1_3, w1_4, w1_5]))]) := by
  refine kmeti rfl (Nat.le_of_ble_eq_true rfl) ?_
  intro p e s m args below meth c ls A Q X hV hret hl
  have X : kC p s m c cX11_canScan 5 RX11 args E A := X
  have hx := X.1
  have hb := X.2.1
  have hl : lv_has ls 5 [(0, .ref a0), (1, .int p1), (2, .int p2), (3, .int p3)] := hl
  rw [f_X11_canScan] at h
  refine lv_iload_n hx hb dX11_canScan_0 rfl (lv_at hl 1 rfl) ?_
  obtain ⟨r1_1, hc2, h3⟩ := cb1_s h
  clear h
  refine kgoiE (krunS (rest := []) X hV [] (c_X11_isBeat l E _ p1 r1_1 hc2) mw_998 kb_X11_isBeat (by decide) rfl rfl hl.1 rfl (Nat.le_of_ble_eq_true rfl) dX11_canScan_1 (by decide)) X hV [] [0, 1] rfl rfl rfl (by decide) (fun u H locs hV4 => ?_)
  have hV4 : kV E A s.heap H locs [(a0, .inr (11, [w0_0, w0_1, w0_2, w0_3, w0_4, w0_5, .ref a1, w0_7, w0_8])), (a1, .inr (0, [w1_0, w1_1, .int s_blips_many, w1_3, w1_4, w1_5]))] := hV4.sub [0, 1] rfl rfl
  clear hV
  have J30 : ∀ (t0_6 : Int32) (H : Heap) (locs : List Loc) (ls : Array Slot), (f_X11_canScan_J30 s_blips_many p1 p2 p3 ) t0_6 = some (r) → kV E A s.heap H locs [(a0, .inr (11, [w0_0, w0_1, w0_2, w0_3, w0_4, w0_5, .ref a1, w0_7, w0_8])), (a1, .inr (0, [w1_0, w1_1, .int s_blips_many, w1_3, w1_4, w1_5]))] → lv_has ls 5 [(0, .ref a0), (1, .int p1), (2, .int p2), (3, .int p3)] → W p l e r_X11_canScan s m args below meth c H locs 0 0 Q (F0 m 30 ls [.int t0_6]) := by
    intro t0_6 H locs ls hB30 hVB30 hlB30
    rw [f_X11_canScan_J30] at hB30
    refine lv_istore (lv' := [(4, .int t0_6), (0, .ref a0), (1, .int p1), (2, .int p2), (3, .int p3)]) hx hb dX11_canScan_30 hlB30 (by decide) rfl (fun ls hl7 => ?_)
    clear hlB30
    refine lv_iload hx hb dX11_canScan_32 (lv_at hl7 0 rfl) ?_
    refine lv_if_eq (tgt := 73) hx hb dX11_canScan_34 (by decide) (fun c8 => ?_) (fun c8 => ?_)
    · have h9 := itS c8 hB30
      clear hB30 c8
      refine lv_iconst (v := 0) hx hb dX11_canScan_73 (by decide) ?_
      have q11 := tup1_s h9
      clear h9
      exact hret _ () _ _ _ _ q11 rfl hVB30 dX11_canScan_74
    · have h10 := ieS c8 hB30
      clear hB30 c8
      refine lv_iload_n hx hb dX11_canScan_37 rfl (lv_at hl7 2 rfl) ?_
      refine lv_iload_n hx hb dX11_canScan_38 rfl (lv_at hl7 3 rfl) ?_
      refine lv_icmp_gt (tgt := 73) hx hb dX11_canScan_39 (by decide) (fun c12 => ?_) (fun c12 => ?_)
      · have h13 := itS c12 h10
        clear h10 c12
        refine lv_iconst (v := 0) hx hb dX11_canScan_73 (by decide) ?_
        have q15 := tup1_s h13
        clear h13
        exact hret _ () _ _ _ _ q15 rfl hVB30 dX11_canScan_74
      · have h14 := ieS c12 h10
        clear h10 c12
        refine lv_iload_n hx hb dX11_canScan_42 rfl (lv_at hl7 3 rfl) ?_
        refine lv_iload_n hx hb dX11_canScan_43 rfl (lv_at hl7 2 rfl) ?_
        refine lv_isub hx hb dX11_canScan_44 ?_
        refine lv_sipush (v := 2000) hx hb dX11_canScan_45 (by decide) ?_
        refine lv_icmp_gt (tgt := 73) hx hb dX11_canScan_48 (by decide) (fun c16 => ?_) (fun c16 => ?_)
        · have h17 := itS c16 h14
          clear h14 c16
          refine lv_iconst (v := 0) hx hb dX11_canScan_73 (by decide) ?_
          have q19 := tup1_s h17
          clear h17
          exact hret _ () _ _ _ _ q19 rfl hVB30 dX11_canScan_74
        · have h18 := ieS c16 h14
          clear h14 c16
          refine lv_iconst (v := 2) hx hb dX11_canScan_51 (by decide) ?_
          refine lv_iload_n hx hb dX11_canScan_52 rfl (lv_at hl7 4 rfl) ?_
          refine lv_imul hx hb dX11_canScan_53 ?_
          refine lv_iload_n hx hb dX11_canScan_54 rfl (lv_at hl7 2 rfl) ?_
          refine lv_icmp_ge (tgt := 73) hx hb dX11_canScan_55 (by decide) (fun c20 => ?_) (fun c20 => ?_)
          · have h21 := itS c20 h18
            clear h18 c20
            refine lv_iconst (v := 0) hx hb dX11_canScan_73 (by decide) ?_
            have q23 := tup1_s h21
            clear h21
            exact hret _ () _ _ _ _ q23 rfl hVB30 dX11_canScan_74
          · have h22 := ieS c20 h18
            clear h18 c20
            refine lv_aload_n hx hb dX11_canScan_58 rfl (lv_at hl7 1 rfl) ?_
            refine kget X hVB30 (ci := 11) inlX11 rfl 0 rfl 6 (by decide) mw_37 rfl dX11_canScan_59 ?_
            refine kget X hVB30 (ci := 0) inlX0 rfl 1 rfl 2 (by decide) mw_997 rfl dX11_canScan_62 ?_
            refine lv_iconst (v := 2) hx hb dX11_canScan_65 (by decide) ?_
            refine lv_icmp_lt (tgt := 73) hx hb dX11_canScan_66 (by decide) (fun c24 => ?_) (fun c24 => ?_)
            · have h25 := itS c24 h22
              clear h22 c24
              refine lv_iconst (v := 0) hx hb dX11_canScan_73 (by decide) ?_
              have q27 := tup1_s h25
              clear h25
              exact hret _ () _ _ _ _ q27 rfl hVB30 dX11_canScan_74
            · have h26 := ieS c24 h22
              clear h22 c24
              refine lv_iconst (v := 1) hx hb dX11_canScan_69 (by decide) ?_
              refine lv_goto (tgt := 74) hx hb dX11_canScan_70 (by decide) ?_
              have q28 := tup1_s h26
              clear h26
              exact hret _ () _ _ _ _ q28 rfl hVB30 dX11_canScan_74
  refine lv_if_eq (tgt := 29) hx hb dX11_canScan_4 (by decide) (fun c29 => ?_) (fun c29 => ?_)
  · have h30 := itS c29 h3
    clear h3 c29
    refine lv_iconst (v := 0) hx hb dX11_canScan_29 (by decide) ?_
    exact J30 0 _ _ _ h30 hV4 (lv_sub hl [0, 1, 2, 3] rfl)
  · have h31 := ieS c29 h3
    clear h3 c29
    refine lv_iload_n hx hb dX11_canScan_7 rfl (lv_at hl 2 rfl) ?_
    obtain ⟨r8_32, hc33, h34⟩ := cb1_s h31
    clear h31
    refine kgoiE (krunS (rest := []) X hV4 [] (c_X11_isBeat l E _ p2 r8_32 hc33) mw_998 kb_X11_isBeat (by decide) rfl rfl hl.1 rfl (Nat.le_of_ble_eq_true rfl) dX11_canScan_8 (by decide)) X hV4 [] [0, 1] rfl rfl rfl (by decide) (fun u H locs hV35 => ?_)
    have hV35 : kV E A s.heap H locs [(a0, .inr (11, [w0_0, w0_1, w0_2, w0_3, w0_4, w0_5, .ref a1, w0_7, w0_8])), (a1, .inr (0, [w1_0, w1_1, .int s_blips_many, w1_3, w1_4, w1_5]))] := hV35.sub [0, 1] rfl rfl
    clear hV4
    refine lv_if_eq (tgt := 29) hx hb dX11_canScan_11 (by decide) (fun c37 => ?_) (fun c37 => ?_)
    · have h38 := itS c37 h34
      clear h34 c37
      refine lv_iconst (v := 0) hx hb dX11_canScan_29 (by decide) ?_
      exact J30 0 _ _ _ h38 hV35 (lv_sub hl [0, 1, 2, 3] rfl)
    · have h39 := ieS c37 h34
      clear h34 c37
      refine lv_iload_n hx hb dX11_canScan_14 rfl (lv_at hl 3 rfl) ?_
      refine lv_iconst (v := 0) hx hb dX11_canScan_15 (by decide) ?_
      refine lv_sipush (v := 1000) hx hb dX11_canScan_16 (by decide) ?_
      obtain ⟨r19_40, hc41, h42⟩ := cb1_s h39
      clear h39
      refine kgoiE (krunS (rest := []) X hV35 [] (c_X11_isWithin l E _ p3 0 1000 r19_40 hc41) mw_187 kb_X11_isWithin (by decide) rfl rfl hl.1 rfl (Nat.le_of_ble_eq_true rfl) dX11_canScan_19 (by decide)) X hV35 [] [0, 1] rfl rfl rfl (by decide) (fun u H locs hV43 => ?_)
      have hV43 : kV E A s.heap H locs [(a0, .inr (11, [w0_0, w0_1, w0_2, w0_3, w0_4, w0_5, .ref a1, w0_7, w0_8])), (a1, .inr (0, [w1_0, w1_1, .int s_blips_many, w1_3, w1_4, w1_5]))] := hV43.sub [0, 1] rfl rfl
      clear hV35
      refine lv_if_eq (tgt := 29) hx hb dX11_canScan_22 (by decide) (fun c45 => ?_) (fun c45 => ?_)
      · have h46 := itS c45 h42
        clear h42 c45
        refine lv_iconst (v := 0) hx hb dX11_canScan_29 (by decide) ?_
        exact J30 0 _ _ _ h46 hV43 (lv_sub hl [0, 1, 2, 3] rfl)
      · have h47 := ieS c45 h42
        clear h42 c45
        refine lv_iconst (v := 1) hx hb dX11_canScan_25 (by decide) ?_
        refine lv_goto (tgt := 30) hx hb dX11_canScan_26 (by decide) ?_
        exact J30 1 _ _ _ h47 hV43 (lv_sub hl [0, 1, 2, 3] rfl)
abbrev r_X11_clausesOf : Room := { frames := 0, cells := 0, slots := 0, locals := 0 }
set_option maxHeartbeats 4000000 in
set_option maxRecDepth 100000 in
theorem c_X11_clausesOf (l : Launch) (E : kE) (sz : Nat) (r : Int32) (h : f_X11_clausesOf  = some (r)) : kMi l yX11_clausesOf cX11_clausesOf 1 (some .int) r_X11_clausesOf [.null] E [] sz 0 0 (fun x (_ : Unit) => x = r) (fun _ => []) := by
  refine kmeti rfl (Nat.le_of_ble_eq_true rfl) ?_
  intro p e s m args below meth c ls A Q X hV hret hl
  have X : kC p s m c cX11_clausesOf 1 RX11 args E A := X
  have hx := X.1
  have hb := X.2.1
  have hl : lv_has ls 1 [(0, .null)] := hl
  rw [f_X11_clausesOf] at h
  refine lv_aload_nN hx hb dX11_clausesOf_0 rfl (lv_at hl 0 rfl) ?_
  refine lv_ifnonnullN hx hb dX11_clausesOf_1 ?_
  refine lv_iconst (v := 0) hx hb dX11_clausesOf_4 (by decide) ?_
  refine lv_goto (tgt := 12) hx hb dX11_clausesOf_5 (by decide) ?_
  have q1 := tup1_s h
  clear h
  exact hret _ () _ _ _ _ q1 rfl hV dX11_clausesOf_12
abbrev r_X11_textCount : Room := { frames := 2, cells := 0, slots := 0, locals := 43 }
set_option maxHeartbeats 4000000 in
set_option maxRecDepth 100000 in
theorem c_X11_textCount (l : Launch) (E : kE) (sz : Nat) (a0 a1 a2 a3 a4 a5 : Nat) (w0_0 w0_1 w0_3 w0_5 w0_6 w0_8 w1_0 w1_1 w1_2 w1_3 w1_5 w2_1 w2_3 : Value) (s_sky_many : Int32) (s_ways : Nat → Option Nat) (s_nights_stories : Nat → Option Nat) (s_sky_sources : Nat → Option Nat) (p1 : Int32) (r : Int32) (h : f_X11_textCount s_sky_many s_ways s_nights_stories s_sky_sources p1 = some (r)) : kMi l yX11_textCount cX11_textCount 3 (some .int) r_X11_textCount [.ref a0, .int p1] E [(a0, .inr (11, [w0_0, w0_1, .ref a2, w0_3, .ref a3, w0_5, w0_6, .ref a1, w0_8])), (a1, .inr (2, [w1_0, w1_1, w1_2, w1_3, .ref a4, w1_5])), (a2, .inr (7, [.ref a5, w2_1, .int s_sky_many, w2_3])), (a3, .inl (E.2 4, 4, .inr (.inr (.inr (.inr s_ways))))), (a4, .inl (E.2 4, 6, .inr (.inr (.inr (.inr s_nights_stories))))), (a5, .inl (E.2 3, 10, .inr (.inr (.inr (.inr s_sky_sources)))))] sz 0 0 (fun x (_ : Unit) => x = r) (fun _ => [(a0, .inr (11, [w0_0, w0_1, .ref a2, w0_3, .ref a3, w0_5, w0_6, .ref a1, w0_8])), (a1, .inr (2, [w1_0, w1_1, w1_2, w1_3, .ref a4, w1_5])), (a2, .inr (7, [.ref a5, w2_1, .int s_sky_many, w2_3])), (a3, .inl (E.2 4, 4, .inr (.inr (.inr (.inr s_ways))))), (a4, .inl (E.2 4, 6, .inr (.inr (.inr (.inr s_nights_stories))))), (a5, .inl (E.2 3, 10, .inr (.inr (.inr (.inr s_sky_sources)))))]) := by
  refine kmeti rfl (Nat.le_of_ble_eq_true rfl) ?_
  intro p e s m args below meth c ls A Q X hV hret hl
  have X : kC p s m c cX11_textCount 3 RX11 args E A := X
  have hx := X.1
  have hb := X.2.1
  have hl : lv_has ls 3 [(0, .ref a0), (1, .int p1)] := hl
  rw [f_X11_textCount] at h
  refine lv_iload_n hx hb dX11_textCount_0 rfl (lv_at hl 1 rfl) ?_
  refine lv_bipush (v := 10) hx hb dX11_textCount_1 (by decide) ?_
  refine lv_bipush (v := 10) hx hb dX11_textCount_3 (by decide) ?_
  refine lv_aload_n hx hb dX11_textCount_5 rfl (lv_at hl 0 rfl) ?_
  refine kget X hV (ci := 11) inlX11 rfl 0 rfl 2 (by decide) mw_23 rfl dX11_textCount_6 ?_
  refine kget X hV (ci := 7) inlX7 rfl 2 rfl 2 (by decide) mw_180 rfl dX11_textCount_9 ?_
  refine lv_iadd hx hb dX11_textCount_12 ?_
  refine lv_iconst (v := 1) hx hb dX11_textCount_13 (by decide) ?_
  refine lv_isub hx hb dX11_textCount_14 ?_
  obtain ⟨r15_1, hc2, h3⟩ := cb1_s h
  clear h
  refine kgoiE (krunS (rest := []) X hV [] (c_X11_isWithin l E _ p1 10 ((10 + s_sky_many) - 1) r15_1 hc2) mw_187 kb_X11_isWithin (by decide) rfl rfl hl.1 rfl (Nat.le_of_ble_eq_true rfl) dX11_textCount_15 (by decide)) X hV [] [0, 1, 2, 3, 4, 5] rfl rfl rfl (by decide) (fun u H locs hV4 => ?_)
  have hV4 : kV E A s.heap H locs [(a0, .inr (11, [w0_0, w0_1, .ref a2, w0_3, .ref a3, w0_5, w0_6, .ref a1, w0_8])), (a1, .inr (2, [w1_0, w1_1, w1_2, w1_3, .ref a4, w1_5])), (a2, .inr (7, [.ref a5, w2_1, .int s_sky_many, w2_3])), (a3, .inl (E.2 4, 4, .inr (.inr (.inr (.inr s_ways))))), (a4, .inl (E.2 4, 6, .inr (.inr (.inr (.inr s_nights_stories))))), (a5, .inl (E.2 3, 10, .inr (.inr (.inr (.inr s_sky_sources)))))] := hV4.sub [0, 1, 2, 3, 4, 5] rfl rfl
  clear hV
  refine lv_if_eq (tgt := 49) hx hb dX11_textCount_18 (by decide) (fun c6 => ?_) (fun c6 => ?_)
  · have h7 := itS c6 h3
    clear h3 c6
    refine lv_iload_n hx hb dX11_textCount_49 rfl (lv_at hl 1 rfl) ?_
    refine lv_bipush (v := 20) hx hb dX11_textCount_50 (by decide) ?_
    refine lv_bipush (v := 23) hx hb dX11_textCount_52 (by decide) ?_
    obtain ⟨r54_9, hc10, h11⟩ := cb1_s h7
    clear h7
    refine kgoiE (krunS (rest := []) X hV4 [] (c_X11_isWithin l E _ p1 20 23 r54_9 hc10) mw_187 kb_X11_isWithin (by decide) rfl rfl hl.1 rfl (Nat.le_of_ble_eq_true rfl) dX11_textCount_54 (by decide)) X hV4 [] [0, 1, 2, 3, 4, 5] rfl rfl rfl (by decide) (fun u H locs hV12 => ?_)
    have hV12 : kV E A s.heap H locs [(a0, .inr (11, [w0_0, w0_1, .ref a2, w0_3, .ref a3, w0_5, w0_6, .ref a1, w0_8])), (a1, .inr (2, [w1_0, w1_1, w1_2, w1_3, .ref a4, w1_5])), (a2, .inr (7, [.ref a5, w2_1, .int s_sky_many, w2_3])), (a3, .inl (E.2 4, 4, .inr (.inr (.inr (.inr s_ways))))), (a4, .inl (E.2 4, 6, .inr (.inr (.inr (.inr s_nights_stories))))), (a5, .inl (E.2 3, 10, .inr (.inr (.inr (.inr s_sky_sources)))))] := hV12.sub [0, 1, 2, 3, 4, 5] rfl rfl
    clear hV4
    refine lv_if_eq (tgt := 73) hx hb dX11_textCount_57 (by decide) (fun c14 => ?_) (fun c14 => ?_)
    · have h15 := itS c14 h11
      clear h11 c14
      refine lv_iload_n hx hb dX11_textCount_73 rfl (lv_at hl 1 rfl) ?_
      refine lv_bipush (v := 30) hx hb dX11_textCount_74 (by decide) ?_
      refine lv_bipush (v := 35) hx hb dX11_textCount_76 (by decide) ?_
      obtain ⟨r78_17, hc18, h19⟩ := cb1_s h15
      clear h15
      refine kgoiE (krunS (rest := []) X hV12 [] (c_X11_isWithin l E _ p1 30 35 r78_17 hc18) mw_187 kb_X11_isWithin (by decide) rfl rfl hl.1 rfl (Nat.le_of_ble_eq_true rfl) dX11_textCount_78 (by decide)) X hV12 [] [0, 1, 2, 3, 4, 5] rfl rfl rfl (by decide) (fun u H locs hV20 => ?_)
      have hV20 : kV E A s.heap H locs [(a0, .inr (11, [w0_0, w0_1, .ref a2, w0_3, .ref a3, w0_5, w0_6, .ref a1, w0_8])), (a1, .inr (2, [w1_0, w1_1, w1_2, w1_3, .ref a4, w1_5])), (a2, .inr (7, [.ref a5, w2_1, .int s_sky_many, w2_3])), (a3, .inl (E.2 4, 4, .inr (.inr (.inr (.inr s_ways))))), (a4, .inl (E.2 4, 6, .inr (.inr (.inr (.inr s_nights_stories))))), (a5, .inl (E.2 3, 10, .inr (.inr (.inr (.inr s_sky_sources)))))] := hV20.sub [0, 1, 2, 3, 4, 5] rfl rfl
      clear hV12
      refine lv_if_eq (tgt := 100) hx hb dX11_textCount_81 (by decide) (fun c22 => ?_) (fun c22 => ?_)
      · have h23 := itS c22 h19
        clear h19 c22
        refine lv_iconst (v := (-1)) hx hb dX11_textCount_100 (by decide) ?_
        have q25 := tup1_s h23
        clear h23
        exact hret _ () _ _ _ _ q25 rfl hV20 dX11_textCount_101
      · have h24 := ieS c22 h19
        clear h19 c22
        refine lv_aload_n hx hb dX11_textCount_84 rfl (lv_at hl 0 rfl) ?_
        refine kget X hV20 (ci := 11) inlX11 rfl 0 rfl 7 (by decide) mw_41 rfl dX11_textCount_85 ?_
        refine kget X hV20 (ci := 2) inlX2 rfl 1 rfl 4 (by decide) mw_602 rfl dX11_textCount_88 ?_
        refine lv_iload_n hx hb dX11_textCount_91 rfl (lv_at hl 1 rfl) ?_
        refine lv_bipush (v := 30) hx hb dX11_textCount_92 (by decide) ?_
        refine lv_isub hx hb dX11_textCount_94 ?_
        obtain ⟨hi26, e27, h28⟩ := rdN_s h24
        clear h24
        refine kaald X hV20 4 4 rfl rfl hi26 e27 dX11_textCount_95 ?_
        clear hi26 e27
        refine W.eq (g2 := F0 m 96 ls [.null]) rfl ?_
        obtain ⟨r96_29, hc30, h31⟩ := cb1_s h28
        clear h28
        refine kgoiE (krunS (rest := []) X hV20 [] (c_X11_clausesOf l E _ r96_29 hc30) mw_1333 kb_X11_clausesOf (by decide) rfl rfl hl.1 rfl (Nat.le_of_ble_eq_true rfl) dX11_textCount_96 (by decide)) X hV20 [] [0, 1, 2, 3, 4, 5] rfl rfl rfl (by decide) (fun u H locs hV32 => ?_)
        have hV32 : kV E A s.heap H locs [(a0, .inr (11, [w0_0, w0_1, .ref a2, w0_3, .ref a3, w0_5, w0_6, .ref a1, w0_8])), (a1, .inr (2, [w1_0, w1_1, w1_2, w1_3, .ref a4, w1_5])), (a2, .inr (7, [.ref a5, w2_1, .int s_sky_many, w2_3])), (a3, .inl (E.2 4, 4, .inr (.inr (.inr (.inr s_ways))))), (a4, .inl (E.2 4, 6, .inr (.inr (.inr (.inr s_nights_stories))))), (a5, .inl (E.2 3, 10, .inr (.inr (.inr (.inr s_sky_sources)))))] := hV32.sub [0, 1, 2, 3, 4, 5] rfl rfl
        clear hV20
        have q34 := tup1_s h31
        clear h31
        exact hret _ () _ _ _ _ q34 rfl hV32 dX11_textCount_99
    · have h16 := ieS c14 h11
      clear h11 c14
      refine lv_aload_n hx hb dX11_textCount_60 rfl (lv_at hl 0 rfl) ?_
      refine kget X hV12 (ci := 11) inlX11 rfl 0 rfl 4 (by decide) mw_29 rfl dX11_textCount_61 ?_
      refine lv_iload_n hx hb dX11_textCount_64 rfl (lv_at hl 1 rfl) ?_
      refine lv_bipush (v := 20) hx hb dX11_textCount_65 (by decide) ?_
      refine lv_isub hx hb dX11_textCount_67 ?_
      obtain ⟨hi35, e36, h37⟩ := rdN_s h16
      clear h16
      refine kaald X hV12 3 4 rfl rfl hi35 e36 dX11_textCount_68 ?_
      clear hi35 e36
      refine W.eq (g2 := F0 m 69 ls [.null]) rfl ?_
      obtain ⟨r69_38, hc39, h40⟩ := cb1_s h37
      clear h37
      refine kgoiE (krunS (rest := []) X hV12 [] (c_X11_clausesOf l E _ r69_38 hc39) mw_1333 kb_X11_clausesOf (by decide) rfl rfl hl.1 rfl (Nat.le_of_ble_eq_true rfl) dX11_textCount_69 (by decide)) X hV12 [] [0, 1, 2, 3, 4, 5] rfl rfl rfl (by decide) (fun u H locs hV41 => ?_)
      have hV41 : kV E A s.heap H locs [(a0, .inr (11, [w0_0, w0_1, .ref a2, w0_3, .ref a3, w0_5, w0_6, .ref a1, w0_8])), (a1, .inr (2, [w1_0, w1_1, w1_2, w1_3, .ref a4, w1_5])), (a2, .inr (7, [.ref a5, w2_1, .int s_sky_many, w2_3])), (a3, .inl (E.2 4, 4, .inr (.inr (.inr (.inr s_ways))))), (a4, .inl (E.2 4, 6, .inr (.inr (.inr (.inr s_nights_stories))))), (a5, .inl (E.2 3, 10, .inr (.inr (.inr (.inr s_sky_sources)))))] := hV41.sub [0, 1, 2, 3, 4, 5] rfl rfl
      clear hV12
      have q43 := tup1_s h40
      clear h40
      exact hret _ () _ _ _ _ q43 rfl hV41 dX11_textCount_72
  · have h8 := ieS c6 h3
    clear h3 c6
    refine lv_aload_n hx hb dX11_textCount_21 rfl (lv_at hl 0 rfl) ?_
    refine kget X hV4 (ci := 11) inlX11 rfl 0 rfl 2 (by decide) mw_23 rfl dX11_textCount_22 ?_
    refine lv_iload_n hx hb dX11_textCount_25 rfl (lv_at hl 1 rfl) ?_
    refine lv_bipush (v := 10) hx hb dX11_textCount_26 (by decide) ?_
    refine lv_isub hx hb dX11_textCount_28 ?_
    obtain ⟨u29_44, hc45, h46⟩ := cb1_s h8
    clear h8
    refine kgonE (krunV (rest := []) X hV4 [2, 5] (c_X7_sourceAt l E _ a2 a5 (w2_1) (w2_3) s_sky_many s_sky_sources (p1 - 10) hc45) mw_263 kb_X7_sourceAt (ci := 7) rfl rfl (by decide) rfl rfl hl.1 rfl (Nat.le_of_ble_eq_true rfl) dX11_textCount_29 (by decide)) X hV4 [2, 5] [0, 1, 3, 4] rfl rfl rfl (by decide) (fun u H locs hV47 => ?_)
    have hV47 : kV E A s.heap H locs [(a0, .inr (11, [w0_0, w0_1, .ref a2, w0_3, .ref a3, w0_5, w0_6, .ref a1, w0_8])), (a1, .inr (2, [w1_0, w1_1, w1_2, w1_3, .ref a4, w1_5])), (a2, .inr (7, [.ref a5, w2_1, .int s_sky_many, w2_3])), (a3, .inl (E.2 4, 4, .inr (.inr (.inr (.inr s_ways))))), (a4, .inl (E.2 4, 6, .inr (.inr (.inr (.inr s_nights_stories))))), (a5, .inl (E.2 3, 10, .inr (.inr (.inr (.inr s_sky_sources)))))] := hV47.sub [0, 1, 4, 2, 3, 5] rfl rfl
    clear hV4
    refine lv_astore_nN (lv' := [(2, .null), (0, .ref a0), (1, .int p1)]) hx hb dX11_textCount_32 rfl hl (by decide) rfl (fun ls hl49 => ?_)
    clear hl
    refine lv_aload_nN hx hb dX11_textCount_33 rfl (lv_at hl49 0 rfl) ?_
    refine lv_ifnonnullN hx hb dX11_textCount_34 ?_
    refine lv_iconst (v := (-1)) hx hb dX11_textCount_37 (by decide) ?_
    refine lv_goto (tgt := 48) hx hb dX11_textCount_38 (by decide) ?_
    have q50 := tup1_s h46
    clear h46
    exact hret _ () _ _ _ _ q50 rfl hV47 dX11_textCount_48
