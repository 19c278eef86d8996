noncomputable def f_X4_beginsMark (s_marked : Nat → Int32) (p1 : Int32) (p2 : Int32) : Option (Int32) :=
    cb1 (f_X4_isMarked s_marked p1 p2) fun r3_1 =>
    if r3_1 = 0 then
    (some (0))
    else
    (cb1 (f_X4_isMarked s_marked p1 (p2 - 1)) fun r14_10 =>
      if r14_10 = 0 then
      (some (1))
      else
      (some (0)))
abbrev r_X4_beginsMark : Room := { frames := 3, cells := 0, slots := 0, locals := 64 }
set_option maxHeartbeats 4000000 in
set_option maxRecDepth 100000 in
theorem c_X4_beginsMark (l : Launch) (E : kE) (sz : Nat) (a0 a1 : Nat) (w0_0 w0_1 w0_2 w0_4 w0_5 w0_6 : Value) (s_marked : Nat → Int32) (p1 : Int32) (p2 : Int32) (r : Int32) (h : f_X4_beginsMark s_marked p1 p2 = some (r)) : kMi l yX4_beginsMark cX4_beginsMark 3 (some .boolean) r_X4_beginsMark [.ref a0, .int p1, .int p2] E [(a0, .inr (4, [w0_0, w0_1, w0_2, .ref a1, w0_4, w0_5, w0_6])), (a1, .inl (E.2 0, 1440, .inl s_marked))] sz 0 0 (fun x (_ : Unit) => x = r) (fun _ => [(a0, .inr (4, [w0_0, w0_1, w0_2, .ref a1, w0_4, w0_5, w0_6])), (a1, .inl (E.2 0, 1440, .inl s_marked))]) := by
  refine kmeti rfl (Nat.le_of_ble_eq_true rfl) ?_
  intro p e s m args below meth c ls A Q X hV hret hl
  have X : kC p s m c cX4_beginsMark 3 RX4 args E A := X
  have hx := X.1
  have hb := X.2.1
  have hl : lv_has ls 3 [(0, .ref a0), (1, .int p1), (2, .int p2)] := hl
  rw [f_X4_beginsMark] at h
  refine lv_aload_n hx hb dX4_beginsMark_0 rfl (lv_at hl 0 rfl) ?_
  refine lv_iload_n hx hb dX4_beginsMark_1 rfl (lv_at hl 1 rfl) ?_
  refine lv_iload_n hx hb dX4_beginsMark_2 rfl (lv_at hl 2 rfl) ?_
  obtain ⟨r3_1, hc2, h3⟩ := cb1_s h
  clear h
  refine kgoiE (krunV (rest := []) X hV [0, 1] (c_X4_isMarked l E _ a0 a1 (w0_0) (w0_1) (w0_2) (w0_4) (w0_5) (w0_6) s_marked p1 p2 r3_1 hc2) mw_821 kb_X4_isMarked (ci := 4) rfl rfl (by decide) rfl rfl hl.1 rfl (Nat.le_of_ble_eq_true rfl) dX4_beginsMark_3 (by decide)) X hV [0, 1] [] rfl rfl rfl (by decide) (fun u H locs hV4 => ?_)
  have hV4 : kV E A s.heap H locs [(a0, .inr (4, [w0_0, w0_1, w0_2, .ref a1, w0_4, w0_5, w0_6])), (a1, .inl (E.2 0, 1440, .inl s_marked))] := hV4.sub [0, 1] rfl rfl
  clear hV
  refine lv_if_eq (tgt := 24) hx hb dX4_beginsMark_6 (by decide) (fun c6 => ?_) (fun c6 => ?_)
  · have h7 := itS c6 h3
    clear h3 c6
    refine lv_iconst (v := 0) hx hb dX4_beginsMark_24 (by decide) ?_
    have q9 := tup1_s h7
    clear h7
    exact hret _ () _ _ _ _ q9 rfl hV4 dX4_beginsMark_25
  · have h8 := ieS c6 h3
    clear h3 c6
    refine lv_aload_n hx hb dX4_beginsMark_9 rfl (lv_at hl 0 rfl) ?_
    refine lv_iload_n hx hb dX4_beginsMark_10 rfl (lv_at hl 1 rfl) ?_
    refine lv_iload_n hx hb dX4_beginsMark_11 rfl (lv_at hl 2 rfl) ?_
    refine lv_iconst (v := 1) hx hb dX4_beginsMark_12 (by decide) ?_
    refine lv_isub hx hb dX4_beginsMark_13 ?_
    obtain ⟨r14_10, hc11, h12⟩ := cb1_s h8
    clear h8
    refine kgoiE (krunV (rest := []) X hV4 [0, 1] (c_X4_isMarked l E _ a0 a1 (w0_0) (w0_1) (w0_2) (w0_4) (w0_5) (w0_6) s_marked p1 (p2 - 1) r14_10 hc11) mw_821 kb_X4_isMarked (ci := 4) rfl rfl (by decide) rfl rfl hl.1 rfl (Nat.le_of_ble_eq_true rfl) dX4_beginsMark_14 (by decide)) X hV4 [0, 1] [] rfl rfl rfl (by decide) (fun u H locs hV13 => ?_)
    have hV13 : kV E A s.heap H locs [(a0, .inr (4, [w0_0, w0_1, w0_2, .ref a1, w0_4, w0_5, w0_6])), (a1, .inl (E.2 0, 1440, .inl s_marked))] := hV13.sub [0, 1] rfl rfl
    clear hV4
    refine lv_if_ne (tgt := 24) hx hb dX4_beginsMark_17 (by decide) (fun c15 => ?_) (fun c15 => ?_)
    · have h16 := ieS c15 h12
      clear h12 c15
      refine lv_iconst (v := 0) hx hb dX4_beginsMark_24 (by decide) ?_
      have q18 := tup1_s h16
      clear h16
      exact hret _ () _ _ _ _ q18 rfl hV13 dX4_beginsMark_25
    · have h17 := itS c15 h12
      clear h12 c15
      refine lv_iconst (v := 1) hx hb dX4_beginsMark_20 (by decide) ?_
      refine lv_goto (tgt := 25) hx hb dX4_beginsMark_21 (by decide) ?_
      have q19 := tup1_s h17
      clear h17
      exact hret _ () _ _ _ _ q19 rfl hV13 dX4_beginsMark_25
noncomputable def f_X4_lastOf_L2 (s_marked : Nat → Int32) (p1 : Int32)  : Nat → Int32 → Option (Int32)
  | 0, _ => none
  | n2 + 1, x3_2 =>
    if 1440 ≤ (x3_2 + 1) then
    (some (x3_2))
    else
    (cb1 (f_X4_isMarked s_marked p1 (x3_2 + 1)) fun r16_7 =>
      if r16_7 = 0 then
      (some (x3_2))
      else
      (nmI (x3_2 + 1) fun v22_16 =>
        (f_X4_lastOf_L2 s_marked p1  n2) v22_16))
noncomputable def f_X4_lastOf (s_marked : Nat → Int32) (p1 : Int32) (p2 : Int32) : Option (Int32) :=
    (f_X4_lastOf_L2 s_marked p1  FU) p2
abbrev r_X4_lastOf : Room := { frames := 3, cells := 0, slots := 0, locals := 64 }
set_option maxHeartbeats 4000000 in
set_option maxRecDepth 100000 in
theorem c_X4_lastOf (l : Launch) (E : kE) (sz : Nat) (a0 a1 : Nat) (w0_0 w0_1 w0_2 w0_4 w0_5 w0_6 : Value) (s_marked : Nat → Int32) (p1 : Int32) (p2 : Int32) (r : Int32) (h : f_X4_lastOf s_marked p1 p2 = some (r)) : kMi l yX4_lastOf cX4_lastOf 4 (some .int) r_X4_lastOf [.ref a0, .int p1, .int p2] E [(a0, .inr (4, [w0_0, w0_1, w0_2, .ref a1, w0_4, w0_5, w0_6])), (a1, .inl (E.2 0, 1440, .inl s_marked))] sz 0 0 (fun x (_ : Unit) => x = r) (fun _ => [(a0, .inr (4, [w0_0, w0_1, w0_2, .ref a1, w0_4, w0_5, w0_6])), (a1, .inl (E.2 0, 1440, .inl s_marked))]) := by
  refine kmeti rfl (Nat.le_of_ble_eq_true rfl) ?_
  intro p e s m args below meth c ls A Q X hV hret hl
  have X : kC p s m c cX4_lastOf 4 RX4 args E A := X
  have hx := X.1
  have hb := X.2.1
  have hl : lv_has ls 4 [(0, .ref a0), (1, .int p1), (2, .int p2)] := hl
  rw [f_X4_lastOf] at h
  refine lv_iload_n hx hb dX4_lastOf_0 rfl (lv_at hl 2 rfl) ?_
  refine lv_istore_n (lv' := [(3, .int p2), (0, .ref a0), (1, .int p1), (2, .int p2)]) hx hb dX4_lastOf_1 rfl hl (by decide) rfl (fun ls hl1 => ?_)
  clear hl
  have L2 : ∀ (n2 : Nat) (x3_2 : Int32) (H : Heap) (locs : List Loc) (ls : Array Slot), (f_X4_lastOf_L2 s_marked p1  n2) x3_2 = some (r) → kV E A s.heap H locs [(a0, .inr (4, [w0_0, w0_1, w0_2, .ref a1, w0_4, w0_5, w0_6])), (a1, .inl (E.2 0, 1440, .inl s_marked))] → lv_has ls 4 [(0, .ref a0), (1, .int p1), (3, .int x3_2)] → W p l e r_X4_lastOf s m args below meth c H locs 0 0 Q (F0 m 2 ls []) := by
    intro n2
    induction n2 with
    | zero =>
      intro x3_2 H locs ls hB2 hVB2 hlB2
      rw [f_X4_lastOf_L2] at hB2
      exact nomatch hB2
    | succ n2 ih2 =>
      intro x3_2 H locs ls hB2 hVB2 hlB2
      rw [f_X4_lastOf_L2] at hB2
      refine lv_iload_n hx hb dX4_lastOf_2 rfl (lv_at hlB2 2 rfl) ?_
      refine lv_iconst (v := 1) hx hb dX4_lastOf_3 (by decide) ?_
      refine lv_iadd hx hb dX4_lastOf_4 ?_
      refine lv_sipush (v := 1440) hx hb dX4_lastOf_5 (by decide) ?_
      refine lv_icmp_ge (tgt := 28) hx hb dX4_lastOf_8 (by decide) (fun c3 => ?_) (fun c3 => ?_)
      · have h4 := itS c3 hB2
        clear hB2 c3
        refine lv_iload_n hx hb dX4_lastOf_28 rfl (lv_at hlB2 2 rfl) ?_
        have q6 := tup1_s h4
        clear h4
        exact hret _ () _ _ _ _ q6 rfl hVB2 dX4_lastOf_29
      · have h5 := ieS c3 hB2
        clear hB2 c3
        refine lv_aload_n hx hb dX4_lastOf_11 rfl (lv_at hlB2 0 rfl) ?_
        refine lv_iload_n hx hb dX4_lastOf_12 rfl (lv_at hlB2 1 rfl) ?_
        refine lv_iload_n hx hb dX4_lastOf_13 rfl (lv_at hlB2 2 rfl) ?_
        refine lv_iconst (v := 1) hx hb dX4_lastOf_14 (by decide) ?_
        refine lv_iadd hx hb dX4_lastOf_15 ?_
        obtain ⟨r16_7, hc8, h9⟩ := cb1_s h5
        clear h5
        refine kgoiE (krunV (rest := []) X hVB2 [0, 1] (c_X4_isMarked l E _ a0 a1 (w0_0) (w0_1) (w0_2) (w0_4) (w0_5) (w0_6) s_marked p1 (x3_2 + 1) r16_7 hc8) mw_821 kb_X4_isMarked (ci := 4) rfl rfl (by decide) rfl rfl hlB2.1 rfl (Nat.le_of_ble_eq_true rfl) dX4_lastOf_16 (by decide)) X hVB2 [0, 1] [] rfl rfl rfl (by decide) (fun u H locs hV10 => ?_)
        have hV10 : kV E A s.heap H locs [(a0, .inr (4, [w0_0, w0_1, w0_2, .ref a1, w0_4, w0_5, w0_6])), (a1, .inl (E.2 0, 1440, .inl s_marked))] := hV10.sub [0, 1] rfl rfl
        clear hVB2
        refine lv_if_eq (tgt := 28) hx hb dX4_lastOf_19 (by decide) (fun c12 => ?_) (fun c12 => ?_)
        · have h13 := itS c12 h9
          clear h9 c12
          refine lv_iload_n hx hb dX4_lastOf_28 rfl (lv_at hlB2 2 rfl) ?_
          have q15 := tup1_s h13
          clear h13
          exact hret _ () _ _ _ _ q15 rfl hV10 dX4_lastOf_29
        · have h14 := ieS c12 h9
          clear h9 c12
          obtain ⟨v22_16, e17, h18⟩ := nmI_s h14
          clear h14
          refine lv_iinc (v := v22_16) (lv' := [(3, .int v22_16), (0, .ref a0), (1, .int p1)]) hx hb dX4_lastOf_22 hlB2 (k := 2) rfl (by rw [e17]; rfl) (by decide) rfl (fun ls hl19 => ?_)
          clear hlB2 e17
          refine lv_goto (tgt := 2) hx hb dX4_lastOf_25 (by decide) ?_
          exact ih2 v22_16 _ _ _ h18 hV10 (lv_sub hl19 [1, 2, 0] rfl)
  exact L2 FU p2 _ _ _ h hV (lv_sub hl1 [1, 2, 0] rfl)
noncomputable def f_X4_marksOf_L4 (s_marked : Nat → Int32) (p1 : Int32)  : Nat → Int32 → Int32 → Option (Int32)
  | 0, _, _ => none
  | n4 + 1, x2_3, x3_4 =>
    if 1440 ≤ x3_4 then
    (some (x2_3))
    else
    (cb1 (f_X4_beginsMark s_marked p1 x3_4) fun r15_9 =>
      if r15_9 = 0 then
      (nmI (x2_3 + 0) fun v27_17 =>
        nmI (x3_4 + 1) fun v28_21 =>
        (f_X4_marksOf_L4 s_marked p1  n4) v27_17 v28_21)
      else
      (nmI (x2_3 + 1) fun v27_25 =>
        nmI (x3_4 + 1) fun v28_29 =>
        (f_X4_marksOf_L4 s_marked p1  n4) v27_25 v28_29))
noncomputable def f_X4_marksOf (s_marked : Nat → Int32) (p1 : Int32) : Option (Int32) :=
    (f_X4_marksOf_L4 s_marked p1  FU) 0 0
abbrev r_X4_marksOf : Room := { frames := 4, cells := 0, slots := 0, locals := 86 }
set_option maxHeartbeats 4000000 in
set_option maxRecDepth 100000 in
theorem c_X4_marksOf (l : Launch) (E : kE) (sz : Nat) (a0 a1 : Nat) (w0_0 w0_1 w0_2 w0_4 w0_5 w0_6 : Value) (s_marked : Nat → Int32) (p1 : Int32) (r : Int32) (h : f_X4_marksOf s_marked p1 = some (r)) : kMi l yX4_marksOf cX4_marksOf 4 (some .int) r_X4_marksOf [.ref a0, .int p1] E [(a0, .inr (4, [w0_0, w0_1, w0_2, .ref a1, w0_4, w0_5, w0_6])), (a1, .inl (E.2 0, 1440, .inl s_marked))] sz 0 0 (fun x (_ : Unit) => x = r) (fun _ => [(a0, .inr (4, [w0_0, w0_1, w0_2, .ref a1, w0_4, w0_5, w0_6])), (a1, .inl (E.2 0, 1440, .inl s_marked))]) := by
  refine kmeti rfl (Nat.le_of_ble_eq_true rfl) ?_
  intro p e s m args below meth c ls A Q X hV hret hl
  have X : kC p s m c cX4_marksOf 4 RX4 args E A := X
  have hx := X.1
  have hb := X.2.1
  have hl : lv_has ls 4 [(0, .ref a0), (1, .int p1)] := hl
  rw [f_X4_marksOf] at h
  refine lv_iconst (v := 0) hx hb dX4_marksOf_0 (by decide) ?_
  refine lv_istore_n (lv' := [(2, .int 0), (0, .ref a0), (1, .int p1)]) hx hb dX4_marksOf_1 rfl hl (by decide) rfl (fun ls hl1 => ?_)
  clear hl
  refine lv_iconst (v := 0) hx hb dX4_marksOf_2 (by decide) ?_
  refine lv_istore_n (lv' := [(3, .int 0), (2, .int 0), (0, .ref a0), (1, .int p1)]) hx hb dX4_marksOf_3 rfl hl1 (by decide) rfl (fun ls hl2 => ?_)
  clear hl1
  have L4 : ∀ (n4 : Nat) (x2_3 : Int32) (x3_4 : Int32) (H : Heap) (locs : List Loc) (ls : Array Slot), (f_X4_marksOf_L4 s_marked p1  n4) x2_3 x3_4 = some (r) → kV E A s.heap H locs [(a0, .inr (4, [w0_0, w0_1, w0_2, .ref a1, w0_4, w0_5, w0_6])), (a1, .inl (E.2 0, 1440, .inl s_marked))] → lv_has ls 4 [(0, .ref a0), (1, .int p1), (2, .int x2_3), (3, .int x3_4)] → W p l e r_X4_marksOf s m args below meth c H locs 0 0 Q (F0 m 4 ls []) := by
    intro n4
    induction n4 with
    | zero =>
      intro x2_3 x3_4 H locs ls hB4 hVB4 hlB4
      rw [f_X4_marksOf_L4] at hB4
      exact nomatch hB4
    | succ n4 ih4 =>
      intro x2_3 x3_4 H locs ls hB4 hVB4 hlB4
      rw [f_X4_marksOf_L4] at hB4
      refine lv_iload_n hx hb dX4_marksOf_4 rfl (lv_at hlB4 3 rfl) ?_
      refine lv_sipush (v := 1440) hx hb dX4_marksOf_5 (by decide) ?_
      refine lv_icmp_ge (tgt := 34) hx hb dX4_marksOf_8 (by decide) (fun c5 => ?_) (fun c5 => ?_)
      · have h6 := itS c5 hB4
        clear hB4 c5
        refine lv_iload_n hx hb dX4_marksOf_34 rfl (lv_at hlB4 2 rfl) ?_
        have q8 := tup1_s h6
        clear h6
        exact hret _ () _ _ _ _ q8 rfl hVB4 dX4_marksOf_35
      · have h7 := ieS c5 hB4
        clear hB4 c5
        refine lv_iload_n hx hb dX4_marksOf_11 rfl (lv_at hlB4 2 rfl) ?_
        refine lv_aload_n hx hb dX4_marksOf_12 rfl (lv_at hlB4 0 rfl) ?_
        refine lv_iload_n hx hb dX4_marksOf_13 rfl (lv_at hlB4 1 rfl) ?_
        refine lv_iload_n hx hb dX4_marksOf_14 rfl (lv_at hlB4 3 rfl) ?_
        obtain ⟨r15_9, hc10, h11⟩ := cb1_s h7
        clear h7
        refine kgoiE (krunV (rest := [.int x2_3]) X hVB4 [0, 1] (c_X4_beginsMark l E _ a0 a1 (w0_0) (w0_1) (w0_2) (w0_4) (w0_5) (w0_6) s_marked p1 x3_4 r15_9 hc10) mw_830 kb_X4_beginsMark (ci := 4) rfl rfl (by decide) rfl rfl hlB4.1 rfl (Nat.le_of_ble_eq_true rfl) dX4_marksOf_15 (by decide)) X hVB4 [0, 1] [] rfl rfl rfl (by decide) (fun u H locs hV12 => ?_)
        have hV12 : kV E A s.heap H locs [(a0, .inr (4, [w0_0, w0_1, w0_2, .ref a1, w0_4, w0_5, w0_6])), (a1, .inl (E.2 0, 1440, .inl s_marked))] := hV12.sub [0, 1] rfl rfl
        clear hVB4
        refine lv_if_eq (tgt := 25) hx hb dX4_marksOf_18 (by decide) (fun c14 => ?_) (fun c14 => ?_)
        · have h15 := itS c14 h11
          clear h11 c14
          refine lv_iconst (v := 0) hx hb dX4_marksOf_25 (by decide) ?_
          refine lv_iadd hx hb dX4_marksOf_26 ?_
          obtain ⟨v27_17, e18, h19⟩ := nmI_s h15
          clear h15
          refine ktopi e18 ?_
          clear e18
          refine lv_istore_n (lv' := [(2, .int v27_17), (0, .ref a0), (1, .int p1), (3, .int x3_4)]) hx hb dX4_marksOf_27 rfl hlB4 (by decide) rfl (fun ls hl20 => ?_)
          clear hlB4
          obtain ⟨v28_21, e22, h23⟩ := nmI_s h19
          clear h19
          refine lv_iinc (v := v28_21) (lv' := [(3, .int v28_21), (2, .int v27_17), (0, .ref a0), (1, .int p1)]) hx hb dX4_marksOf_28 hl20 (k := 3) rfl (by rw [e22]; rfl) (by decide) rfl (fun ls hl24 => ?_)
          clear hl20 e22
          refine lv_goto (tgt := 4) hx hb dX4_marksOf_31 (by decide) ?_
          exact ih4 v27_17 v28_21 _ _ _ h23 hV12 (lv_sub hl24 [2, 3, 1, 0] rfl)
        · have h16 := ieS c14 h11
          clear h11 c14
          refine lv_iconst (v := 1) hx hb dX4_marksOf_21 (by decide) ?_
          refine lv_goto (tgt := 26) hx hb dX4_marksOf_22 (by decide) ?_
          refine lv_iadd hx hb dX4_marksOf_26 ?_
          obtain ⟨v27_25, e26, h27⟩ := nmI_s h16
          clear h16
          refine ktopi e26 ?_
          clear e26
          refine lv_istore_n (lv' := [(2, .int v27_25), (0, .ref a0), (1, .int p1), (3, .int x3_4)]) hx hb dX4_marksOf_27 rfl hlB4 (by decide) rfl (fun ls hl28 => ?_)
          clear hlB4
          obtain ⟨v28_29, e30, h31⟩ := nmI_s h27
          clear h27
          refine lv_iinc (v := v28_29) (lv' := [(3, .int v28_29), (2, .int v27_25), (0, .ref a0), (1, .int p1)]) hx hb dX4_marksOf_28 hl28 (k := 3) rfl (by rw [e30]; rfl) (by decide) rfl (fun ls hl32 => ?_)
          clear hl28 e30
          refine lv_goto (tgt := 4) hx hb dX4_marksOf_31 (by decide) ?_
          exact ih4 v27_25 v28_29 _ _ _ h31 hV12 (lv_sub hl32 [2, 3, 1, 0] rfl)
  exact L4 FU 0 0 _ _ _ h hV (lv_sub hl2 [2, 3, 1, 0] rfl)
noncomputable def f_X4_numberOf (s_heights : Nat → Int32) (s_marked : Nat → Int32) (p1 : Int32) (p2 : Int32) (p3 : Int32) : Option (Int32) :=
    if p3 = 0 then
    (some (p2))
    else
    (cb1 (f_X4_lastOf s_marked p1 p2) fun r9_4 =>
      if p3 = 1 then
      (some (r9_4))
      else
      (cb1 (f_X4_greatestOf s_heights p2 r9_4) fun r28_13 =>
        some (r28_13)))
abbrev r_X4_numberOf : Room := { frames := 4, cells := 0, slots := 0, locals := 87 }
set_option maxHeartbeats 4000000 in
set_option maxRecDepth 100000 in
theorem c_X4_numberOf (l : Launch) (E : kE) (sz : Nat) (a0 a1 a2 : Nat) (w0_1 w0_2 w0_4 w0_5 w0_6 : Value) (s_heights : Nat → Int32) (s_marked : Nat → Int32) (p1 : Int32) (p2 : Int32) (p3 : Int32) (r : Int32) (h : f_X4_numberOf s_heights s_marked p1 p2 p3 = some (r)) : kMi l yX4_numberOf cX4_numberOf 5 (some .int) r_X4_numberOf [.ref a0, .int p1, .int p2, .int p3] E [(a0, .inr (4, [.ref a1, w0_1, w0_2, .ref a2, w0_4, w0_5, w0_6])), (a1, .inl (E.2 0, 1440, .inl s_heights)), (a2, .inl (E.2 0, 1440, .inl s_marked))] sz 0 0 (fun x (_ : Unit) => x = r) (fun _ => [(a0, .inr (4, [.ref a1, w0_1, w0_2, .ref a2, w0_4, w0_5, w0_6])), (a1, .inl (E.2 0, 1440, .inl s_heights)), (a2, .inl (E.2 0, 1440, .inl s_marked))]) := by
  refine kmeti rfl (Nat.le_of_ble_eq_true rfl) ?_
  intro p e s m args below meth c ls A Q X hV hret hl
  have X : kC p s m c cX4_numberOf 5 RX4 args E A := X
  have hx := X.1
  have hb := X.2.1
  have hl : lv_has ls 5 [(0, .ref a0), (1, .int p1), (2, .int p2), (3, .int p3)] := hl
  rw [f_X4_numberOf] at h
  refine lv_iload_n hx hb dX4_numberOf_0 rfl (lv_at hl 3 rfl) ?_
  refine lv_if_ne (tgt := 6) hx hb dX4_numberOf_1 (by decide) (fun c1 => ?_) (fun c1 => ?_)
  · have h2 := ieS c1 h
    clear h c1
    refine lv_aload_n hx hb dX4_numberOf_6 rfl (lv_at hl 0 rfl) ?_
    refine lv_iload_n hx hb dX4_numberOf_7 rfl (lv_at hl 1 rfl) ?_
    refine lv_iload_n hx hb dX4_numberOf_8 rfl (lv_at hl 2 rfl) ?_
    obtain ⟨r9_4, hc5, h6⟩ := cb1_s h2
    clear h2
    refine kgoiE (krunV (rest := []) X hV [0, 2] (c_X4_lastOf l E _ a0 a2 (.ref a1) (w0_1) (w0_2) (w0_4) (w0_5) (w0_6) s_marked p1 p2 r9_4 hc5) mw_842 kb_X4_lastOf (ci := 4) rfl rfl (by decide) rfl rfl hl.1 rfl (Nat.le_of_ble_eq_true rfl) dX4_numberOf_9 (by decide)) X hV [0, 2] [1] rfl rfl rfl (by decide) (fun u H locs hV7 => ?_)
    have hV7 : kV E A s.heap H locs [(a0, .inr (4, [.ref a1, w0_1, w0_2, .ref a2, w0_4, w0_5, w0_6])), (a1, .inl (E.2 0, 1440, .inl s_heights)), (a2, .inl (E.2 0, 1440, .inl s_marked))] := hV7.sub [1, 0, 2] rfl rfl
    clear hV
    refine lv_istore (lv' := [(4, .int r9_4), (0, .ref a0), (1, .int p1), (2, .int p2), (3, .int p3)]) hx hb dX4_numberOf_12 hl (by decide) rfl (fun ls hl9 => ?_)
    clear hl
    refine lv_iload_n hx hb dX4_numberOf_14 rfl (lv_at hl9 4 rfl) ?_
    refine lv_iconst (v := 1) hx hb dX4_numberOf_15 (by decide) ?_
    refine lv_icmp_ne (tgt := 24) hx hb dX4_numberOf_16 (by decide) (fun c10 => ?_) (fun c10 => ?_)
    · have h11 := ieS c10 h6
      clear h6 c10
      refine lv_aload_n hx hb dX4_numberOf_24 rfl (lv_at hl9 1 rfl) ?_
      refine lv_iload_n hx hb dX4_numberOf_25 rfl (lv_at hl9 3 rfl) ?_
      refine lv_iload hx hb dX4_numberOf_26 (lv_at hl9 0 rfl) ?_
      obtain ⟨r28_13, hc14, h15⟩ := cb1_s h11
      clear h11
      refine kgoiE (krunV (rest := []) X hV7 [0, 1] (c_X4_greatestOf l E _ a0 a1 (w0_1) (w0_2) (.ref a2) (w0_4) (w0_5) (w0_6) s_heights p2 r9_4 r28_13 hc14) mw_816 kb_X4_greatestOf (ci := 4) rfl rfl (by decide) rfl rfl hl9.1 rfl (Nat.le_of_ble_eq_true rfl) dX4_numberOf_28 (by decide)) X hV7 [0, 1] [2] rfl rfl rfl (by decide) (fun u H locs hV16 => ?_)
      have hV16 : kV E A s.heap H locs [(a0, .inr (4, [.ref a1, w0_1, w0_2, .ref a2, w0_4, w0_5, w0_6])), (a1, .inl (E.2 0, 1440, .inl s_heights)), (a2, .inl (E.2 0, 1440, .inl s_marked))] := hV16.sub [1, 2, 0] rfl rfl
      clear hV7
      have q18 := tup1_s h15
      clear h15
      exact hret _ () _ _ _ _ q18 rfl hV16 dX4_numberOf_31
    · have h12 := itS c10 h6
      clear h6 c10
      refine lv_iload hx hb dX4_numberOf_19 (lv_at hl9 0 rfl) ?_
      refine lv_goto (tgt := 31) hx hb dX4_numberOf_21 (by decide) ?_
      have q19 := tup1_s h12
      clear h12
      exact hret _ () _ _ _ _ q19 rfl hV7 dX4_numberOf_31
  · have h3 := itS c1 h
    clear h c1
    refine lv_iload_n hx hb dX4_numberOf_4 rfl (lv_at hl 2 rfl) ?_
    have q20 := tup1_s h3
    clear h3
    exact hret _ () _ _ _ _ q20 rfl hV dX4_numberOf_5
noncomputable def f_X4_markNumber_J29 (s_heights : Nat → Int32) (s_marked : Nat → Int32) (p1 : Int32) (p2 : Int32)  (x4_6 : Int32) : Option (Int32) :=
    cb1 (f_X4_numberOf s_heights s_marked p1 x4_6 (jrem p2 3)) fun r36_7 =>
    some (r36_7)
noncomputable def f_X4_markNumber_L7 (s_marked : Nat → Int32) (p1 : Int32) (K29 : Int32 → Option (Int32)) : Nat → Int32 → Int32 → Option (Int32)
  | 0, _, _ => none
  | n7 + 1, x3_13, x4_14 =>
    if 1440 ≤ x4_14 then
    (some ((-1)))
    else
    (cb1 (f_X4_beginsMark s_marked p1 x4_14) fun r19_19 =>
      if r19_19 = 0 then
      (nmI (x4_14 + 1) fun v43_27 =>
        (f_X4_markNumber_L7 s_marked p1 K29 n7) x3_13 v43_27)
      else
      (if x3_13 = 0 then
        (K29 x4_14)
        else
        (nmI (x3_13 + (-1)) fun v40_34 =>
          nmI (x4_14 + 1) fun v43_38 =>
          (f_X4_markNumber_L7 s_marked p1 K29 n7) v40_34 v43_38)))
noncomputable def f_X4_markNumber (s_heights : Nat → Int32) (s_marked : Nat → Int32) (p1 : Int32) (p2 : Int32) : Option (Int32) :=
    nmI (p2 / 3) fun v3_1 =>
    (f_X4_markNumber_L7 s_marked p1 (f_X4_markNumber_J29 s_heights s_marked p1 p2 ) FU) v3_1 0
abbrev r_X4_markNumber : Room := { frames := 5, cells := 0, slots := 0, locals := 111 }
set_option maxHeartbeats 4000000 in
set_option maxRecDepth 100000 in
theorem c_X4_markNumber (l : Launch) (E : kE) (sz : Nat) (a0 a1 a2 : Nat) (w0_1 w0_2 w0_4 w0_5 w0_6 : Value) (s_heights : Nat → Int32) (s_marked : Nat → Int32) (p1 : Int32) (p2 : Int32) (r : Int32) (h : f_X4_markNumber s_heights s_marked p1 p2 = some (r)) : kMi l yX4_markNumber cX4_markNumber 5 (some .int) r_X4_markNumber [.ref a0, .int p1, .int p2] E [(a0, .inr (4, [.ref a1, w0_1, w0_2, .ref a2, w0_4, w0_5, w0_6])), (a1, .inl (E.2 0, 1440, .inl s_heights)), (a2, .inl (E.2 0, 1440, .inl s_marked))] sz 0 0 (fun x (_ : Unit) => x = r) (fun _ => [(a0, .inr (4, [.ref a1, w0_1, w0_2, .ref a2, w0_4, w0_5, w0_6])), (a1, .inl (E.2 0, 1440, .inl s_heights)), (a2, .inl (E.2 0, 1440, .inl s_marked))]) := by
  refine kmeti rfl (Nat.le_of_ble_eq_true rfl) ?_
  intro p e s m args below meth c ls A Q X hV hret hl
  have X : kC p s m c cX4_markNumber 5 RX4 args E A := X
  have hx := X.1
  have hb := X.2.1
  have hl : lv_has ls 5 [(0, .ref a0), (1, .int p1), (2, .int p2)] := hl
  rw [f_X4_markNumber] at h
  refine lv_iload_n hx hb dX4_markNumber_0 rfl (lv_at hl 2 rfl) ?_
  refine lv_iconst (v := 3) hx hb dX4_markNumber_1 (by decide) ?_
  refine lv_idiv hx hb dX4_markNumber_2 (by decide) ?_
  obtain ⟨v3_1, e2, h3⟩ := nmI_s h
  clear h
  refine ktopi e2 ?_
  clear e2
  refine lv_istore_n (lv' := [(3, .int v3_1), (0, .ref a0), (1, .int p1), (2, .int p2)]) hx hb dX4_markNumber_3 rfl hl (by decide) rfl (fun ls hl4 => ?_)
  clear hl
  refine lv_iconst (v := 0) hx hb dX4_markNumber_4 (by decide) ?_
  refine lv_istore (lv' := [(4, .int 0), (3, .int v3_1), (0, .ref a0), (1, .int p1), (2, .int p2)]) hx hb dX4_markNumber_5 hl4 (by decide) rfl (fun ls hl5 => ?_)
  clear hl4
  have J29 : ∀ (x4_6 : Int32) (H : Heap) (locs : List Loc) (ls : Array Slot), (f_X4_markNumber_J29 s_heights s_marked p1 p2 ) x4_6 = some (r) → kV E A s.heap H locs [(a0, .inr (4, [.ref a1, w0_1, w0_2, .ref a2, w0_4, w0_5, w0_6])), (a1, .inl (E.2 0, 1440, .inl s_heights)), (a2, .inl (E.2 0, 1440, .inl s_marked))] → lv_has ls 5 [(0, .ref a0), (1, .int p1), (2, .int p2), (4, .int x4_6)] → W p l e r_X4_markNumber s m args below meth c H locs 0 0 Q (F0 m 29 ls []) := by
    intro x4_6 H locs ls hB29 hVB29 hlB29
    rw [f_X4_markNumber_J29] at hB29
    refine lv_aload_n hx hb dX4_markNumber_29 rfl (lv_at hlB29 0 rfl) ?_
    refine lv_iload_n hx hb dX4_markNumber_30 rfl (lv_at hlB29 1 rfl) ?_
    refine lv_iload hx hb dX4_markNumber_31 (lv_at hlB29 3 rfl) ?_
    refine lv_iload_n hx hb dX4_markNumber_33 rfl (lv_at hlB29 2 rfl) ?_
    refine lv_iconst (v := 3) hx hb dX4_markNumber_34 (by decide) ?_
    refine lv_irem hx hb dX4_markNumber_35 (by decide) ?_
    obtain ⟨r36_7, hc8, h9⟩ := cb1_s hB29
    clear hB29
    refine kgoiE (krunV (rest := []) X hVB29 [0, 1, 2] (c_X4_numberOf l E _ a0 a1 a2 (w0_1) (w0_2) (w0_4) (w0_5) (w0_6) s_heights s_marked p1 x4_6 (jrem p2 3) r36_7 hc8) mw_838 kb_X4_numberOf (ci := 4) rfl rfl (by decide) rfl rfl hlB29.1 rfl (Nat.le_of_ble_eq_true rfl) dX4_markNumber_36 (by decide)) X hVB29 [0, 1, 2] [] rfl rfl rfl (by decide) (fun u H locs hV10 => ?_)
    have hV10 : kV E A s.heap H locs [(a0, .inr (4, [.ref a1, w0_1, w0_2, .ref a2, w0_4, w0_5, w0_6])), (a1, .inl (E.2 0, 1440, .inl s_heights)), (a2, .inl (E.2 0, 1440, .inl s_marked))] := hV10.sub [0, 1, 2] rfl rfl
    clear hVB29
    have q12 := tup1_s h9
    clear h9
    exact hret _ () _ _ _ _ q12 rfl hV10 dX4_markNumber_39
  have L7 : ∀ (n7 : Nat) (x3_13 : Int32) (x4_14 : Int32) (H : Heap) (locs : List Loc) (ls : Array Slot), (f_X4_markNumber_L7 s_marked p1 (f_X4_markNumber_J29 s_heights s_marked p1 p2 ) n7) x3_13 x4_14 = some (r) → kV E A s.heap H locs [(a0, .inr (4, [.ref a1, w0_1, w0_2, .ref a2, w0_4, w0_5, w0_6])), (a1, .inl (E.2 0, 1440, .inl s_heights)), (a2, .inl (E.2 0, 1440, .inl s_marked))] → lv_has ls 5 [(0, .ref a0), (1, .int p1), (2, .int p2), (3, .int x3_13), (4, .int x4_14)] → W p l e r_X4_markNumber s m args below meth c H locs 0 0 Q (F0 m 7 ls []) := by
    intro n7
    induction n7 with
    | zero =>
      intro x3_13 x4_14 H locs ls hB7 hVB7 hlB7
      rw [f_X4_markNumber_L7] at hB7
      exact nomatch hB7
    | succ n7 ih7 =>
      intro x3_13 x4_14 H locs ls hB7 hVB7 hlB7
      rw [f_X4_markNumber_L7] at hB7
      refine lv_iload hx hb dX4_markNumber_7 (lv_at hlB7 4 rfl) ?_
      refine lv_sipush (v := 1440) hx hb dX4_markNumber_9 (by decide) ?_
      refine lv_icmp_ge (tgt := 49) hx hb dX4_markNumber_12 (by decide) (fun c15 => ?_) (fun c15 => ?_)
      · have h16 := itS c15 hB7
        clear hB7 c15
        refine lv_iconst (v := (-1)) hx hb dX4_markNumber_49 (by decide) ?_
        have q18 := tup1_s h16
        clear h16
        exact hret _ () _ _ _ _ q18 rfl hVB7 dX4_markNumber_50
      · have h17 := ieS c15 hB7
        clear hB7 c15
        refine lv_aload_n hx hb dX4_markNumber_15 rfl (lv_at hlB7 0 rfl) ?_
        refine lv_iload_n hx hb dX4_markNumber_16 rfl (lv_at hlB7 1 rfl) ?_
        refine lv_iload hx hb dX4_markNumber_17 (lv_at hlB7 4 rfl) ?_
        obtain ⟨r19_19, hc20, h21⟩ := cb1_s h17
        clear h17
        refine kgoiE (krunV (rest := []) X hVB7 [0, 2] (c_X4_beginsMark l E _ a0 a2 (.ref a1) (w0_1) (w0_2) (w0_4) (w0_5) (w0_6) s_marked p1 x4_14 r19_19 hc20) mw_830 kb_X4_beginsMark (ci := 4) rfl rfl (by decide) rfl rfl hlB7.1 rfl (Nat.le_of_ble_eq_true rfl) dX4_markNumber_19 (by decide)) X hVB7 [0, 2] [1] rfl rfl rfl (by decide) (fun u H locs hV22 => ?_)
        have hV22 : kV E A s.heap H locs [(a0, .inr (4, [.ref a1, w0_1, w0_2, .ref a2, w0_4, w0_5, w0_6])), (a1, .inl (E.2 0, 1440, .inl s_heights)), (a2, .inl (E.2 0, 1440, .inl s_marked))] := hV22.sub [1, 0, 2] rfl rfl
        clear hVB7
        refine lv_if_eq (tgt := 43) hx hb dX4_markNumber_22 (by decide) (fun c24 => ?_) (fun c24 => ?_)
        · have h25 := itS c24 h21
          clear h21 c24
          obtain ⟨v43_27, e28, h29⟩ := nmI_s h25
          clear h25
          refine lv_iinc (v := v43_27) (lv' := [(4, .int v43_27), (0, .ref a0), (1, .int p1), (2, .int p2), (3, .int x3_13)]) hx hb dX4_markNumber_43 hlB7 (k := 4) rfl (by rw [e28]; rfl) (by decide) rfl (fun ls hl30 => ?_)
          clear hlB7 e28
          refine lv_goto (tgt := 7) hx hb dX4_markNumber_46 (by decide) ?_
          exact ih7 x3_13 v43_27 _ _ _ h29 hV22 (lv_sub hl30 [1, 2, 3, 4, 0] rfl)
        · have h26 := ieS c24 h21
          clear h21 c24
          refine lv_iload_n hx hb dX4_markNumber_25 rfl (lv_at hlB7 3 rfl) ?_
          refine lv_if_ne (tgt := 40) hx hb dX4_markNumber_26 (by decide) (fun c31 => ?_) (fun c31 => ?_)
          · have h32 := ieS c31 h26
            clear h26 c31
            obtain ⟨v40_34, e35, h36⟩ := nmI_s h32
            clear h32
            refine lv_iinc (v := v40_34) (lv' := [(3, .int v40_34), (0, .ref a0), (1, .int p1), (2, .int p2), (4, .int x4_14)]) hx hb dX4_markNumber_40 hlB7 (k := 3) rfl (by rw [e35]; rfl) (by decide) rfl (fun ls hl37 => ?_)
            clear hlB7 e35
            obtain ⟨v43_38, e39, h40⟩ := nmI_s h36
            clear h36
            refine lv_iinc (v := v43_38) (lv' := [(4, .int v43_38), (3, .int v40_34), (0, .ref a0), (1, .int p1), (2, .int p2)]) hx hb dX4_markNumber_43 hl37 (k := 4) rfl (by rw [e39]; rfl) (by decide) rfl (fun ls hl41 => ?_)
            clear hl37 e39
            refine lv_goto (tgt := 7) hx hb dX4_markNumber_46 (by decide) ?_
            exact ih7 v40_34 v43_38 _ _ _ h40 hV22 (lv_sub hl41 [2, 3, 4, 1, 0] rfl)
          · have h33 := itS c31 h26
            clear h26 c31
            exact J29 x4_14 _ _ _ h33 hV22 (lv_sub hlB7 [0, 1, 2, 4] rfl)
  exact L7 FU v3_1 0 _ _ _ h3 hV (lv_sub hl5 [2, 3, 4, 1, 0] rfl)
noncomputable def f_X4_beginsPassed_L14 (s_marked : Nat → Int32) (p1 : Int32) (p2 : Int32)  : Nat → Int32 → Option (Int32)
  | 0, _ => none
  | n14 + 1, x4_10 =>
    if 1440 ≤ x4_10 then
    (some (1))
    else
    (cb1 (f_X4_isMarked s_marked p2 x4_10) fun r26_15 =>
      if r26_15 = 0 then
      (some (1))
      else
      (cb1 (f_X4_isMarked s_marked p1 x4_10) fun r36_24 =>
        if r36_24 = 0 then
        (nmI (x4_10 + 1) fun v44_32 =>
          (f_X4_beginsPassed_L14 s_marked p1 p2  n14) v44_32)
        else
        (some (0))))
noncomputable def f_X4_beginsPassed (s_marked : Nat → Int32) (p1 : Int32) (p2 : Int32) (p3 : Int32) : Option (Int32) :=
    cb1 (f_X4_beginsMark s_marked p2 p3) fun r3_1 =>
    if r3_1 = 0 then
    (some (0))
    else
    ((f_X4_beginsPassed_L14 s_marked p1 p2  FU) p3)
abbrev r_X4_beginsPassed : Room := { frames := 4, cells := 0, slots := 0, locals := 86 }
set_option maxHeartbeats 4000000 in
set_option maxRecDepth 100000 in
theorem c_X4_beginsPassed (l : Launch) (E : kE) (sz : Nat) (a0 a1 : Nat) (w0_0 w0_1 w0_2 w0_4 w0_5 w0_6 : Value) (s_marked : Nat → Int32) (p1 : Int32) (p2 : Int32) (p3 : Int32) (r : Int32) (h : f_X4_beginsPassed s_marked p1 p2 p3 = some (r)) : kMi l yX4_beginsPassed cX4_beginsPassed 5 (some .boolean) r_X4_beginsPassed [.ref a0, .int p1, .int p2, .int p3] E [(a0, .inr (4, [w0_0, w0_1, w0_2, .ref a1, w0_4, w0_5, w0_6])), (a1, .inl (E.2 0, 1440, .inl s_marked))] sz 0 0 (fun x (_ : Unit) => x = r) (fun _ => [(a0, .inr (4, [w0_0, w0_1, w0_2, .ref a1, w0_4, w0_5, w0_6])), (a1, .inl (E.2 0, 1440, .inl s_marked))]) := by
  refine kmeti rfl (Nat.le_of_ble_eq_true rfl) ?_
  intro p e s m args below meth c ls A Q X hV hret hl
  have X : kC p s m c cX4_beginsPassed 5 RX4 args E A := X
  have hx := X.1
  have hb := X.2.1
  have hl : lv_has ls 5 [(0, .ref a0), (1, .int p1), (2, .int p2), (3, .int p3)] := hl
  rw [f_X4_beginsPassed] at h
  refine lv_aload_n hx hb dX4_beginsPassed_0 rfl (lv_at hl 0 rfl) ?_
  refine lv_iload_n hx hb dX4_beginsPassed_1 rfl (lv_at hl 2 rfl) ?_
  refine lv_iload_n hx hb dX4_beginsPassed_2 rfl (lv_at hl 3 rfl) ?_
  obtain ⟨r3_1, hc2, h3⟩ := cb1_s h
  clear h
  refine kgoiE (krunV (rest := []) X hV [0, 1] (c_X4_beginsMark l E _ a0 a1 (w0_0) (w0_1) (w0_2) (w0_4) (w0_5) (w0_6) s_marked p2 p3 r3_1 hc2) mw_830 kb_X4_beginsMark (ci := 4) rfl rfl (by decide) rfl rfl hl.1 rfl (Nat.le_of_ble_eq_true rfl) dX4_beginsPassed_3 (by decide)) X hV [0, 1] [] rfl rfl rfl (by decide) (fun u H locs hV4 => ?_)
  have hV4 : kV E A s.heap H locs [(a0, .inr (4, [w0_0, w0_1, w0_2, .ref a1, w0_4, w0_5, w0_6])), (a1, .inl (E.2 0, 1440, .inl s_marked))] := hV4.sub [0, 1] rfl rfl
  clear hV
  refine lv_if_ne (tgt := 11) hx hb dX4_beginsPassed_6 (by decide) (fun c6 => ?_) (fun c6 => ?_)
  · have h7 := ieS c6 h3
    clear h3 c6
    refine lv_iload_n hx hb dX4_beginsPassed_11 rfl (lv_at hl 3 rfl) ?_
    refine lv_istore (lv' := [(4, .int p3), (0, .ref a0), (1, .int p1), (2, .int p2), (3, .int p3)]) hx hb dX4_beginsPassed_12 hl (by decide) rfl (fun ls hl9 => ?_)
    clear hl
    have L14 : ∀ (n14 : Nat) (x4_10 : Int32) (H : Heap) (locs : List Loc) (ls : Array Slot), (f_X4_beginsPassed_L14 s_marked p1 p2  n14) x4_10 = some (r) → kV E A s.heap H locs [(a0, .inr (4, [w0_0, w0_1, w0_2, .ref a1, w0_4, w0_5, w0_6])), (a1, .inl (E.2 0, 1440, .inl s_marked))] → lv_has ls 5 [(0, .ref a0), (1, .int p1), (2, .int p2), (4, .int x4_10)] → W p l e r_X4_beginsPassed s m args below meth c H locs 0 0 Q (F0 m 14 ls []) := by
      intro n14
      induction n14 with
      | zero =>
        intro x4_10 H locs ls hB14 hVB14 hlB14
        rw [f_X4_beginsPassed_L14] at hB14
        exact nomatch hB14
      | succ n14 ih14 =>
        intro x4_10 H locs ls hB14 hVB14 hlB14
        rw [f_X4_beginsPassed_L14] at hB14
        refine lv_iload hx hb dX4_beginsPassed_14 (lv_at hlB14 3 rfl) ?_
        refine lv_sipush (v := 1440) hx hb dX4_beginsPassed_16 (by decide) ?_
        refine lv_icmp_ge (tgt := 50) hx hb dX4_beginsPassed_19 (by decide) (fun c11 => ?_) (fun c11 => ?_)
        · have h12 := itS c11 hB14
          clear hB14 c11
          refine lv_iconst (v := 1) hx hb dX4_beginsPassed_50 (by decide) ?_
          have q14 := tup1_s h12
          clear h12
          exact hret _ () _ _ _ _ q14 rfl hVB14 dX4_beginsPassed_51
        · have h13 := ieS c11 hB14
          clear hB14 c11
          refine lv_aload_n hx hb dX4_beginsPassed_22 rfl (lv_at hlB14 0 rfl) ?_
          refine lv_iload_n hx hb dX4_beginsPassed_23 rfl (lv_at hlB14 2 rfl) ?_
          refine lv_iload hx hb dX4_beginsPassed_24 (lv_at hlB14 3 rfl) ?_
          obtain ⟨r26_15, hc16, h17⟩ := cb1_s h13
          clear h13
          refine kgoiE (krunV (rest := []) X hVB14 [0, 1] (c_X4_isMarked l E _ a0 a1 (w0_0) (w0_1) (w0_2) (w0_4) (w0_5) (w0_6) s_marked p2 x4_10 r26_15 hc16) mw_821 kb_X4_isMarked (ci := 4) rfl rfl (by decide) rfl rfl hlB14.1 rfl (Nat.le_of_ble_eq_true rfl) dX4_beginsPassed_26 (by decide)) X hVB14 [0, 1] [] rfl rfl rfl (by decide) (fun u H locs hV18 => ?_)
          have hV18 : kV E A s.heap H locs [(a0, .inr (4, [w0_0, w0_1, w0_2, .ref a1, w0_4, w0_5, w0_6])), (a1, .inl (E.2 0, 1440, .inl s_marked))] := hV18.sub [0, 1] rfl rfl
          clear hVB14
          refine lv_if_eq (tgt := 50) hx hb dX4_beginsPassed_29 (by decide) (fun c20 => ?_) (fun c20 => ?_)
          · have h21 := itS c20 h17
            clear h17 c20
            refine lv_iconst (v := 1) hx hb dX4_beginsPassed_50 (by decide) ?_
            have q23 := tup1_s h21
            clear h21
            exact hret _ () _ _ _ _ q23 rfl hV18 dX4_beginsPassed_51
          · have h22 := ieS c20 h17
            clear h17 c20
            refine lv_aload_n hx hb dX4_beginsPassed_32 rfl (lv_at hlB14 0 rfl) ?_
            refine lv_iload_n hx hb dX4_beginsPassed_33 rfl (lv_at hlB14 1 rfl) ?_
            refine lv_iload hx hb dX4_beginsPassed_34 (lv_at hlB14 3 rfl) ?_
            obtain ⟨r36_24, hc25, h26⟩ := cb1_s h22
            clear h22
            refine kgoiE (krunV (rest := []) X hV18 [0, 1] (c_X4_isMarked l E _ a0 a1 (w0_0) (w0_1) (w0_2) (w0_4) (w0_5) (w0_6) s_marked p1 x4_10 r36_24 hc25) mw_821 kb_X4_isMarked (ci := 4) rfl rfl (by decide) rfl rfl hlB14.1 rfl (Nat.le_of_ble_eq_true rfl) dX4_beginsPassed_36 (by decide)) X hV18 [0, 1] [] rfl rfl rfl (by decide) (fun u H locs hV27 => ?_)
            have hV27 : kV E A s.heap H locs [(a0, .inr (4, [w0_0, w0_1, w0_2, .ref a1, w0_4, w0_5, w0_6])), (a1, .inl (E.2 0, 1440, .inl s_marked))] := hV27.sub [0, 1] rfl rfl
            clear hV18
            refine lv_if_eq (tgt := 44) hx hb dX4_beginsPassed_39 (by decide) (fun c29 => ?_) (fun c29 => ?_)
            · have h30 := itS c29 h26
              clear h26 c29
              obtain ⟨v44_32, e33, h34⟩ := nmI_s h30
              clear h30
              refine lv_iinc (v := v44_32) (lv' := [(4, .int v44_32), (0, .ref a0), (1, .int p1), (2, .int p2)]) hx hb dX4_beginsPassed_44 hlB14 (k := 3) rfl (by rw [e33]; rfl) (by decide) rfl (fun ls hl35 => ?_)
              clear hlB14 e33
              refine lv_goto (tgt := 14) hx hb dX4_beginsPassed_47 (by decide) ?_
              exact ih14 v44_32 _ _ _ h34 hV27 (lv_sub hl35 [1, 2, 3, 0] rfl)
            · have h31 := ieS c29 h26
              clear h26 c29
              refine lv_iconst (v := 0) hx hb dX4_beginsPassed_42 (by decide) ?_
              have q36 := tup1_s h31
              clear h31
              exact hret _ () _ _ _ _ q36 rfl hV27 dX4_beginsPassed_43
    exact L14 FU p3 _ _ _ h7 hV4 (lv_sub hl9 [1, 2, 3, 0] rfl)
  · have h8 := itS c6 h3
    clear h3 c6
    refine lv_iconst (v := 0) hx hb dX4_beginsPassed_9 (by decide) ?_
    have q37 := tup1_s h8
    clear h8
    exact hret _ () _ _ _ _ q37 rfl hV4 dX4_beginsPassed_10
noncomputable def f_X4_passedMarks_L5 (s_marked : Nat → Int32) (p1 : Int32) (p2 : Int32)  : Nat → Int32 → Int32 → Option (Int32)
  | 0, _, _ => none
  | n5 + 1, x3_3, x4_4 =>
    if 1440 ≤ x4_4 then
    (some (x3_3))
    else
    (cb1 (f_X4_beginsPassed s_marked p1 p2 x4_4) fun r19_9 =>
      if r19_9 = 0 then
      (nmI (x3_3 + 0) fun v31_17 =>
        nmI (x4_4 + 1) fun v32_21 =>
        (f_X4_passedMarks_L5 s_marked p1 p2  n5) v31_17 v32_21)
      else
      (nmI (x3_3 + 1) fun v31_25 =>
        nmI (x4_4 + 1) fun v32_29 =>
        (f_X4_passedMarks_L5 s_marked p1 p2  n5) v31_25 v32_29))
noncomputable def f_X4_passedMarks (s_marked : Nat → Int32) (p1 : Int32) (p2 : Int32) : Option (Int32) :=
    (f_X4_passedMarks_L5 s_marked p1 p2  FU) 0 0
abbrev r_X4_passedMarks : Room := { frames := 5, cells := 0, slots := 0, locals := 110 }
set_option maxHeartbeats 4000000 in
set_option maxRecDepth 100000 in
theorem c_X4_passedMarks (l : Launch) (E : kE) (sz : Nat) (a0 a1 : Nat) (w0_0 w0_1 w0_2 w0_4 w0_5 w0_6 : Value) (s_marked : Nat → Int32) (p1 : Int32) (p2 : Int32) (r : Int32) (h : f_X4_passedMarks s_marked p1 p2 = some (r)) : kMi l yX4_passedMarks cX4_passedMarks 5 (some .int) r_X4_passedMarks [.ref a0, .int p1, .int p2] E [(a0, .inr (4, [w0_0, w0_1, w0_2, .ref a1, w0_4, w0_5, w0_6])), (a1, .inl (E.2 0, 1440, .inl s_marked))] sz 0 0 (fun x (_ : Unit) => x = r) (fun _ => [(a0, .inr (4, [w0_0, w0_1, w0_2, .ref a1, w0_4, w0_5, w0_6])), (a1, .inl (E.2 0, 1440, .inl s_marked))]) := by
  refine kmeti rfl (Nat.le_of_ble_eq_true rfl) ?_
  intro p e s m args below meth c ls A Q X hV hret hl
  have X : kC p s m c cX4_passedMarks 5 RX4 args E A := X
  have hx := X.1
  have hb := X.2.1
  have hl : lv_has ls 5 [(0, .ref a0), (1, .int p1), (2, .int p2)] := hl
  rw [f_X4_passedMarks] at h
  refine lv_iconst (v := 0) hx hb dX4_passedMarks_0 (by decide) ?_
  refine lv_istore_n (lv' := [(3, .int 0), (0, .ref a0), (1, .int p1), (2, .int p2)]) hx hb dX4_passedMarks_1 rfl hl (by decide) rfl (fun ls hl1 => ?_)
  clear hl
  refine lv_iconst (v := 0) hx hb dX4_passedMarks_2 (by decide) ?_
  refine lv_istore (lv' := [(4, .int 0), (3, .int 0), (0, .ref a0), (1, .int p1), (2, .int p2)]) hx hb dX4_passedMarks_3 hl1 (by decide) rfl (fun ls hl2 => ?_)
  clear hl1
  have L5 : ∀ (n5 : Nat) (x3_3 : Int32) (x4_4 : Int32) (H : Heap) (locs : List Loc) (ls : Array Slot), (f_X4_passedMarks_L5 s_marked p1 p2  n5) x3_3 x4_4 = some (r) → kV E A s.heap H locs [(a0, .inr (4, [w0_0, w0_1, w0_2, .ref a1, w0_4, w0_5, w0_6])), (a1, .inl (E.2 0, 1440, .inl s_marked))] → lv_has ls 5 [(0, .ref a0), (1, .int p1), (2, .int p2), (3, .int x3_3), (4, .int x4_4)] → W p l e r_X4_passedMarks s m args below meth c H locs 0 0 Q (F0 m 5 ls []) := by
    intro n5
    induction n5 with
    | zero =>
      intro x3_3 x4_4 H locs ls hB5 hVB5 hlB5
      rw [f_X4_passedMarks_L5] at hB5
      exact nomatch hB5
    | succ n5 ih5 =>
      intro x3_3 x4_4 H locs ls hB5 hVB5 hlB5
      rw [f_X4_passedMarks_L5] at hB5
      refine lv_iload hx hb dX4_passedMarks_5 (lv_at hlB5 4 rfl) ?_
      refine lv_sipush (v := 1440) hx hb dX4_passedMarks_7 (by decide) ?_
      refine lv_icmp_ge (tgt := 38) hx hb dX4_passedMarks_10 (by decide) (fun c5 => ?_) (fun c5 => ?_)
      · have h6 := itS c5 hB5
        clear hB5 c5
        refine lv_iload_n hx hb dX4_passedMarks_38 rfl (lv_at hlB5 3 rfl) ?_
        have q8 := tup1_s h6
        clear h6
        exact hret _ () _ _ _ _ q8 rfl hVB5 dX4_passedMarks_39
      · have h7 := ieS c5 hB5
        clear hB5 c5
        refine lv_iload_n hx hb dX4_passedMarks_13 rfl (lv_at hlB5 3 rfl) ?_
        refine lv_aload_n hx hb dX4_passedMarks_14 rfl (lv_at hlB5 0 rfl) ?_
        refine lv_iload_n hx hb dX4_passedMarks_15 rfl (lv_at hlB5 1 rfl) ?_
        refine lv_iload_n hx hb dX4_passedMarks_16 rfl (lv_at hlB5 2 rfl) ?_
        refine lv_iload hx hb dX4_passedMarks_17 (lv_at hlB5 4 rfl) ?_
        obtain ⟨r19_9, hc10, h11⟩ := cb1_s h7
        clear h7
        refine kgoiE (krunV (rest := [.int x3_3]) X hVB5 [0, 1] (c_X4_beginsPassed l E _ a0 a1 (w0_0) (w0_1) (w0_2) (w0_4) (w0_5) (w0_6) s_marked p1 p2 x4_4 r19_9 hc10) mw_870 kb_X4_beginsPassed (ci := 4) rfl rfl (by decide) rfl rfl hlB5.1 rfl (Nat.le_of_ble_eq_true rfl) dX4_passedMarks_19 (by decide)) X hVB5 [0, 1] [] rfl rfl rfl (by decide) (fun u H locs hV12 => ?_)
        have hV12 : kV E A s.heap H locs [(a0, .inr (4, [w0_0, w0_1, w0_2, .ref a1, w0_4, w0_5, w0_6])), (a1, .inl (E.2 0, 1440, .inl s_marked))] := hV12.sub [0, 1] rfl rfl
        clear hVB5
        refine lv_if_eq (tgt := 29) hx hb dX4_passedMarks_22 (by decide) (fun c14 => ?_) (fun c14 => ?_)
        · have h15 := itS c14 h11
          clear h11 c14
          refine lv_iconst (v := 0) hx hb dX4_passedMarks_29 (by decide) ?_
          refine lv_iadd hx hb dX4_passedMarks_30 ?_
          obtain ⟨v31_17, e18, h19⟩ := nmI_s h15
          clear h15
          refine ktopi e18 ?_
          clear e18
          refine lv_istore_n (lv' := [(3, .int v31_17), (0, .ref a0), (1, .int p1), (2, .int p2), (4, .int x4_4)]) hx hb dX4_passedMarks_31 rfl hlB5 (by decide) rfl (fun ls hl20 => ?_)
          clear hlB5
          obtain ⟨v32_21, e22, h23⟩ := nmI_s h19
          clear h19
          refine lv_iinc (v := v32_21) (lv' := [(4, .int v32_21), (3, .int v31_17), (0, .ref a0), (1, .int p1), (2, .int p2)]) hx hb dX4_passedMarks_32 hl20 (k := 4) rfl (by rw [e22]; rfl) (by decide) rfl (fun ls hl24 => ?_)
          clear hl20 e22
          refine lv_goto (tgt := 5) hx hb dX4_passedMarks_35 (by decide) ?_
          exact ih5 v31_17 v32_21 _ _ _ h23 hV12 (lv_sub hl24 [2, 3, 4, 1, 0] rfl)
        · have h16 := ieS c14 h11
          clear h11 c14
          refine lv_iconst (v := 1) hx hb dX4_passedMarks_25 (by decide) ?_
          refine lv_goto (tgt := 30) hx hb dX4_passedMarks_26 (by decide) ?_
          refine lv_iadd hx hb dX4_passedMarks_30 ?_
          obtain ⟨v31_25, e26, h27⟩ := nmI_s h16
          clear h16
          refine ktopi e26 ?_
          clear e26
          refine lv_istore_n (lv' := [(3, .int v31_25), (0, .ref a0), (1, .int p1), (2, .int p2), (4, .int x4_4)]) hx hb dX4_passedMarks_31 rfl hlB5 (by decide) rfl (fun ls hl28 => ?_)
          clear hlB5
          obtain ⟨v32_29, e30, h31⟩ := nmI_s h27
          clear h27
          refine lv_iinc (v := v32_29) (lv' := [(4, .int v32_29), (3, .int v31_25), (0, .ref a0), (1, .int p1), (2, .int p2)]) hx hb dX4_passedMarks_32 hl28 (k := 4) rfl (by rw [e30]; rfl) (by decide) rfl (fun ls hl32 => ?_)
          clear hl28 e30
          refine lv_goto (tgt := 5) hx hb dX4_passedMarks_35 (by decide) ?_
          exact ih5 v31_25 v32_29 _ _ _ h31 hV12 (lv_sub hl32 [2, 3, 4, 1, 0] rfl)
  exact L5 FU 0 0 _ _ _ h hV (lv_sub hl2 [2, 3, 4, 1, 0] rfl)
noncomputable def f_X4_firstPassed_L2 (s_marked : Nat → Int32) (p1 : Int32) (p2 : Int32)  : Nat → Int32 → Option (Int32)
  | 0, _ => none
  | n2 + 1, x3_2 =>
    if 1440 ≤ x3_2 then
    (some ((-1)))
    else
    (cb1 (f_X4_beginsPassed s_marked p1 p2 x3_2) fun r13_7 =>
      if r13_7 = 0 then
      (nmI (x3_2 + 1) fun v21_15 =>
        (f_X4_firstPassed_L2 s_marked p1 p2  n2) v21_15)
      else
      (some (x3_2)))
noncomputable def f_X4_firstPassed (s_marked : Nat → Int32) (p1 : Int32) (p2 : Int32) : Option (Int32) :=
    (f_X4_firstPassed_L2 s_marked p1 p2  FU) 0
abbrev r_X4_firstPassed : Room := { frames := 5, cells := 0, slots := 0, locals := 110 }
set_option maxHeartbeats 4000000 in
set_option maxRecDepth 100000 in
theorem c_X4_firstPassed (l : Launch) (E : kE) (sz : Nat) (a0 a1 : Nat) (w0_0 w0_1 w0_2 w0_4 w0_5 w0_6 : Value) (s_marked : Nat → Int32) (p1 : Int32) (p2 : Int32) (r : Int32) (h : f_X4_firstPassed s_marked p1 p2 = some (r)) : kMi l yX4_firstPassed cX4_firstPassed 4 (some .int) r_X4_firstPassed [.ref a0, .int p1, .int p2] E [(a0, .inr (4, [w0_0, w0_1, w0_2, .ref a1, w0_4, w0_5, w0_6])), (a1, .inl (E.2 0, 1440, .inl s_marked))] sz 0 0 (fun x (_ : Unit) => x = r) (fun _ => [(a0, .inr (4, [w0_0, w0_1, w0_2, .ref a1, w0_4, w0_5, w0_6])), (a1, .inl (E.2 0, 1440, .inl s_marked))]) := by
  refine kmeti rfl (Nat.le_of_ble_eq_true rfl) ?_
  intro p e s m args below meth c ls A Q X hV hret hl
  have X : kC p s m c cX4_firstPassed 4 RX4 args E A := X
  have hx := X.1
  have hb := X.2.1
  have hl : lv_has ls 4 [(0, .ref a0), (1, .int p1), (2, .int p2)] := hl
  rw [f_X4_firstPassed] at h
  refine lv_iconst (v := 0) hx hb dX4_firstPassed_0 (by decide) ?_
  refine lv_istore_n (lv' := [(3, .int 0), (0, .ref a0), (1, .int p1), (2, .int p2)]) hx hb dX4_firstPassed_1 rfl hl (by decide) rfl (fun ls hl1 => ?_)
  clear hl
  have L2 : ∀ (n2 : Nat) (x3_2 : Int32) (H : Heap) (locs : List Loc) (ls : Array Slot), (f_X4_firstPassed_L2 s_marked p1 p2  n2) x3_2 = some (r) → kV E A s.heap H locs [(a0, .inr (4, [w0_0, w0_1, w0_2, .ref a1, w0_4, w0_5, w0_6])), (a1, .inl (E.2 0, 1440, .inl s_marked))] → lv_has ls 4 [(0, .ref a0), (1, .int p1), (2, .int p2), (3, .int x3_2)] → W p l e r_X4_firstPassed s m args below meth c H locs 0 0 Q (F0 m 2 ls []) := by
    intro n2
    induction n2 with
    | zero =>
      intro x3_2 H locs ls hB2 hVB2 hlB2
      rw [f_X4_firstPassed_L2] at hB2
      exact nomatch hB2
    | succ n2 ih2 =>
      intro x3_2 H locs ls hB2 hVB2 hlB2
      rw [f_X4_firstPassed_L2] at hB2
      refine lv_iload_n hx hb dX4_firstPassed_2 rfl (lv_at hlB2 3 rfl) ?_
      refine lv_sipush (v := 1440) hx hb dX4_firstPassed_3 (by decide) ?_
      refine lv_icmp_ge (tgt := 27) hx hb dX4_firstPassed_6 (by decide) (fun c3 => ?_) (fun c3 => ?_)
      · have h4 := itS c3 hB2
        clear hB2 c3
        refine lv_iconst (v := (-1)) hx hb dX4_firstPassed_27 (by decide) ?_
        have q6 := tup1_s h4
        clear h4
        exact hret _ () _ _ _ _ q6 rfl hVB2 dX4_firstPassed_28
      · have h5 := ieS c3 hB2
        clear hB2 c3
        refine lv_aload_n hx hb dX4_firstPassed_9 rfl (lv_at hlB2 0 rfl) ?_
        refine lv_iload_n hx hb dX4_firstPassed_10 rfl (lv_at hlB2 1 rfl) ?_
        refine lv_iload_n hx hb dX4_firstPassed_11 rfl (lv_at hlB2 2 rfl) ?_
        refine lv_iload_n hx hb dX4_firstPassed_12 rfl (lv_at hlB2 3 rfl) ?_
        obtain ⟨r13_7, hc8, h9⟩ := cb1_s h5
        clear h5
        refine kgoiE (krunV (rest := []) X hVB2 [0, 1] (c_X4_beginsPassed l E _ a0 a1 (w0_0) (w0_1) (w0_2) (w0_4) (w0_5) (w0_6) s_marked p1 p2 x3_2 r13_7 hc8) mw_870 kb_X4_beginsPassed (ci := 4) rfl rfl (by decide) rfl rfl hlB2.1 rfl (Nat.le_of_ble_eq_true rfl) dX4_firstPassed_13 (by decide)) X hVB2 [0, 1] [] rfl rfl rfl (by decide) (fun u H locs hV10 => ?_)
        have hV10 : kV E A s.heap H locs [(a0, .inr (4, [w0_0, w0_1, w0_2, .ref a1, w0_4, w0_5, w0_6])), (a1, .inl (E.2 0, 1440, .inl s_marked))] := hV10.sub [0, 1] rfl rfl
        clear hVB2
        refine lv_if_eq (tgt := 21) hx hb dX4_firstPassed_16 (by decide) (fun c12 => ?_) (fun c12 => ?_)
        · have h13 := itS c12 h9
          clear h9 c12
          obtain ⟨v21_15, e16, h17⟩ := nmI_s h13
          clear h13
          refine lv_iinc (v := v21_15) (lv' := [(3, .int v21_15), (0, .ref a0), (1, .int p1), (2, .int p2)]) hx hb dX4_firstPassed_21 hlB2 (k := 3) rfl (by rw [e16]; rfl) (by decide) rfl (fun ls hl18 => ?_)
          clear hlB2 e16
          refine lv_goto (tgt := 2) hx hb dX4_firstPassed_24 (by decide) ?_
          exact ih2 v21_15 _ _ _ h17 hV10 (lv_sub hl18 [1, 2, 3, 0] rfl)
        · have h14 := ieS c12 h9
          clear h9 c12
          refine lv_iload_n hx hb dX4_firstPassed_19 rfl (lv_at hlB2 3 rfl) ?_
          have q19 := tup1_s h14
          clear h14
          exact hret _ () _ _ _ _ q19 rfl hV10 dX4_firstPassed_20
  exact L2 FU 0 _ _ _ h hV (lv_sub hl1 [1, 2, 3, 0] rfl)
noncomputable def f_X4_firstWrong_J80 (p3 : Int32)  (x4_3 : Int32) : Option (Int32) :=
    if (3 * p3) ≤ x4_3 then
    (some ((-1)))
    else
    (some (x4_3))
noncomputable def f_X4_firstWrong_L38 (s_p2_length : Int32) (s_p2_bytes : Nat → Int32) (s_heights : Nat → Int32) (s_marked : Nat → Int32) (p1 : Int32) (x5_10 : Int32) (K6 : Int32 → Int32 → Option (Int32)) : Nat → Int32 → Int32 → Option (Int32)
  | 0, _, _ => none
  | n38 + 1, x4_30, x6_31 =>
    if 3 ≤ x6_31 then
    (nmI (x5_10 + 1) fun v74_35 =>
      K6 x4_30 v74_35)
    else
    (cb1 (f_X9_wordAt s_p2_length s_p2_bytes x4_30) fun r47_39 =>
      cb1 (f_X4_numberOf s_heights s_marked p1 x5_10 x6_31) fun r56_44 =>
      if r47_39 = r56_44 then
      (nmI (x4_30 + 1) fun v65_52 =>
        nmI (x6_31 + 1) fun v68_56 =>
        (f_X4_firstWrong_L38 s_p2_length s_p2_bytes s_heights s_marked p1 x5_10 K6 n38) v65_52 v68_56)
      else
      (some (x4_30)))
noncomputable def f_X4_firstWrong_L6 (s_p2_length : Int32) (s_p2_bytes : Nat → Int32) (s_heights : Nat → Int32) (s_marked : Nat → Int32) (p1 : Int32) (p3 : Int32) (K80 : Int32 → Option (Int32)) : Nat → Int32 → Int32 → Option (Int32)
  | 0, _, _ => none
  | n6 + 1, x4_9, x5_10 =>
    if 1440 ≤ x5_10 then
    (K80 x4_9)
    else
    (cb1 (f_X4_beginsMark s_marked p1 x5_10) fun r18_14 =>
      if r18_14 = 0 then
      (nmI (x5_10 + 1) fun v74_22 =>
        (f_X4_firstWrong_L6 s_p2_length s_p2_bytes s_heights s_marked p1 p3 K80 n6) x4_9 v74_22)
      else
      (if x4_9 < (3 * p3) then
        ((f_X4_firstWrong_L38 s_p2_length s_p2_bytes s_heights s_marked p1 x5_10 (f_X4_firstWrong_L6 s_p2_length s_p2_bytes s_heights s_marked p1 p3 K80 n6) FU) x4_9 0)
        else
        (some (x4_9))))
noncomputable def f_X4_firstWrong (s_p2_length : Int32) (s_p2_bytes : Nat → Int32) (s_heights : Nat → Int32) (s_marked : Nat → Int32) (p1 : Int32) (p3 : Int32) : Option (Int32) :=
    (f_X4_firstWrong_L6 s_p2_length s_p2_bytes s_heights s_marked p1 p3 (f_X4_firstWrong_J80 p3 ) FU) 0 0
abbrev r_X4_firstWrong : Room := { frames := 5, cells := 0, slots := 0, locals := 111 }
set_option maxHeartbeats 4000000 in
set_option maxRecDepth 100000 in
theorem c_X4_firstWrong (l : Launch) (E : kE) (sz : Nat) (a0 a1 a2 a3 a4 : Nat) (w0_1 w0_2 w0_4 w0_5 w0_6 : Value) (s_p2_length : Int32) (s_p2_bytes : Nat → Int32) (s_heights : Nat → Int32) (s_marked : Nat → Int32) (p1 : Int32) (p3 : Int32) (r : Int32) (h : f_X4_firstWrong s_p2_length s_p2_bytes s_heights s_marked p1 p3 = some (r)) : kMi l yX4_firstWrong cX4_firstWrong 7 (some .int) r_X4_firstWrong [.ref a0, .int p1, .ref a1, .int p3] E [(a0, .inr (4, [.ref a3, w0_1, w0_2, .ref a4, w0_4, w0_5, w0_6])), (a1, .inr (9, [.ref a2, .int s_p2_length])), (a2, .inl (E.2 0, 200, .inl s_p2_bytes)), (a3, .inl (E.2 0, 1440, .inl s_heights)), (a4, .inl (E.2 0, 1440, .inl s_marked))] sz 0 0 (fun x (_ : Unit) => x = r) (fun _ => [(a0, .inr (4, [.ref a3, w0_1, w0_2, .ref a4, w0_4, w0_5, w0_6])), (a1, .inr (9, [.ref a2, .int s_p2_length])), (a2, .inl (E.2 0, 200, .inl s_p2_bytes)), (a3, .inl (E.2 0, 1440, .inl s_heights)), (a4, .inl (E.2 0, 1440, .inl s_marked))]) := by
  refine kmeti rfl (Nat.le_of_ble_eq_true rfl) ?_
  intro p e s m args below meth c ls A Q X hV hret hl
  have X : kC p s m c cX4_firstWrong 7 RX4 args E A := X
  have hx := X.1
  have hb := X.2.1
  have hl : lv_has ls 7 [(0, .ref a0), (1, .int p1), (2, .ref a1), (3, .int p3)] := hl
  rw [f_X4_firstWrong] at h
  refine lv_iconst (v := 0) hx hb dX4_firstWrong_0 (by decide) ?_
  refine lv_istore (lv' := [(4, .int 0), (0, .ref a0), (1, .int p1), (2, .ref a1), (3, .int p3)]) hx hb dX4_firstWrong_1 hl (by decide) rfl (fun ls hl1 => ?_)
  clear hl
  refine lv_iconst (v := 0) hx hb dX4_firstWrong_3 (by decide) ?_
  refine lv_istore (lv' := [(5, .int 0), (4, .int 0), (0, .ref a0), (1, .int p1), (2, .ref a1), (3, .int p3)]) hx hb dX4_firstWrong_4 hl1 (by decide) rfl (fun ls hl2 => ?_)
  clear hl1
  have J80 : ∀ (x4_3 : Int32) (H : Heap) (locs : List Loc) (ls : Array Slot), (f_X4_firstWrong_J80 p3 ) x4_3 = some (r) → kV E A s.heap H locs [(a0, .inr (4, [.ref a3, w0_1, w0_2, .ref a4, w0_4, w0_5, w0_6])), (a1, .inr (9, [.ref a2, .int s_p2_length])), (a2, .inl (E.2 0, 200, .inl s_p2_bytes)), (a3, .inl (E.2 0, 1440, .inl s_heights)), (a4, .inl (E.2 0, 1440, .inl s_marked))] → lv_has ls 7 [(3, .int p3), (4, .int x4_3)] → W p l e r_X4_firstWrong s m args below meth c H locs 0 0 Q (F0 m 80 ls []) := by
    intro x4_3 H locs ls hB80 hVB80 hlB80
    rw [f_X4_firstWrong_J80] at hB80
    refine lv_iload hx hb dX4_firstWrong_80 (lv_at hlB80 1 rfl) ?_
    refine lv_iconst (v := 3) hx hb dX4_firstWrong_82 (by decide) ?_
    refine lv_iload_n hx hb dX4_firstWrong_83 rfl (lv_at hlB80 0 rfl) ?_
    refine lv_imul hx hb dX4_firstWrong_84 ?_
    refine lv_icmp_ge (tgt := 93) hx hb dX4_firstWrong_85 (by decide) (fun c4 => ?_) (fun c4 => ?_)
    · have h5 := itS c4 hB80
      clear hB80 c4
      refine lv_iconst (v := (-1)) hx hb dX4_firstWrong_93 (by decide) ?_
      have q7 := tup1_s h5
      clear h5
      exact hret _ () _ _ _ _ q7 rfl hVB80 dX4_firstWrong_94
    · have h6 := ieS c4 hB80
      clear hB80 c4
      refine lv_iload hx hb dX4_firstWrong_88 (lv_at hlB80 1 rfl) ?_
      refine lv_goto (tgt := 94) hx hb dX4_firstWrong_90 (by decide) ?_
      have q8 := tup1_s h6
      clear h6
      exact hret _ () _ _ _ _ q8 rfl hVB80 dX4_firstWrong_94
  have L6 : ∀ (n6 : Nat) (x4_9 : Int32) (x5_10 : Int32) (H : Heap) (locs : List Loc) (ls : Array Slot), (f_X4_firstWrong_L6 s_p2_length s_p2_bytes s_heights s_marked p1 p3 (f_X4_firstWrong_J80 p3 ) n6) x4_9 x5_10 = some (r) → kV E A s.heap H locs [(a0, .inr (4, [.ref a3, w0_1, w0_2, .ref a4, w0_4, w0_5, w0_6])), (a1, .inr (9, [.ref a2, .int s_p2_length])), (a2, .inl (E.2 0, 200, .inl s_p2_bytes)), (a3, .inl (E.2 0, 1440, .inl s_heights)), (a4, .inl (E.2 0, 1440, .inl s_marked))] → lv_has ls 7 [(0, .ref a0), (1, .int p1), (2, .ref a1), (3, .int p3), (4, .int x4_9), (5, .int x5_10)] → W p l e r_X4_firstWrong s m args below meth c H locs 0 0 Q (F0 m 6 ls []) := by
    intro n6
    induction n6 with
    | zero =>
      intro x4_9 x5_10 H locs ls hB6 hVB6 hlB6
      rw [f_X4_firstWrong_L6] at hB6
      exact nomatch hB6
    | succ n6 ih6 =>
      intro x4_9 x5_10 H locs ls hB6 hVB6 hlB6
      rw [f_X4_firstWrong_L6] at hB6
      refine lv_iload hx hb dX4_firstWrong_6 (lv_at hlB6 5 rfl) ?_
      refine lv_sipush (v := 1440) hx hb dX4_firstWrong_8 (by decide) ?_
      refine lv_icmp_ge (tgt := 80) hx hb dX4_firstWrong_11 (by decide) (fun c11 => ?_) (fun c11 => ?_)
      · have h12 := itS c11 hB6
        clear hB6 c11
        exact J80 x4_9 _ _ _ h12 hVB6 (lv_sub hlB6 [3, 4] rfl)
      · have h13 := ieS c11 hB6
        clear hB6 c11
        refine lv_aload_n hx hb dX4_firstWrong_14 rfl (lv_at hlB6 0 rfl) ?_
        refine lv_iload_n hx hb dX4_firstWrong_15 rfl (lv_at hlB6 1 rfl) ?_
        refine lv_iload hx hb dX4_firstWrong_16 (lv_at hlB6 5 rfl) ?_
        obtain ⟨r18_14, hc15, h16⟩ := cb1_s h13
        clear h13
        refine kgoiE (krunV (rest := []) X hVB6 [0, 4] (c_X4_beginsMark l E _ a0 a4 (.ref a3) (w0_1) (w0_2) (w0_4) (w0_5) (w0_6) s_marked p1 x5_10 r18_14 hc15) mw_830 kb_X4_beginsMark (ci := 4) rfl rfl (by decide) rfl rfl hlB6.1 rfl (Nat.le_of_ble_eq_true rfl) dX4_firstWrong_18 (by decide)) X hVB6 [0, 4] [1, 2, 3] rfl rfl rfl (by decide) (fun u H locs hV17 => ?_)
        have hV17 : kV E A s.heap H locs [(a0, .inr (4, [.ref a3, w0_1, w0_2, .ref a4, w0_4, w0_5, w0_6])), (a1, .inr (9, [.ref a2, .int s_p2_length])), (a2, .inl (E.2 0, 200, .inl s_p2_bytes)), (a3, .inl (E.2 0, 1440, .inl s_heights)), (a4, .inl (E.2 0, 1440, .inl s_marked))] := hV17.sub [3, 0, 1, 2, 4] rfl rfl
        clear hVB6
        refine lv_if_eq (tgt := 74) hx hb dX4_firstWrong_21 (by decide) (fun c19 => ?_) (fun c19 => ?_)
        · have h20 := itS c19 h16
          clear h16 c19
          obtain ⟨v74_22, e23, h24⟩ := nmI_s h20
          clear h20
          refine lv_iinc (v := v74_22) (lv' := [(5, .int v74_22), (0, .ref a0), (1, .int p1), (2, .ref a1), (3, .int p3), (4, .int x4_9)]) hx hb dX4_firstWrong_74 hlB6 (k := 5) rfl (by rw [e23]; rfl) (by decide) rfl (fun ls hl25 => ?_)
          clear hlB6 e23
          refine lv_goto (tgt := 6) hx hb dX4_firstWrong_77 (by decide) ?_
          exact ih6 x4_9 v74_22 _ _ _ h24 hV17 (lv_sub hl25 [1, 2, 3, 4, 5, 0] rfl)
        · have h21 := ieS c19 h16
          clear h16 c19
          refine lv_iload hx hb dX4_firstWrong_24 (lv_at hlB6 4 rfl) ?_
          refine lv_iconst (v := 3) hx hb dX4_firstWrong_26 (by decide) ?_
          refine lv_iload_n hx hb dX4_firstWrong_27 rfl (lv_at hlB6 3 rfl) ?_
          refine lv_imul hx hb dX4_firstWrong_28 ?_
          refine lv_icmp_lt (tgt := 35) hx hb dX4_firstWrong_29 (by decide) (fun c26 => ?_) (fun c26 => ?_)
          · have h27 := itS c26 h21
            clear h21 c26
            refine lv_iconst (v := 0) hx hb dX4_firstWrong_35 (by decide) ?_
            refine lv_istore (lv' := [(6, .int 0), (0, .ref a0), (1, .int p1), (2, .ref a1), (3, .int p3), (4, .int x4_9), (5, .int x5_10)]) hx hb dX4_firstWrong_36 hlB6 (by decide) rfl (fun ls hl29 => ?_)
            clear hlB6
            have L38 : ∀ (n38 : Nat) (x4_30 : Int32) (x6_31 : Int32) (H : Heap) (locs : List Loc) (ls : Array Slot), (f_X4_firstWrong_L38 s_p2_length s_p2_bytes s_heights s_marked p1 x5_10 (f_X4_firstWrong_L6 s_p2_length s_p2_bytes s_heights s_marked p1 p3 (f_X4_firstWrong_J80 p3 ) n6) n38) x4_30 x6_31 = some (r) → kV E A s.heap H locs [(a0, .inr (4, [.ref a3, w0_1, w0_2, .ref a4, w0_4, w0_5, w0_6])), (a1, .inr (9, [.ref a2, .int s_p2_length])), (a2, .inl (E.2 0, 200, .inl s_p2_bytes)), (a3, .inl (E.2 0, 1440, .inl s_heights)), (a4, .inl (E.2 0, 1440, .inl s_marked))] → lv_has ls 7 [(0, .ref a0), (1, .int p1), (2, .ref a1), (3, .int p3), (4, .int x4_30), (5, .int x5_10), (6, .int x6_31)] → W p l e r_X4_firstWrong s m args below meth c H locs 0 0 Q (F0 m 38 ls []) := by
              intro n38
              induction n38 with
              | zero =>
                intro x4_30 x6_31 H locs ls hB38 hVB38 hlB38
                rw [f_X4_firstWrong_L38] at hB38
                exact nomatch hB38
              | succ n38 ih38 =>
                intro x4_30 x6_31 H locs ls hB38 hVB38 hlB38
                rw [f_X4_firstWrong_L38] at hB38
                refine lv_iload hx hb dX4_firstWrong_38 (lv_at hlB38 6 rfl) ?_
                refine lv_iconst (v := 3) hx hb dX4_firstWrong_40 (by decide) ?_
                refine lv_icmp_ge (tgt := 74) hx hb dX4_firstWrong_41 (by decide) (fun c32 => ?_) (fun c32 => ?_)
                · have h33 := itS c32 hB38
                  clear hB38 c32
                  obtain ⟨v74_35, e36, h37⟩ := nmI_s h33
                  clear h33
                  refine lv_iinc (v := v74_35) (lv' := [(5, .int v74_35), (0, .ref a0), (1, .int p1), (2, .ref a1), (3, .int p3), (4, .int x4_30), (6, .int x6_31)]) hx hb dX4_firstWrong_74 hlB38 (k := 5) rfl (by rw [e36]; rfl) (by decide) rfl (fun ls hl38 => ?_)
                  clear hlB38 e36
                  refine lv_goto (tgt := 6) hx hb dX4_firstWrong_77 (by decide) ?_
                  exact ih6 x4_30 v74_35 _ _ _ h37 hVB38 (lv_sub hl38 [1, 2, 3, 4, 5, 0] rfl)
                · have h34 := ieS c32 hB38
                  clear hB38 c32
                  refine lv_aload_n hx hb dX4_firstWrong_44 rfl (lv_at hlB38 2 rfl) ?_
                  refine lv_iload hx hb dX4_firstWrong_45 (lv_at hlB38 4 rfl) ?_
                  obtain ⟨r47_39, hc40, h41⟩ := cb1_s h34
                  clear h34
                  refine kgoiE (krunV (rest := []) X hVB38 [1, 2] (c_X9_wordAt l E _ a1 a2 s_p2_length s_p2_bytes x4_30 r47_39 hc40) mw_1312 kb_X9_wordAt (ci := 9) rfl rfl (by decide) rfl rfl hlB38.1 rfl (Nat.le_of_ble_eq_true rfl) dX4_firstWrong_47 (by decide)) X hVB38 [1, 2] [0, 3, 4] rfl rfl rfl (by decide) (fun u H locs hV42 => ?_)
                  have hV42 : kV E A s.heap H locs [(a0, .inr (4, [.ref a3, w0_1, w0_2, .ref a4, w0_4, w0_5, w0_6])), (a1, .inr (9, [.ref a2, .int s_p2_length])), (a2, .inl (E.2 0, 200, .inl s_p2_bytes)), (a3, .inl (E.2 0, 1440, .inl s_heights)), (a4, .inl (E.2 0, 1440, .inl s_marked))] := hV42.sub [0, 3, 4, 1, 2] rfl rfl
                  clear hVB38
                  refine lv_aload_n hx hb dX4_firstWrong_50 rfl (lv_at hlB38 0 rfl) ?_
                  refine lv_iload_n hx hb dX4_firstWrong_51 rfl (lv_at hlB38 1 rfl) ?_
                  refine lv_iload hx hb dX4_firstWrong_52 (lv_at hlB38 5 rfl) ?_
                  refine lv_iload hx hb dX4_firstWrong_54 (lv_at hlB38 6 rfl) ?_
                  obtain ⟨r56_44, hc45, h46⟩ := cb1_s h41
                  clear h41
                  refine kgoiE (krunV (rest := [.int r47_39]) X hV42 [0, 3, 4] (c_X4_numberOf l E _ a0 a3 a4 (w0_1) (w0_2) (w0_4) (w0_5) (w0_6) s_heights s_marked p1 x5_10 x6_31 r56_44 hc45) mw_838 kb_X4_numberOf (ci := 4) rfl rfl (by decide) rfl rfl hlB38.1 rfl (Nat.le_of_ble_eq_true rfl) dX4_firstWrong_56 (by decide)) X hV42 [0, 3, 4] [1, 2] rfl rfl rfl (by decide) (fun u H locs hV47 => ?_)
                  have hV47 : kV E A s.heap H locs [(a0, .inr (4, [.ref a3, w0_1, w0_2, .ref a4, w0_4, w0_5, w0_6])), (a1, .inr (9, [.ref a2, .int s_p2_length])), (a2, .inl (E.2 0, 200, .inl s_p2_bytes)), (a3, .inl (E.2 0, 1440, .inl s_heights)), (a4, .inl (E.2 0, 1440, .inl s_marked))] := hV47.sub [2, 0, 1, 3, 4] rfl rfl
                  clear hV42
                  refine lv_icmp_eq (tgt := 65) hx hb dX4_firstWrong_59 (by decide) (fun c49 => ?_) (fun c49 => ?_)
                  · have h50 := itS c49 h46
                    clear h46 c49
                    obtain ⟨v65_52, e53, h54⟩ := nmI_s h50
                    clear h50
                    refine lv_iinc (v := v65_52) (lv' := [(4, .int v65_52), (0, .ref a0), (1, .int p1), (2, .ref a1), (3, .int p3), (5, .int x5_10), (6, .int x6_31)]) hx hb dX4_firstWrong_65 hlB38 (k := 4) rfl (by rw [e53]; rfl) (by decide) rfl (fun ls hl55 => ?_)
                    clear hlB38 e53
                    obtain ⟨v68_56, e57, h58⟩ := nmI_s h54
                    clear h54
                    refine lv_iinc (v := v68_56) (lv' := [(6, .int v68_56), (4, .int v65_52), (0, .ref a0), (1, .int p1), (2, .ref a1), (3, .int p3), (5, .int x5_10)]) hx hb dX4_firstWrong_68 hl55 (k := 6) rfl (by rw [e57]; rfl) (by decide) rfl (fun ls hl59 => ?_)
                    clear hl55 e57
                    refine lv_goto (tgt := 38) hx hb dX4_firstWrong_71 (by decide) ?_
                    exact ih38 v65_52 v68_56 _ _ _ h58 hV47 (lv_sub hl59 [2, 3, 4, 5, 1, 6, 0] rfl)
                  · have h51 := ieS c49 h46
                    clear h46 c49
                    refine lv_iload hx hb dX4_firstWrong_62 (lv_at hlB38 4 rfl) ?_
                    have q60 := tup1_s h51
                    clear h51
                    exact hret _ () _ _ _ _ q60 rfl hV47 dX4_firstWrong_64
            exact L38 FU x4_9 0 _ _ _ h27 hV17 (lv_sub hl29 [1, 2, 3, 4, 5, 6, 0] rfl)
          · have h28 := ieS c26 h21
            clear h21 c26
            refine lv_iload hx hb dX4_firstWrong_32 (lv_at hlB6 4 rfl) ?_
            have q61 := tup1_s h28
            clear h28
            exact hret _ () _ _ _ _ q61 rfl hV17 dX4_firstWrong_34
  exact L6 FU 0 0 _ _ _ h hV (lv_sub hl2 [2, 3, 4, 5, 1, 0] rfl)
noncomputable def f_X3_add_J33 (s_many : Int32) (s_days : Nat → Int32) (s_minutes : Nat → Int32) (s_shapes : Nat → Int32) (p1 : Int32) (p2 : Int32) (p3 : Int32)   : Option (Int32 × Int32 × (Nat → Int32) × (Nat → Int32) × (Nat → Int32)) :=
    wrI s_days 40 s_many p1 fun g42_9 =>
    wrI s_minutes 40 s_many p2 fun g52_14 =>
    wrI s_shapes 40 s_many p3 fun g62_19 =>
    nmI (s_many + 1) fun v70_24 =>
    some ((v70_24 - 1), v70_24, g42_9, g52_14, g62_19)
noncomputable def f_X3_add (s_many : Int32) (s_days : Nat → Int32) (s_minutes : Nat → Int32) (s_shapes : Nat → Int32) (p1 : Int32) (p2 : Int32) (p3 : Int32) : Option (Int32 × Int32 × (Nat → Int32) × (Nat → Int32) × (Nat → Int32)) :=
    if 40 ≤ s_many then
    (some ((-1), s_many, s_days, s_minutes, s_shapes))
    else
    (if s_many ≤ 0 then
      ((f_X3_add_J33 s_many s_days s_minutes s_shapes p1 p2 p3 ))
      else
      (rdI s_days 40 (s_many - 1) fun v27_36 =>
        if v27_36 ≤ p1 then
        ((f_X3_add_J33 s_many s_days s_minutes s_shapes p1 p2 p3 ))
        else
        (some ((-1), s_many, s_days, s_minutes, s_shapes))))
abbrev r_X3_add : Room := { frames := 0, cells := 0, slots := 0, locals := 0 }
set_option maxHeartbeats 4000000 in
set_option maxRecDepth 100000 in
theorem c_X3_add (l : Launch) (E : kE) (sz : Nat) (a0 a1 a2 a3 : Nat) (w0_3 : Value) (s_many : Int32) (s_days : Nat → Int32) (s_minutes : Nat → Int32) (s_shapes : Nat → Int32) (p1 : Int32) (p2 : Int32) (p3 : Int32) (r : Int32) (o_many : Int32) (o_days : Nat → Int32) (o_minutes : Nat → Int32) (o_shapes : Nat → Int32) (h : f_X3_add s_many s_days s_minutes s_shapes p1 p2 p3 = some (r, o_many, o_days, o_minutes, o_shapes)) : kMi l yX3_add cX3_add 4 (some .int) r_X3_add [.ref a0, .int p1, .int p2, .int p3] E [(a0, .inr (3, [.ref a1, .ref a2, .ref a3, w0_3, .int s_many])), (a1, .inl (E.2 0, 40, .inl s_days)), (a2, .inl (E.2 0, 40, .inl s_minutes)), (a3, .inl (E.2 0, 40, .inl s_shapes))] sz 0 0 (fun x (_ : Unit) => x = r) (fun _ => [(a0, .inr (3, [.ref a1, .ref a2, .ref a3, w0_3, .int o_many])), (a1, .inl (E.2 0, 40, .inl o_days)), (a2, .inl (E.2 0, 40, .inl o_minutes)), (a3, .inl (E.2 0, 40, .inl o_shapes))]) := by
  refine kmeti rfl (Nat.le_of_ble_eq_true rfl) ?_
  intro p e s m args below meth c ls A Q X hV hret hl
  have X : kC p s m c cX3_add 4 RX3 args E A := X
  have hx := X.1
  have hb := X.2.1
  have hl : lv_has ls 4 [(0, .ref a0), (1, .int p1), (2, .int p2), (3, .int p3)] := hl
  rw [f_X3_add] at h
  refine lv_aload_n hx hb dX3_add_0 rfl (lv_at hl 0 rfl) ?_
  refine kget X hV (ci := 3) inlX3 rfl 0 rfl 4 (by decide) mw_104 rfl dX3_add_1 ?_
  refine lv_bipush (v := 40) hx hb dX3_add_4 (by decide) ?_
  refine lv_icmp_ge (tgt := 31) hx hb dX3_add_6 (by decide) (fun c1 => ?_) (fun c1 => ?_)
  · have h2 := itS c1 h
    clear h c1
    refine lv_iconst (v := (-1)) hx hb dX3_add_31 (by decide) ?_
    obtain ⟨q4, q5, q6, q7, q8⟩ := tup5_s h2
    clear h2
    exact hret _ () _ _ _ _ q4 rfl (by rw [← q5, ← q6, ← q7, ← q8]; exact hV) dX3_add_32
  · have h3 := ieS c1 h
    clear h c1
    refine lv_aload_n hx hb dX3_add_9 rfl (lv_at hl 0 rfl) ?_
    refine kget X hV (ci := 3) inlX3 rfl 0 rfl 4 (by decide) mw_104 rfl dX3_add_10 ?_
    have J33 : ∀  (H : Heap) (locs : List Loc) (ls : Array Slot), (f_X3_add_J33 s_many s_days s_minutes s_shapes p1 p2 p3 ) = some (r, o_many, o_days, o_minutes, o_shapes) → kV E A s.heap H locs [(a0, .inr (3, [.ref a1, .ref a2, .ref a3, w0_3, .int s_many])), (a1, .inl (E.2 0, 40, .inl s_days)), (a2, .inl (E.2 0, 40, .inl s_minutes)), (a3, .inl (E.2 0, 40, .inl s_shapes))] → lv_has ls 4 [(0, .ref a0), (1, .int p1), (2, .int p2), (3, .int p3)] → W p l e r_X3_add s m args below meth c H locs 0 0 Q (F0 m 33 ls []) := by
      intro  H locs ls hB33 hVB33 hlB33
      rw [f_X3_add_J33] at hB33
      refine lv_aload_n hx hb dX3_add_33 rfl (lv_at hlB33 0 rfl) ?_
      refine kget X hVB33 (ci := 3) inlX3 rfl 0 rfl 0 (by decide) mw_100 rfl dX3_add_34 ?_
      refine lv_aload_n hx hb dX3_add_37 rfl (lv_at hlB33 0 rfl) ?_
      refine kget X hVB33 (ci := 3) inlX3 rfl 0 rfl 4 (by decide) mw_104 rfl dX3_add_38 ?_
      refine lv_iload_n hx hb dX3_add_41 rfl (lv_at hlB33 1 rfl) ?_
      obtain ⟨hi10, g42_9, e11, h12⟩ := wrI_s hB33
      clear hB33
      refine kiast X hVB33 1 rfl hi10 e11 dX3_add_42 (fun H locs hV13 => ?_)
      have hV13 : kV E A s.heap H locs [(a0, .inr (3, [.ref a1, .ref a2, .ref a3, w0_3, .int s_many])), (a1, .inl (E.2 0, 40, .inl g42_9)), (a2, .inl (E.2 0, 40, .inl s_minutes)), (a3, .inl (E.2 0, 40, .inl s_shapes))] := hV13
      clear hVB33 hi10 e11
      refine lv_aload_n hx hb dX3_add_43 rfl (lv_at hlB33 0 rfl) ?_
      refine kget X hV13 (ci := 3) inlX3 rfl 0 rfl 1 (by decide) mw_101 rfl dX3_add_44 ?_
      refine lv_aload_n hx hb dX3_add_47 rfl (lv_at hlB33 0 rfl) ?_
      refine kget X hV13 (ci := 3) inlX3 rfl 0 rfl 4 (by decide) mw_104 rfl dX3_add_48 ?_
      refine lv_iload_n hx hb dX3_add_51 rfl (lv_at hlB33 2 rfl) ?_
      obtain ⟨hi15, g52_14, e16, h17⟩ := wrI_s h12
      clear h12
      refine kiast X hV13 2 rfl hi15 e16 dX3_add_52 (fun H locs hV18 => ?_)
      have hV18 : kV E A s.heap H locs [(a0, .inr (3, [.ref a1, .ref a2, .ref a3, w0_3, .int s_many])), (a1, .inl (E.2 0, 40, .inl g42_9)), (a2, .inl (E.2 0, 40, .inl g52_14)), (a3, .inl (E.2 0, 40, .inl s_shapes))] := hV18
      clear hV13 hi15 e16
      refine lv_aload_n hx hb dX3_add_53 rfl (lv_at hlB33 0 rfl) ?_
      refine kget X hV18 (ci := 3) inlX3 rfl 0 rfl 2 (by decide) mw_102 rfl dX3_add_54 ?_
      refine lv_aload_n hx hb dX3_add_57 rfl (lv_at hlB33 0 rfl) ?_
      refine kget X hV18 (ci := 3) inlX3 rfl 0 rfl 4 (by decide) mw_104 rfl dX3_add_58 ?_
      refine lv_iload_n hx hb dX3_add_61 rfl (lv_at hlB33 3 rfl) ?_
      obtain ⟨hi20, g62_19, e21, h22⟩ := wrI_s h17
      clear h17
      refine kiast X hV18 3 rfl hi20 e21 dX3_add_62 (fun H locs hV23 => ?_)
      have hV23 : kV E A s.heap H locs [(a0, .inr (3, [.ref a1, .ref a2, .ref a3, w0_3, .int s_many])), (a1, .inl (E.2 0, 40, .inl g42_9)), (a2, .inl (E.2 0, 40, .inl g52_14)), (a3, .inl (E.2 0, 40, .inl g62_19))] := hV23
      clear hV18 hi20 e21
      refine lv_aload_n hx hb dX3_add_63 rfl (lv_at hlB33 0 rfl) ?_
      refine lv_dup hx hb dX3_add_64 rfl ?_
      refine kget X hV23 (ci := 3) inlX3 rfl 0 rfl 4 (by decide) mw_104 rfl dX3_add_65 ?_
      refine lv_iconst (v := 1) hx hb dX3_add_68 (by decide) ?_
      refine lv_iadd hx hb dX3_add_69 ?_
      obtain ⟨v70_24, e25, h26⟩ := nmI_s h22
      clear h22
      refine ktopi e25 ?_
      clear e25
      refine kput X hV23 (ci := 3) inlX3 rfl tyX3 tyX3_ok nmX3 0 rfl 4 (by decide) mw_104 rfl rfl rfl (Nat.le_of_ble_eq_true rfl) dX3_add_70 (fun H locs hV27 => ?_)
      have hV27 : kV E A s.heap H locs [(a0, .inr (3, [.ref a1, .ref a2, .ref a3, w0_3, .int v70_24])), (a1, .inl (E.2 0, 40, .inl g42_9)), (a2, .inl (E.2 0, 40, .inl g52_14)), (a3, .inl (E.2 0, 40, .inl g62_19))] := hV27
      clear hV23
      refine lv_aload_n hx hb dX3_add_73 rfl (lv_at hlB33 0 rfl) ?_
      refine kget X hV27 (ci := 3) inlX3 rfl 0 rfl 4 (by decide) mw_104 rfl dX3_add_74 ?_
      refine lv_iconst (v := 1) hx hb dX3_add_77 (by decide) ?_
      refine lv_isub hx hb dX3_add_78 ?_
      obtain ⟨q28, q29, q30, q31, q32⟩ := tup5_s h26
      clear h26
      exact hret _ () _ _ _ _ q28 rfl (by rw [← q29, ← q30, ← q31, ← q32]; exact hV27) dX3_add_79
    refine lv_if_le (tgt := 33) hx hb dX3_add_13 (by decide) (fun c33 => ?_) (fun c33 => ?_)
    · have h34 := itS c33 h3
      clear h3 c33
      exact J33  _ _ _ h34 hV (lv_sub hl [0, 1, 2, 3] rfl)
    · have h35 := ieS c33 h3
      clear h3 c33
      refine lv_iload_n hx hb dX3_add_16 rfl (lv_at hl 1 rfl) ?_
      refine lv_aload_n hx hb dX3_add_17 rfl (lv_at hl 0 rfl) ?_
      refine kget X hV (ci := 3) inlX3 rfl 0 rfl 0 (by decide) mw_100 rfl dX3_add_18 ?_
      refine lv_aload_n hx hb dX3_add_21 rfl (lv_at hl 0 rfl) ?_
      refine kget X hV (ci := 3) inlX3 rfl 0 rfl 4 (by decide) mw_104 rfl dX3_add_22 ?_
      refine lv_iconst (v := 1) hx hb dX3_add_25 (by decide) ?_
      refine lv_isub hx hb dX3_add_26 ?_
      obtain ⟨hi37, v27_36, e38, h39⟩ := rdI_s h35
      clear h35
      refine kiald X hV 1 rfl hi37 e38 dX3_add_27 ?_
      clear hi37 e38
      refine lv_icmp_ge (tgt := 33) hx hb dX3_add_28 (by decide) (fun c40 => ?_) (fun c40 => ?_)
      · have h41 := itS c40 h39
        clear h39 c40
        exact J33  _ _ _ h41 hV (lv_sub hl [0, 1, 2, 3] rfl)
      · have h42 := ieS c40 h39
        clear h39 c40
        refine lv_iconst (v := (-1)) hx hb dX3_add_31 (by decide) ?_
        obtain ⟨q43, q44, q45, q46, q47⟩ := tup5_s h42
        clear h42
        exact hret _ () _ _ _ _ q43 rfl (by rw [← q44, ← q45, ← q46, ← q47]; exact hV) dX3_add_32
noncomputable def f_X3_gather_L6 (s_many : Int32) (s_days : Nat → Int32) (s_minutes : Nat → Int32) (s_shapes : Nat → Int32) (p1 : Int32) (p2 : Int32) (p3 : Int32)  : Nat → Int32 → Int32 → (Nat → Int32) → Option (Int32 × (Nat → Int32))
  | 0, _, _, _ => none
  | n6 + 1, x4_3, x5_4, gathered__5 =>
    if s_many ≤ x5_4 then
    (some (x4_3, gathered__5))
    else
    (rdI s_shapes 40 x5_4 fun v21_11 =>
      if v21_11 = p1 then
      (rdI s_days 40 x5_4 fun v32_22 =>
        if p2 < v32_22 then
        (nmI (x5_4 + 1) fun v78_29 =>
          (f_X3_gather_L6 s_many s_days s_minutes s_shapes p1 p2 p3  n6) x4_3 v78_29 gathered__5)
        else
        (if p3 = 0 then
          (rdI s_minutes 40 x5_4 fun v73_36 =>
            wrI gathered__5 40 x4_3 v73_36 fun g74_40 =>
            nmI (x4_3 + 1) fun v75_45 =>
            nmI (x5_4 + 1) fun v78_49 =>
            (f_X3_gather_L6 s_many s_days s_minutes s_shapes p1 p2 p3  n6) v75_45 v78_49 g74_40)
          else
          (rdI s_days 40 x5_4 fun v53_53 =>
            rdI s_minutes 40 x5_4 fun v60_57 =>
            cb1 (f_X11_starMinute v53_53 v60_57) fun r61_61 =>
            wrI gathered__5 40 x4_3 r61_61 fun g74_66 =>
            nmI (x4_3 + 1) fun v75_71 =>
            nmI (x5_4 + 1) fun v78_75 =>
            (f_X3_gather_L6 s_many s_days s_minutes s_shapes p1 p2 p3  n6) v75_71 v78_75 g74_66)))
      else
      (nmI (x5_4 + 1) fun v78_18 =>
        (f_X3_gather_L6 s_many s_days s_minutes s_shapes p1 p2 p3  n6) x4_3 v78_18 gathered__5))
noncomputable def f_X3_gather (s_many : Int32) (s_days : Nat → Int32) (s_gathered : Nat → Int32) (s_minutes : Nat → Int32) (s_shapes : Nat → Int32) (p1 : Int32) (p2 : Int32) (p3 : Int32) : Option (Int32 × (Nat → Int32)) :=
    (f_X3_gather_L6 s_many s_days s_minutes s_shapes p1 p2 p3  FU) 0 0 s_gathered
abbrev r_X3_gather : Room := { frames := 1, cells := 0, slots := 0, locals := 21 }
set_option maxHeartbeats 4000000 in
set_option maxRecDepth 100000 in
theorem c_X3_gather (l : Launch) (E : kE) (sz : Nat) (a0 a1 a2 a3 a4 : Nat) (s_many : Int32) (s_days : Nat → Int32) (s_gathered : Nat → Int32) (s_minutes : Nat → Int32) (s_shapes : Nat → Int32) (p1 : Int32) (p2 : Int32) (p3 : Int32) (r : Int32) (o_gathered : Nat → Int32) (h : f_X3_gather s_many s_days s_gathered s_minutes s_shapes p1 p2 p3 = some (r, o_gathered)) : kMi l yX3_gather cX3_gather 6 (some .int) r_X3_gather [.ref a0, .int p1, .int p2, .int p3] E [(a0, .inr (3, [.ref a1, .ref a3, .ref a4, .ref a2, .int s_many])), (a1, .inl (E.2 0, 40, .inl s_days)), (a2, .inl (E.2 0, 40, .inl s_gathered)), (a3, .inl (E.2 0, 40, .inl s_minutes)), (a4, .inl (E.2 0, 40, .inl s_shapes))] sz 0 0 (fun x (_ : Unit) => x = r) (fun _ => [(a0, .inr (3, [.ref a1, .ref a3, .ref a4, .ref a2, .int s_many])), (a1, .inl (E.2 0, 40, .inl s_days)), (a2, .inl (E.2 0, 40, .inl o_gathered)), (a3, .inl (E.2 0, 40, .inl s_minutes)), (a4, .inl (E.2 0, 40, .inl s_shapes))]) := by
  refine kmeti rfl (Nat.le_of_ble_eq_true rfl) ?_
  intro p e s m args below meth c ls A Q X hV hret hl
  have X : kC p s m c cX3_gather 6 RX3 args E A := X
  have hx := X.1
  have hb := X.2.1
  have hl : lv_has ls 6 [(0, .ref a0), (1, .int p1), (2, .int p2), (3, .int p3)] := hl
  rw [f_X3_gather] at h
  refine lv_iconst (v := 0) hx hb dX3_gather_0 (by decide) ?_
  refine lv_istore (lv' := [(4, .int 0), (0, .ref a0), (1, .int p1), (2, .int p2), (3, .int p3)]) hx hb dX3_gather_1 hl (by decide) rfl (fun ls hl1 => ?_)
  clear hl
  refine lv_iconst (v := 0) hx hb dX3_gather_3 (by decide) ?_
  refine lv_istore (lv' := [(5, .int 0), (4, .int 0), (0, .ref a0), (1, .int p1), (2, .int p2), (3, .int p3)]) hx hb dX3_gather_4 hl1 (by decide) rfl (fun ls hl2 => ?_)
  clear hl1
  have L6 : ∀ (n6 : Nat) (x4_3 : Int32) (x5_4 : Int32) (gathered__5 : Nat → Int32) (H : Heap) (locs : List Loc) (ls : Array Slot), (f_X3_gather_L6 s_many s_days s_minutes s_shapes p1 p2 p3  n6) x4_3 x5_4 gathered__5 = some (r, o_gathered) → kV E A s.heap H locs [(a0, .inr (3, [.ref a1, .ref a3, .ref a4, .ref a2, .int s_many])), (a1, .inl (E.2 0, 40, .inl s_days)), (a2, .inl (E.2 0, 40, .inl gathered__5)), (a3, .inl (E.2 0, 40, .inl s_minutes)), (a4, .inl (E.2 0, 40, .inl s_shapes))] → lv_has ls 6 [(0, .ref a0), (1, .int p1), (2, .int p2), (3, .int p3), (4, .int x4_3), (5, .int x5_4)] → W p l e r_X3_gather s m args below meth c H locs 0 0 Q (F0 m 6 ls []) := by
    intro n6
    induction n6 with
    | zero =>
      intro x4_3 x5_4 gathered__5 H locs ls hB6 hVB6 hlB6
      rw [f_X3_gather_L6] at hB6
      exact nomatch hB6
    | succ n6 ih6 =>
      intro x4_3 x5_4 gathered__5 H locs ls hB6 hVB6 hlB6
      rw [f_X3_gather_L6] at hB6
      refine lv_iload hx hb dX3_gather_6 (lv_at hlB6 5 rfl) ?_
      refine lv_aload_n hx hb dX3_gather_8 rfl (lv_at hlB6 0 rfl) ?_
      refine kget X hVB6 (ci := 3) inlX3 rfl 0 rfl 4 (by decide) mw_104 rfl dX3_gather_9 ?_
      refine lv_icmp_ge (tgt := 84) hx hb dX3_gather_12 (by decide) (fun c6 => ?_) (fun c6 => ?_)
      · have h7 := itS c6 hB6
        clear hB6 c6
        refine lv_iload hx hb dX3_gather_84 (lv_at hlB6 4 rfl) ?_
        obtain ⟨q9, q10⟩ := tup2_s h7
        clear h7
        exact hret _ () _ _ _ _ q9 rfl (by rw [← q10]; exact hVB6) dX3_gather_86
      · have h8 := ieS c6 hB6
        clear hB6 c6
        refine lv_aload_n hx hb dX3_gather_15 rfl (lv_at hlB6 0 rfl) ?_
        refine kget X hVB6 (ci := 3) inlX3 rfl 0 rfl 2 (by decide) mw_102 rfl dX3_gather_16 ?_
        refine lv_iload hx hb dX3_gather_19 (lv_at hlB6 5 rfl) ?_
        obtain ⟨hi12, v21_11, e13, h14⟩ := rdI_s h8
        clear h8
        refine kiald X hVB6 4 rfl hi12 e13 dX3_gather_21 ?_
        clear hi12 e13
        refine lv_iload_n hx hb dX3_gather_22 rfl (lv_at hlB6 1 rfl) ?_
        refine lv_icmp_ne (tgt := 78) hx hb dX3_gather_23 (by decide) (fun c15 => ?_) (fun c15 => ?_)
        · have h16 := ieS c15 h14
          clear h14 c15
          obtain ⟨v78_18, e19, h20⟩ := nmI_s h16
          clear h16
          refine lv_iinc (v := v78_18) (lv' := [(5, .int v78_18), (0, .ref a0), (1, .int p1), (2, .int p2), (3, .int p3), (4, .int x4_3)]) hx hb dX3_gather_78 hlB6 (k := 5) rfl (by rw [e19]; rfl) (by decide) rfl (fun ls hl21 => ?_)
          clear hlB6 e19
          refine lv_goto (tgt := 6) hx hb dX3_gather_81 (by decide) ?_
          exact ih6 x4_3 v78_18 gathered__5 _ _ _ h20 hVB6 (lv_sub hl21 [1, 2, 3, 4, 5, 0] rfl)
        · have h17 := itS c15 h14
          clear h14 c15
          refine lv_aload_n hx hb dX3_gather_26 rfl (lv_at hlB6 0 rfl) ?_
          refine kget X hVB6 (ci := 3) inlX3 rfl 0 rfl 0 (by decide) mw_100 rfl dX3_gather_27 ?_
          refine lv_iload hx hb dX3_gather_30 (lv_at hlB6 5 rfl) ?_
          obtain ⟨hi23, v32_22, e24, h25⟩ := rdI_s h17
          clear h17
          refine kiald X hVB6 1 rfl hi23 e24 dX3_gather_32 ?_
          clear hi23 e24
          refine lv_iload_n hx hb dX3_gather_33 rfl (lv_at hlB6 2 rfl) ?_
          refine lv_icmp_gt (tgt := 78) hx hb dX3_gather_34 (by decide) (fun c26 => ?_) (fun c26 => ?_)
          · have h27 := itS c26 h25
            clear h25 c26
            obtain ⟨v78_29, e30, h31⟩ := nmI_s h27
            clear h27
            refine lv_iinc (v := v78_29) (lv' := [(5, .int v78_29), (0, .ref a0), (1, .int p1), (2, .int p2), (3, .int p3), (4, .int x4_3)]) hx hb dX3_gather_78 hlB6 (k := 5) rfl (by rw [e30]; rfl) (by decide) rfl (fun ls hl32 => ?_)
            clear hlB6 e30
            refine lv_goto (tgt := 6) hx hb dX3_gather_81 (by decide) ?_
            exact ih6 x4_3 v78_29 gathered__5 _ _ _ h31 hVB6 (lv_sub hl32 [1, 2, 3, 4, 5, 0] rfl)
          · have h28 := ieS c26 h25
            clear h25 c26
            refine lv_aload_n hx hb dX3_gather_37 rfl (lv_at hlB6 0 rfl) ?_
            refine kget X hVB6 (ci := 3) inlX3 rfl 0 rfl 3 (by decide) mw_103 rfl dX3_gather_38 ?_
            refine lv_iload hx hb dX3_gather_41 (lv_at hlB6 4 rfl) ?_
            refine lv_iload_n hx hb dX3_gather_43 rfl (lv_at hlB6 3 rfl) ?_
            refine lv_if_eq (tgt := 67) hx hb dX3_gather_44 (by decide) (fun c33 => ?_) (fun c33 => ?_)
            · have h34 := itS c33 h28
              clear h28 c33
              refine lv_aload_n hx hb dX3_gather_67 rfl (lv_at hlB6 0 rfl) ?_
              refine kget X hVB6 (ci := 3) inlX3 rfl 0 rfl 1 (by decide) mw_101 rfl dX3_gather_68 ?_
              refine lv_iload hx hb dX3_gather_71 (lv_at hlB6 5 rfl) ?_
              obtain ⟨hi37, v73_36, e38, h39⟩ := rdI_s h34
              clear h34
              refine kiald X hVB6 3 rfl hi37 e38 dX3_gather_73 ?_
              clear hi37 e38
              obtain ⟨hi41, g74_40, e42, h43⟩ := wrI_s h39
              clear h39
              refine kiast X hVB6 2 rfl hi41 e42 dX3_gather_74 (fun H locs hV44 => ?_)
              have hV44 : kV E A s.heap H locs [(a0, .inr (3, [.ref a1, .ref a3, .ref a4, .ref a2, .int s_many])), (a1, .inl (E.2 0, 40, .inl s_days)), (a2, .inl (E.2 0, 40, .inl g74_40)), (a3, .inl (E.2 0, 40, .inl s_minutes)), (a4, .inl (E.2 0, 40, .inl s_shapes))] := hV44
              clear hVB6 hi41 e42
              obtain ⟨v75_45, e46, h47⟩ := nmI_s h43
              clear h43
              refine lv_iinc (v := v75_45) (lv' := [(4, .int v75_45), (0, .ref a0), (1, .int p1), (2, .int p2), (3, .int p3), (5, .int x5_4)]) hx hb dX3_gather_75 hlB6 (k := 4) rfl (by rw [e46]; rfl) (by decide) rfl (fun ls hl48 => ?_)
              clear hlB6 e46
              obtain ⟨v78_49, e50, h51⟩ := nmI_s h47
              clear h47
              refine lv_iinc (v := v78_49) (lv' := [(5, .int v78_49), (4, .int v75_45), (0, .ref a0), (1, .int p1), (2, .int p2), (3, .int p3)]) hx hb dX3_gather_78 hl48 (k := 5) rfl (by rw [e50]; rfl) (by decide) rfl (fun ls hl52 => ?_)
              clear hl48 e50
              refine lv_goto (tgt := 6) hx hb dX3_gather_81 (by decide) ?_
              exact ih6 v75_45 v78_49 g74_40 _ _ _ h51 hV44 (lv_sub hl52 [2, 3, 4, 5, 1, 0] rfl)
            · have h35 := ieS c33 h28
              clear h28 c33
              refine lv_aload_n hx hb dX3_gather_47 rfl (lv_at hlB6 0 rfl) ?_
              refine kget X hVB6 (ci := 3) inlX3 rfl 0 rfl 0 (by decide) mw_100 rfl dX3_gather_48 ?_
              refine lv_iload hx hb dX3_gather_51 (lv_at hlB6 5 rfl) ?_
              obtain ⟨hi54, v53_53, e55, h56⟩ := rdI_s h35
              clear h35
              refine kiald X hVB6 1 rfl hi54 e55 dX3_gather_53 ?_
              clear hi54 e55
              refine lv_aload_n hx hb dX3_gather_54 rfl (lv_at hlB6 0 rfl) ?_
              refine kget X hVB6 (ci := 3) inlX3 rfl 0 rfl 1 (by decide) mw_101 rfl dX3_gather_55 ?_
              refine lv_iload hx hb dX3_gather_58 (lv_at hlB6 5 rfl) ?_
              obtain ⟨hi58, v60_57, e59, h60⟩ := rdI_s h56
              clear h56
              refine kiald X hVB6 3 rfl hi58 e59 dX3_gather_60 ?_
              clear hi58 e59
              obtain ⟨r61_61, hc62, h63⟩ := cb1_s h60
              clear h60
              refine kgoiE (krunSN (rest := [.int x4_3, .ref a2]) X hVB6 [] (c_X11_starMinute l E _ v53_53 v60_57 r61_61 hc62) (List.mem_of_getElem? (i := 6) rfl) kb_X11_starMinute (by decide) rfl rfl hlB6.1 rfl (Nat.le_of_ble_eq_true rfl) dX3_gather_61 (by decide)) X hVB6 [] [0, 1, 2, 3, 4] rfl rfl rfl (by decide) (fun u H locs hV64 => ?_)
              have hV64 : kV E A s.heap H locs [(a0, .inr (3, [.ref a1, .ref a3, .ref a4, .ref a2, .int s_many])), (a1, .inl (E.2 0, 40, .inl s_days)), (a2, .inl (E.2 0, 40, .inl gathered__5)), (a3, .inl (E.2 0, 40, .inl s_minutes)), (a4, .inl (E.2 0, 40, .inl s_shapes))] := hV64.sub [0, 1, 2, 3, 4] rfl rfl
              clear hVB6
              refine lv_goto (tgt := 74) hx hb dX3_gather_64 (by decide) ?_
              obtain ⟨hi67, g74_66, e68, h69⟩ := wrI_s h63
              clear h63
              refine kiast X hV64 2 rfl hi67 e68 dX3_gather_74 (fun H locs hV70 => ?_)
              have hV70 : kV E A s.heap H locs [(a0, .inr (3, [.ref a1, .ref a3, .ref a4, .ref a2, .int s_many])), (a1, .inl (E.2 0, 40, .inl s_days)), (a2, .inl (E.2 0, 40, .inl g74_66)), (a3, .inl (E.2 0, 40, .inl s_minutes)), (a4, .inl (E.2 0, 40, .inl s_shapes))] := hV70
              clear hV64 hi67 e68
              obtain ⟨v75_71, e72, h73⟩ := nmI_s h69
              clear h69
              refine lv_iinc (v := v75_71) (lv' := [(4, .int v75_71), (0, .ref a0), (1, .int p1), (2, .int p2), (3, .int p3), (5, .int x5_4)]) hx hb dX3_gather_75 hlB6 (k := 4) rfl (by rw [e72]; rfl) (by decide) rfl (fun ls hl74 => ?_)
              clear hlB6 e72
              obtain ⟨v78_75, e76, h77⟩ := nmI_s h73
              clear h73
              refine lv_iinc (v := v78_75) (lv' := [(5, .int v78_75), (4, .int v75_71), (0, .ref a0), (1, .int p1), (2, .int p2), (3, .int p3)]) hx hb dX3_gather_78 hl74 (k := 5) rfl (by rw [e76]; rfl) (by decide) rfl (fun ls hl78 => ?_)
              clear hl74 e76
              refine lv_goto (tgt := 6) hx hb dX3_gather_81 (by decide) ?_
              exact ih6 v75_71 v78_75 g74_66 _ _ _ h77 hV70 (lv_sub hl78 [2, 3, 4, 5, 1, 0] rfl)
  exact L6 FU 0 0 s_gathered _ _ _ h hV (lv_sub hl2 [2, 3, 4, 5, 1, 0] rfl)
noncomputable def f_X3_oneBy_J38 (s_many : Int32) (s_days : Nat → Int32) (s_minutes : Nat → Int32) (s_shapes : Nat → Int32) (p1 : Int32) (p2 : Int32) (p3 : Int32) (r4_1 : Int32) (o_gathered4_2 : Nat → Int32)  (t0_16 : Int32) : Option (Int32 × (Nat → Int32)) :=
    cb2 (f_X3_gather s_many s_days o_gathered4_2 s_minutes s_shapes p1 p3 0) fun r44_18 o_gathered44_19 =>
    cb1 (f_X11_lieOnArc 40 o_gathered44_19 r4_1 1440 p2) fun r58_24 =>
    if r58_24 = 0 then
    (some (t0_16, o_gathered44_19))
    else
    (some ((t0_16 ||| 2), o_gathered44_19))
noncomputable def f_X3_oneBy (s_many : Int32) (s_days : Nat → Int32) (s_gathered : Nat → Int32) (s_minutes : Nat → Int32) (s_shapes : Nat → Int32) (p1 : Int32) (p2 : Int32) (p3 : Int32) : Option (Int32 × (Nat → Int32)) :=
    cb2 (f_X3_gather s_many s_days s_gathered s_minutes s_shapes p1 p3 1) fun r4_1 o_gathered4_2 =>
    if 2 ≤ r4_1 then
    (cb1 (f_X11_lieOnArc 40 o_gathered4_2 r4_1 1440 p2) fun r27_11 =>
      if r27_11 = 0 then
      ((f_X3_oneBy_J38 s_many s_days s_minutes s_shapes p1 p2 p3 r4_1 o_gathered4_2 ) 0)
      else
      ((f_X3_oneBy_J38 s_many s_days s_minutes s_shapes p1 p2 p3 r4_1 o_gathered4_2 ) 1))
    else
    (some ((-1), o_gathered4_2))
abbrev r_X3_oneBy : Room := { frames := 2, cells := 0, slots := 0, locals := 50 }
set_option maxHeartbeats 4000000 in
set_option maxRecDepth 100000 in
theorem c_X3_oneBy (l : Launch) (E : kE) (sz : Nat) (a0 a1 a2 a3 a4 : Nat) (s_many : Int32) (s_days : Nat → Int32) (s_gathered : Nat → Int32) (s_minutes : Nat → Int32) (s_shapes : Nat → Int32) (p1 : Int32) (p2 : Int32) (p3 : Int32) (r : Int32) (o_gathered : Nat → Int32) (h : f_X3_oneBy s_many s_days s_gathered s_minutes s_shapes p1 p2 p3 = some (r, o_gathered)) : kMi l yX3_oneBy cX3_oneBy 6 (some .int) r_X3_oneBy [.ref a0, .int p1, .int p2, .int p3] E [(a0, .inr (3, [.ref a1, .ref a3, .ref a4, .ref a2, .int s_many])), (a1, .inl (E.2 0, 40, .inl s_days)), (a2, .inl (E.2 0, 40, .inl s_gathered)), (a3, .inl (E.2 0, 40, .inl s_minutes)), (a4, .inl (E.2 0, 40, .inl s_shapes))] sz 0 0 (fun x (_ : Unit) => x = r) (fun _ => [(a0, .inr (3, [.ref a1, .ref a3, .ref a4, .ref a2, .int s_many])), (a1, .inl (E.2 0, 40, .inl s_days)), (a2, .inl (E.2 0, 40, .inl o_gathered)), (a3, .inl (E.2 0, 40, .inl s_minutes)), (a4, .inl (E.2 0, 40, .inl s_shapes))]) := by
  refine kmeti rfl (Nat.le_of_ble_eq_true rfl) ?_
  intro p e s m args below meth c ls A Q X hV hret hl
  have X : kC p s m c cX3_oneBy 6 RX3 args E A := X
  have hx := X.1
  have hb := X.2.1
  have hl : lv_has ls 6 [(0, .ref a0), (1, .int p1), (2, .int p2), (3, .int p3)] := hl
  rw [f_X3_oneBy] at h
  refine lv_aload_n hx hb dX3_oneBy_0 rfl (lv_at hl 0 rfl) ?_
  refine lv_iload_n hx hb dX3_oneBy_1 rfl (lv_at hl 1 rfl) ?_
  refine lv_iload_n hx hb dX3_oneBy_2 rfl (lv_at hl 3 rfl) ?_
  refine lv_iconst (v := 1) hx hb dX3_oneBy_3 (by decide) ?_
  obtain ⟨r4_1, o_gathered4_2, hc3, h4⟩ := cb2_s h
  clear h
  refine kgoiE (krunV (rest := []) X hV [0, 1, 2, 3, 4] (c_X3_gather l E _ a0 a1 a2 a3 a4 s_many s_days s_gathered s_minutes s_shapes p1 p3 1 r4_1 o_gathered4_2 hc3) mw_908 kb_X3_gather (ci := 3) rfl rfl (by decide) rfl rfl hl.1 rfl (Nat.le_of_ble_eq_true rfl) dX3_oneBy_4 (by decide)) X hV [0, 1, 2, 3, 4] [] rfl rfl rfl (by decide) (fun u H locs hV5 => ?_)
  have hV5 : kV E A s.heap H locs [(a0, .inr (3, [.ref a1, .ref a3, .ref a4, .ref a2, .int s_many])), (a1, .inl (E.2 0, 40, .inl s_days)), (a2, .inl (E.2 0, 40, .inl o_gathered4_2)), (a3, .inl (E.2 0, 40, .inl s_minutes)), (a4, .inl (E.2 0, 40, .inl s_shapes))] := hV5.sub [0, 1, 2, 3, 4] rfl rfl
  clear hV
  refine lv_istore (lv' := [(4, .int r4_1), (0, .ref a0), (1, .int p1), (2, .int p2), (3, .int p3)]) hx hb dX3_oneBy_7 hl (by decide) rfl (fun ls hl7 => ?_)
  clear hl
  refine lv_iload hx hb dX3_oneBy_9 (lv_at hl7 0 rfl) ?_
  refine lv_iconst (v := 2) hx hb dX3_oneBy_11 (by decide) ?_
  refine lv_icmp_ge (tgt := 17) hx hb dX3_oneBy_12 (by decide) (fun c8 => ?_) (fun c8 => ?_)
  · have h9 := itS c8 h4
    clear h4 c8
    refine lv_aload_n hx hb dX3_oneBy_17 rfl (lv_at hl7 1 rfl) ?_
    refine kget X hV5 (ci := 3) inlX3 rfl 0 rfl 3 (by decide) mw_103 rfl dX3_oneBy_18 ?_
    refine lv_iload hx hb dX3_oneBy_21 (lv_at hl7 0 rfl) ?_
    refine lv_sipush (v := 1440) hx hb dX3_oneBy_23 (by decide) ?_
    refine lv_iload_n hx hb dX3_oneBy_26 rfl (lv_at hl7 3 rfl) ?_
    obtain ⟨r27_11, hc12, h13⟩ := cb1_s h9
    clear h9
    refine kgoiE (krunSN (rest := []) X hV5 [2] (c_X11_lieOnArc l E _ a2 40 o_gathered4_2 r4_1 1440 p2 r27_11 hc12) (List.mem_of_getElem? (i := 5) rfl) kb_X11_lieOnArc (by decide) rfl rfl hl7.1 rfl (Nat.le_of_ble_eq_true rfl) dX3_oneBy_27 (by decide)) X hV5 [2] [0, 1, 3, 4] rfl rfl rfl (by decide) (fun u H locs hV14 => ?_)
    have hV14 : kV E A s.heap H locs [(a0, .inr (3, [.ref a1, .ref a3, .ref a4, .ref a2, .int s_many])), (a1, .inl (E.2 0, 40, .inl s_days)), (a2, .inl (E.2 0, 40, .inl o_gathered4_2)), (a3, .inl (E.2 0, 40, .inl s_minutes)), (a4, .inl (E.2 0, 40, .inl s_shapes))] := hV14.sub [0, 1, 4, 2, 3] rfl rfl
    clear hV5
    have J38 : ∀ (t0_16 : Int32) (H : Heap) (locs : List Loc) (ls : Array Slot), (f_X3_oneBy_J38 s_many s_days s_minutes s_shapes p1 p2 p3 r4_1 o_gathered4_2 ) t0_16 = some (r, o_gathered) → kV E A s.heap H locs [(a0, .inr (3, [.ref a1, .ref a3, .ref a4, .ref a2, .int s_many])), (a1, .inl (E.2 0, 40, .inl s_days)), (a2, .inl (E.2 0, 40, .inl o_gathered4_2)), (a3, .inl (E.2 0, 40, .inl s_minutes)), (a4, .inl (E.2 0, 40, .inl s_shapes))] → lv_has ls 6 [(0, .ref a0), (1, .int p1), (2, .int p2), (3, .int p3), (4, .int r4_1)] → W p l e r_X3_oneBy s m args below meth c H locs 0 0 Q (F0 m 38 ls [.int t0_16]) := by
      intro t0_16 H locs ls hB38 hVB38 hlB38
      rw [f_X3_oneBy_J38] at hB38
      refine lv_istore (lv' := [(5, .int t0_16), (0, .ref a0), (1, .int p1), (2, .int p2), (3, .int p3), (4, .int r4_1)]) hx hb dX3_oneBy_38 hlB38 (by decide) rfl (fun ls hl17 => ?_)
      clear hlB38
      refine lv_aload_n hx hb dX3_oneBy_40 rfl (lv_at hl17 1 rfl) ?_
      refine lv_iload_n hx hb dX3_oneBy_41 rfl (lv_at hl17 2 rfl) ?_
      refine lv_iload_n hx hb dX3_oneBy_42 rfl (lv_at hl17 4 rfl) ?_
      refine lv_iconst (v := 0) hx hb dX3_oneBy_43 (by decide) ?_
      obtain ⟨r44_18, o_gathered44_19, hc20, h21⟩ := cb2_s hB38
      clear hB38
      refine kgoiE (krunV (rest := []) X hVB38 [0, 1, 2, 3, 4] (c_X3_gather l E _ a0 a1 a2 a3 a4 s_many s_days o_gathered4_2 s_minutes s_shapes p1 p3 0 r44_18 o_gathered44_19 hc20) mw_908 kb_X3_gather (ci := 3) rfl rfl (by decide) rfl rfl hl17.1 rfl (Nat.le_of_ble_eq_true rfl) dX3_oneBy_44 (by decide)) X hVB38 [0, 1, 2, 3, 4] [] rfl rfl rfl (by decide) (fun u H locs hV22 => ?_)
      have hV22 : kV E A s.heap H locs [(a0, .inr (3, [.ref a1, .ref a3, .ref a4, .ref a2, .int s_many])), (a1, .inl (E.2 0, 40, .inl s_days)), (a2, .inl (E.2 0, 40, .inl o_gathered44_19)), (a3, .inl (E.2 0, 40, .inl s_minutes)), (a4, .inl (E.2 0, 40, .inl s_shapes))] := hV22.sub [0, 1, 2, 3, 4] rfl rfl
      clear hVB38
      refine lv_pop hx hb dX3_oneBy_47 rfl ?_
      refine lv_aload_n hx hb dX3_oneBy_48 rfl (lv_at hl17 1 rfl) ?_
      refine kget X hV22 (ci := 3) inlX3 rfl 0 rfl 3 (by decide) mw_103 rfl dX3_oneBy_49 ?_
      refine lv_iload hx hb dX3_oneBy_52 (lv_at hl17 5 rfl) ?_
      refine lv_sipush (v := 1440) hx hb dX3_oneBy_54 (by decide) ?_
      refine lv_iload_n hx hb dX3_oneBy_57 rfl (lv_at hl17 3 rfl) ?_
      obtain ⟨r58_24, hc25, h26⟩ := cb1_s h21
      clear h21
      refine kgoiE (krunSN (rest := []) X hV22 [2] (c_X11_lieOnArc l E _ a2 40 o_gathered44_19 r4_1 1440 p2 r58_24 hc25) (List.mem_of_getElem? (i := 5) rfl) kb_X11_lieOnArc (by decide) rfl rfl hl17.1 rfl (Nat.le_of_ble_eq_true rfl) dX3_oneBy_58 (by decide)) X hV22 [2] [0, 1, 3, 4] rfl rfl rfl (by decide) (fun u H locs hV27 => ?_)
      have hV27 : kV E A s.heap H locs [(a0, .inr (3, [.ref a1, .ref a3, .ref a4, .ref a2, .int s_many])), (a1, .inl (E.2 0, 40, .inl s_days)), (a2, .inl (E.2 0, 40, .inl o_gathered44_19)), (a3, .inl (E.2 0, 40, .inl s_minutes)), (a4, .inl (E.2 0, 40, .inl s_shapes))] := hV27.sub [0, 1, 4, 2, 3] rfl rfl
      clear hV22
      refine lv_if_eq (tgt := 71) hx hb dX3_oneBy_61 (by decide) (fun c29 => ?_) (fun c29 => ?_)
      · have h30 := itS c29 h26
        clear h26 c29
        refine lv_iload hx hb dX3_oneBy_71 (lv_at hl17 0 rfl) ?_
        obtain ⟨q32, q33⟩ := tup2_s h30
        clear h30
        exact hret _ () _ _ _ _ q32 rfl (by rw [← q33]; exact hV27) dX3_oneBy_73
      · have h31 := ieS c29 h26
        clear h26 c29
        refine lv_iload hx hb dX3_oneBy_64 (lv_at hl17 0 rfl) ?_
        refine lv_iconst (v := 2) hx hb dX3_oneBy_66 (by decide) ?_
        refine lv_ior hx hb dX3_oneBy_67 ?_
        refine lv_goto (tgt := 73) hx hb dX3_oneBy_68 (by decide) ?_
        obtain ⟨q34, q35⟩ := tup2_s h31
        clear h31
        exact hret _ () _ _ _ _ q34 rfl (by rw [← q35]; exact hV27) dX3_oneBy_73
    refine lv_if_eq (tgt := 37) hx hb dX3_oneBy_30 (by decide) (fun c36 => ?_) (fun c36 => ?_)
    · have h37 := itS c36 h13
      clear h13 c36
      refine lv_iconst (v := 0) hx hb dX3_oneBy_37 (by decide) ?_
      exact J38 0 _ _ _ h37 hV14 (lv_sub hl7 [1, 2, 3, 4, 0] rfl)
    · have h38 := ieS c36 h13
      clear h13 c36
      refine lv_iconst (v := 1) hx hb dX3_oneBy_33 (by decide) ?_
      refine lv_goto (tgt := 38) hx hb dX3_oneBy_34 (by decide) ?_
      exact J38 1 _ _ _ h38 hV14 (lv_sub hl7 [1, 2, 3, 4, 0] rfl)
  · have h10 := ieS c8 h4
    clear h4 c8
    refine lv_iconst (v := (-1)) hx hb dX3_oneBy_15 (by decide) ?_
    obtain ⟨q39, q40⟩ := tup2_s h10
    clear h10
    exact hret _ () _ _ _ _ q39 rfl (by rw [← q40]; exact hV5) dX3_oneBy_16
noncomputable def f_X3_knownDay_L2 (s_many : Int32) (s_days : Nat → Int32) (s_minutes : Nat → Int32) (s_shapes : Nat → Int32) (p1 : Int32) (p2 : Int32)  : Nat → Int32 → (Nat → Int32) → Option (Int32 × (Nat → Int32))
  | 0, _, _ => none
  | n2 + 1, x3_2, gathered__3 =>
    if s_many ≤ x3_2 then
    (some ((-1), gathered__3))
    else
    (rdI s_shapes 40 x3_2 fun v15_9 =>
      if v15_9 = p1 then
      (rdI s_days 40 x3_2 fun v28_20 =>
        cb2 (f_X3_oneBy s_many s_days gathered__3 s_minutes s_shapes p1 p2 v28_20) fun r29_24 o_gathered29_25 =>
        if r29_24 = 1 then
        (rdI s_days 40 x3_2 fun v51_34 =>
          some (v51_34, o_gathered29_25))
        else
        (if r29_24 = 2 then
          (rdI s_days 40 x3_2 fun v51_47 =>
            some (v51_47, o_gathered29_25))
          else
          (nmI (x3_2 + 1) fun v53_43 =>
            (f_X3_knownDay_L2 s_many s_days s_minutes s_shapes p1 p2  n2) v53_43 o_gathered29_25)))
      else
      (nmI (x3_2 + 1) fun v53_16 =>
        (f_X3_knownDay_L2 s_many s_days s_minutes s_shapes p1 p2  n2) v53_16 gathered__3))
noncomputable def f_X3_knownDay (s_many : Int32) (s_days : Nat → Int32) (s_gathered : Nat → Int32) (s_minutes : Nat → Int32) (s_shapes : Nat → Int32) (p1 : Int32) (p2 : Int32) : Option (Int32 × (Nat → Int32)) :=
    (f_X3_knownDay_L2 s_many s_days s_minutes s_shapes p1 p2  FU) 0 s_gathered
abbrev r_X3_knownDay : Room := { frames := 3, cells := 0, slots := 0, locals := 75 }
set_option maxHeartbeats 4000000 in
set_option maxRecDepth 100000 in
theorem c_X3_knownDay (l : Launch) (E : kE) (sz : Nat) (a0 a1 a2 a3 a4 : Nat) (s_many : Int32) (s_days : Nat → Int32) (s_gathered : Nat → Int32) (s_minutes : Nat → Int32) (s_shapes : Nat → Int32) (p1 : Int32) (p2 : Int32) (r : Int32) (o_gathered : Nat → Int32) (h : f_X3_knownDay s_many s_days s_gathered s_minutes s_shapes p1 p2 = some (r, o_gathered)) : kMi l yX3_knownDay cX3_knownDay 5 (some .int) r_X3_knownDay [.ref a0, .int p1, .int p2] E [(a0, .inr (3, [.ref a1, .ref a3, .ref a4, .ref a2, .int s_many])), (a1, .inl (E.2 0, 40, .inl s_days)), (a2, .inl (E.2 0, 40, .inl s_gathered)), (a3, .inl (E.2 0, 40, .inl s_minutes)), (a4, .inl (E.2 0, 40, .inl s_shapes))] sz 0 0 (fun x (_ : Unit) => x = r) (fun _ => [(a0, .inr (3, [.ref a1, .ref a3, .ref a4, .ref a2, .int s_many])), (a1, .inl (E.2 0, 40, .inl s_days)), (a2, .inl (E.2 0, 40, .inl o_gathered)), (a3, .inl (E.2 0, 40, .inl s_minutes)), (a4, .inl (E.2 0, 40, .inl s_shapes))]) := by
  refine kmeti rfl (Nat.le_of_ble_eq_true rfl) ?_
  intro p e s m args below meth c ls A Q X hV hret hl
  have X : kC p s m c cX3_knownDay 5 RX3 args E A := X
  have hx := X.1
  have hb := X.2.1
  have hl : lv_has ls 5 [(0, .ref a0), (1, .int p1), (2, .int p2)] := hl
  rw [f_X3_knownDay] at h
  refine lv_iconst (v := 0) hx hb dX3_knownDay_0 (by decide) ?_
  refine lv_istore_n (lv' := [(3, .int 0), (0, .ref a0), (1, .int p1), (2, .int p2)]) hx hb dX3_knownDay_1 rfl hl (by decide) rfl (fun ls hl1 => ?_)
  clear hl
  have L2 : ∀ (n2 : Nat) (x3_2 : Int32) (gathered__3 : Nat → Int32) (H : Heap) (locs : List Loc) (ls : Array Slot), (f_X3_knownDay_L2 s_many s_days s_minutes s_shapes p1 p2  n2) x3_2 gathered__3 = some (r, o_gathered) → kV E A s.heap H locs [(a0, .inr (3, [.ref a1, .ref a3, .ref a4, .ref a2, .int s_many])), (a1, .inl (E.2 0, 40, .inl s_days)), (a2, .inl (E.2 0, 40, .inl gathered__3)), (a3, .inl (E.2 0, 40, .inl s_minutes)), (a4, .inl (E.2 0, 40, .inl s_shapes))] → lv_has ls 5 [(0, .ref a0), (1, .int p1), (2, .int p2), (3, .int x3_2)] → W p l e r_X3_knownDay s m args below meth c H locs 0 0 Q (F0 m 2 ls []) := by
    intro n2
    induction n2 with
    | zero =>
      intro x3_2 gathered__3 H locs ls hB2 hVB2 hlB2
      rw [f_X3_knownDay_L2] at hB2
      exact nomatch hB2
    | succ n2 ih2 =>
      intro x3_2 gathered__3 H locs ls hB2 hVB2 hlB2
      rw [f_X3_knownDay_L2] at hB2
      refine lv_iload_n hx hb dX3_knownDay_2 rfl (lv_at hlB2 3 rfl) ?_
      refine lv_aload_n hx hb dX3_knownDay_3 rfl (lv_at hlB2 0 rfl) ?_
      refine kget X hVB2 (ci := 3) inlX3 rfl 0 rfl 4 (by decide) mw_104 rfl dX3_knownDay_4 ?_
      refine lv_icmp_ge (tgt := 59) hx hb dX3_knownDay_7 (by decide) (fun c4 => ?_) (fun c4 => ?_)
      · have h5 := itS c4 hB2
        clear hB2 c4
        refine lv_iconst (v := (-1)) hx hb dX3_knownDay_59 (by decide) ?_
        obtain ⟨q7, q8⟩ := tup2_s h5
        clear h5
        exact hret _ () _ _ _ _ q7 rfl (by rw [← q8]; exact hVB2) dX3_knownDay_60
      · have h6 := ieS c4 hB2
        clear hB2 c4
        refine lv_aload_n hx hb dX3_knownDay_10 rfl (lv_at hlB2 0 rfl) ?_
        refine kget X hVB2 (ci := 3) inlX3 rfl 0 rfl 2 (by decide) mw_102 rfl dX3_knownDay_11 ?_
        refine lv_iload_n hx hb dX3_knownDay_14 rfl (lv_at hlB2 3 rfl) ?_
        obtain ⟨hi10, v15_9, e11, h12⟩ := rdI_s h6
        clear h6
        refine kiald X hVB2 4 rfl hi10 e11 dX3_knownDay_15 ?_
        clear hi10 e11
        refine lv_iload_n hx hb dX3_knownDay_16 rfl (lv_at hlB2 1 rfl) ?_
        refine lv_icmp_ne (tgt := 53) hx hb dX3_knownDay_17 (by decide) (fun c13 => ?_) (fun c13 => ?_)
        · have h14 := ieS c13 h12
          clear h12 c13
          obtain ⟨v53_16, e17, h18⟩ := nmI_s h14
          clear h14
          refine lv_iinc (v := v53_16) (lv' := [(3, .int v53_16), (0, .ref a0), (1, .int p1), (2, .int p2)]) hx hb dX3_knownDay_53 hlB2 (k := 3) rfl (by rw [e17]; rfl) (by decide) rfl (fun ls hl19 => ?_)
          clear hlB2 e17
          refine lv_goto (tgt := 2) hx hb dX3_knownDay_56 (by decide) ?_
          exact ih2 v53_16 gathered__3 _ _ _ h18 hVB2 (lv_sub hl19 [1, 2, 3, 0] rfl)
        · have h15 := itS c13 h12
          clear h12 c13
          refine lv_aload_n hx hb dX3_knownDay_20 rfl (lv_at hlB2 0 rfl) ?_
          refine lv_iload_n hx hb dX3_knownDay_21 rfl (lv_at hlB2 1 rfl) ?_
          refine lv_iload_n hx hb dX3_knownDay_22 rfl (lv_at hlB2 2 rfl) ?_
          refine lv_aload_n hx hb dX3_knownDay_23 rfl (lv_at hlB2 0 rfl) ?_
          refine kget X hVB2 (ci := 3) inlX3 rfl 0 rfl 0 (by decide) mw_100 rfl dX3_knownDay_24 ?_
          refine lv_iload_n hx hb dX3_knownDay_27 rfl (lv_at hlB2 3 rfl) ?_
          obtain ⟨hi21, v28_20, e22, h23⟩ := rdI_s h15
          clear h15
          refine kiald X hVB2 1 rfl hi21 e22 dX3_knownDay_28 ?_
          clear hi21 e22
          obtain ⟨r29_24, o_gathered29_25, hc26, h27⟩ := cb2_s h23
          clear h23
          refine kgoiE (krunV (rest := []) X hVB2 [0, 1, 2, 3, 4] (c_X3_oneBy l E _ a0 a1 a2 a3 a4 s_many s_days gathered__3 s_minutes s_shapes p1 p2 v28_20 r29_24 o_gathered29_25 hc26) mw_956 kb_X3_oneBy (ci := 3) rfl rfl (by decide) rfl rfl hlB2.1 rfl (Nat.le_of_ble_eq_true rfl) dX3_knownDay_29 (by decide)) X hVB2 [0, 1, 2, 3, 4] [] rfl rfl rfl (by decide) (fun u H locs hV28 => ?_)
          have hV28 : kV E A s.heap H locs [(a0, .inr (3, [.ref a1, .ref a3, .ref a4, .ref a2, .int s_many])), (a1, .inl (E.2 0, 40, .inl s_days)), (a2, .inl (E.2 0, 40, .inl o_gathered29_25)), (a3, .inl (E.2 0, 40, .inl s_minutes)), (a4, .inl (E.2 0, 40, .inl s_shapes))] := hV28.sub [0, 1, 2, 3, 4] rfl rfl
          clear hVB2
          refine lv_istore (lv' := [(4, .int r29_24), (0, .ref a0), (1, .int p1), (2, .int p2), (3, .int x3_2)]) hx hb dX3_knownDay_32 hlB2 (by decide) rfl (fun ls hl30 => ?_)
          clear hlB2
          refine lv_iload hx hb dX3_knownDay_34 (lv_at hl30 0 rfl) ?_
          refine lv_iconst (v := 1) hx hb dX3_knownDay_36 (by decide) ?_
          refine lv_icmp_eq (tgt := 46) hx hb dX3_knownDay_37 (by decide) (fun c31 => ?_) (fun c31 => ?_)
          · have h32 := itS c31 h27
            clear h27 c31
            refine lv_aload_n hx hb dX3_knownDay_46 rfl (lv_at hl30 1 rfl) ?_
            refine kget X hV28 (ci := 3) inlX3 rfl 0 rfl 0 (by decide) mw_100 rfl dX3_knownDay_47 ?_
            refine lv_iload_n hx hb dX3_knownDay_50 rfl (lv_at hl30 4 rfl) ?_
            obtain ⟨hi35, v51_34, e36, h37⟩ := rdI_s h32
            clear h32
            refine kiald X hV28 1 rfl hi35 e36 dX3_knownDay_51 ?_
            clear hi35 e36
            obtain ⟨q38, q39⟩ := tup2_s h37
            clear h37
            exact hret _ () _ _ _ _ q38 rfl (by rw [← q39]; exact hV28) dX3_knownDay_52
          · have h33 := ieS c31 h27
            clear h27 c31
            refine lv_iload hx hb dX3_knownDay_40 (lv_at hl30 0 rfl) ?_
            refine lv_iconst (v := 2) hx hb dX3_knownDay_42 (by decide) ?_
            refine lv_icmp_ne (tgt := 53) hx hb dX3_knownDay_43 (by decide) (fun c40 => ?_) (fun c40 => ?_)
            · have h41 := ieS c40 h33
              clear h33 c40
              obtain ⟨v53_43, e44, h45⟩ := nmI_s h41
              clear h41
              refine lv_iinc (v := v53_43) (lv' := [(3, .int v53_43), (4, .int r29_24), (0, .ref a0), (1, .int p1), (2, .int p2)]) hx hb dX3_knownDay_53 hl30 (k := 4) rfl (by rw [e44]; rfl) (by decide) rfl (fun ls hl46 => ?_)
              clear hl30 e44
              refine lv_goto (tgt := 2) hx hb dX3_knownDay_56 (by decide) ?_
              exact ih2 v53_43 o_gathered29_25 _ _ _ h45 hV28 (lv_sub hl46 [2, 3, 4, 0] rfl)
            · have h42 := itS c40 h33
              clear h33 c40
              refine lv_aload_n hx hb dX3_knownDay_46 rfl (lv_at hl30 1 rfl) ?_
              refine kget X hV28 (ci := 3) inlX3 rfl 0 rfl 0 (by decide) mw_100 rfl dX3_knownDay_47 ?_
              refine lv_iload_n hx hb dX3_knownDay_50 rfl (lv_at hl30 4 rfl) ?_
              obtain ⟨hi48, v51_47, e49, h50⟩ := rdI_s h42
              clear h42
              refine kiald X hV28 1 rfl hi48 e49 dX3_knownDay_51 ?_
              clear hi48 e49
              obtain ⟨q51, q52⟩ := tup2_s h50
              clear h50
              exact hret _ () _ _ _ _ q51 rfl (by rw [← q52]; exact hV28) dX3_knownDay_52
  exact L2 FU 0 s_gathered _ _ _ h hV (lv_sub hl1 [1, 2, 3, 0] rfl)
noncomputable def f_X3_rowFrom_L6 (s_gathered : Nat → Int32) (p1 : Int32) (p2 : Int32) (p3 : Int32)  : Nat → Int32 → Int32 → Option (Int32)
  | 0, _, _ => none
  | n6 + 1, x4_3, x5_4 =>
    if p2 ≤ x5_4 then
    (some (x4_3))
    else
    (rdI s_gathered 40 x5_4 fun v20_9 =>
      cb1 (f_J9_floorMod_7cf53 (v20_9 - p1) 1440) fun r26_13 =>
      if p3 < r26_13 then
      (nmI (x4_3 + 0) fun v39_21 =>
        nmI (x5_4 + 1) fun v41_25 =>
        (f_X3_rowFrom_L6 s_gathered p1 p2 p3  n6) v39_21 v41_25)
      else
      (nmI (x4_3 + 1) fun v39_29 =>
        nmI (x5_4 + 1) fun v41_33 =>
        (f_X3_rowFrom_L6 s_gathered p1 p2 p3  n6) v39_29 v41_33))
noncomputable def f_X3_rowFrom (s_gathered : Nat → Int32) (p1 : Int32) (p2 : Int32) (p3 : Int32) : Option (Int32) :=
    (f_X3_rowFrom_L6 s_gathered p1 p2 p3  FU) 0 0
abbrev r_X3_rowFrom : Room := { frames := 1, cells := 0, slots := 0, locals := 22 }
set_option maxHeartbeats 4000000 in
set_option maxRecDepth 100000 in
theorem c_X3_rowFrom (l : Launch) (E : kE) (sz : Nat) (a0 a1 : Nat) (w0_0 w0_1 w0_2 w0_4 : Value) (s_gathered : Nat → Int32) (p1 : Int32) (p2 : Int32) (p3 : Int32) (r : Int32) (h : f_X3_rowFrom s_gathered p1 p2 p3 = some (r)) : kMi l yX3_rowFrom cX3_rowFrom 6 (some .int) r_X3_rowFrom [.ref a0, .int p1, .int p2, .int p3] E [(a0, .inr (3, [w0_0, w0_1, w0_2, .ref a1, w0_4])), (a1, .inl (E.2 0, 40, .inl s_gathered))] sz 0 0 (fun x (_ : Unit) => x = r) (fun _ => [(a0, .inr (3, [w0_0, w0_1, w0_2, .ref a1, w0_4])), (a1, .inl (E.2 0, 40, .inl s_gathered))]) := by
  refine kmeti rfl (Nat.le_of_ble_eq_true rfl) ?_
  intro p e s m args below meth c ls A Q X hV hret hl
  have X : kC p s m c cX3_rowFrom 6 RX3 args E A := X
  have hx := X.1
  have hb := X.2.1
  have hl : lv_has ls 6 [(0, .ref a0), (1, .int p1), (2, .int p2), (3, .int p3)] := hl
  rw [f_X3_rowFrom] at h
  refine lv_iconst (v := 0) hx hb dX3_rowFrom_0 (by decide) ?_
  refine lv_istore (lv' := [(4, .int 0), (0, .ref a0), (1, .int p1), (2, .int p2), (3, .int p3)]) hx hb dX3_rowFrom_1 hl (by decide) rfl (fun ls hl1 => ?_)
  clear hl
  refine lv_iconst (v := 0) hx hb dX3_rowFrom_3 (by decide) ?_
  refine lv_istore (lv' := [(5, .int 0), (4, .int 0), (0, .ref a0), (1, .int p1), (2, .int p2), (3, .int p3)]) hx hb dX3_rowFrom_4 hl1 (by decide) rfl (fun ls hl2 => ?_)
  clear hl1
  have L6 : ∀ (n6 : Nat) (x4_3 : Int32) (x5_4 : Int32) (H : Heap) (locs : List Loc) (ls : Array Slot), (f_X3_rowFrom_L6 s_gathered p1 p2 p3  n6) x4_3 x5_4 = some (r) → kV E A s.heap H locs [(a0, .inr (3, [w0_0, w0_1, w0_2, .ref a1, w0_4])), (a1, .inl (E.2 0, 40, .inl s_gathered))] → lv_has ls 6 [(0, .ref a0), (1, .int p1), (2, .int p2), (3, .int p3), (4, .int x4_3), (5, .int x5_4)] → W p l e r_X3_rowFrom s m args below meth c H locs 0 0 Q (F0 m 6 ls []) := by
    intro n6
    induction n6 with
    | zero =>
      intro x4_3 x5_4 H locs ls hB6 hVB6 hlB6
      rw [f_X3_rowFrom_L6] at hB6
      exact nomatch hB6
    | succ n6 ih6 =>
      intro x4_3 x5_4 H locs ls hB6 hVB6 hlB6
      rw [f_X3_rowFrom_L6] at hB6
      refine lv_iload hx hb dX3_rowFrom_6 (lv_at hlB6 5 rfl) ?_
      refine lv_iload_n hx hb dX3_rowFrom_8 rfl (lv_at hlB6 2 rfl) ?_
      refine lv_icmp_ge (tgt := 47) hx hb dX3_rowFrom_9 (by decide) (fun c5 => ?_) (fun c5 => ?_)
      · have h6 := itS c5 hB6
        clear hB6 c5
        refine lv_iload hx hb dX3_rowFrom_47 (lv_at hlB6 4 rfl) ?_
        have q8 := tup1_s h6
        clear h6
        exact hret _ () _ _ _ _ q8 rfl hVB6 dX3_rowFrom_49
      · have h7 := ieS c5 hB6
        clear hB6 c5
        refine lv_iload hx hb dX3_rowFrom_12 (lv_at hlB6 4 rfl) ?_
        refine lv_aload_n hx hb dX3_rowFrom_14 rfl (lv_at hlB6 0 rfl) ?_
        refine kget X hVB6 (ci := 3) inlX3 rfl 0 rfl 3 (by decide) mw_103 rfl dX3_rowFrom_15 ?_
        refine lv_iload hx hb dX3_rowFrom_18 (lv_at hlB6 5 rfl) ?_
        obtain ⟨hi10, v20_9, e11, h12⟩ := rdI_s h7
        clear h7
        refine kiald X hVB6 1 rfl hi10 e11 dX3_rowFrom_20 ?_
        clear hi10 e11
        refine lv_iload_n hx hb dX3_rowFrom_21 rfl (lv_at hlB6 1 rfl) ?_
        refine lv_isub hx hb dX3_rowFrom_22 ?_
        refine lv_sipush (v := 1440) hx hb dX3_rowFrom_23 (by decide) ?_
        obtain ⟨r26_13, hc14, h15⟩ := cb1_s h12
        clear h12
        refine kgoiE (krunS (rest := [.int x4_3]) X hVB6 [] (c_J9_floorMod_7cf53 l E _ (v20_9 - p1) 1440 r26_13 hc14) mw_973 kb_J9_floorMod_7cf53 (by decide) rfl rfl hlB6.1 rfl (Nat.le_of_ble_eq_true rfl) dX3_rowFrom_26 (by decide)) X hVB6 [] [0, 1] rfl rfl rfl (by decide) (fun u H locs hV16 => ?_)
        have hV16 : kV E A s.heap H locs [(a0, .inr (3, [w0_0, w0_1, w0_2, .ref a1, w0_4])), (a1, .inl (E.2 0, 40, .inl s_gathered))] := hV16.sub [0, 1] rfl rfl
        clear hVB6
        refine lv_iload_n hx hb dX3_rowFrom_29 rfl (lv_at hlB6 3 rfl) ?_
        refine lv_icmp_gt (tgt := 37) hx hb dX3_rowFrom_30 (by decide) (fun c18 => ?_) (fun c18 => ?_)
        · have h19 := itS c18 h15
          clear h15 c18
          refine lv_iconst (v := 0) hx hb dX3_rowFrom_37 (by decide) ?_
          refine lv_iadd hx hb dX3_rowFrom_38 ?_
          obtain ⟨v39_21, e22, h23⟩ := nmI_s h19
          clear h19
          refine ktopi e22 ?_
          clear e22
          refine lv_istore (lv' := [(4, .int v39_21), (0, .ref a0), (1, .int p1), (2, .int p2), (3, .int p3), (5, .int x5_4)]) hx hb dX3_rowFrom_39 hlB6 (by decide) rfl (fun ls hl24 => ?_)
          clear hlB6
          obtain ⟨v41_25, e26, h27⟩ := nmI_s h23
          clear h23
          refine lv_iinc (v := v41_25) (lv' := [(5, .int v41_25), (4, .int v39_21), (0, .ref a0), (1, .int p1), (2, .int p2), (3, .int p3)]) hx hb dX3_rowFrom_41 hl24 (k := 5) rfl (by rw [e26]; rfl) (by decide) rfl (fun ls hl28 => ?_)
          clear hl24 e26
          refine lv_goto (tgt := 6) hx hb dX3_rowFrom_44 (by decide) ?_
          exact ih6 v39_21 v41_25 _ _ _ h27 hV16 (lv_sub hl28 [2, 3, 4, 5, 1, 0] rfl)
        · have h20 := ieS c18 h15
          clear h15 c18
          refine lv_iconst (v := 1) hx hb dX3_rowFrom_33 (by decide) ?_
          refine lv_goto (tgt := 38) hx hb dX3_rowFrom_34 (by decide) ?_
          refine lv_iadd hx hb dX3_rowFrom_38 ?_
          obtain ⟨v39_29, e30, h31⟩ := nmI_s h20
          clear h20
          refine ktopi e30 ?_
          clear e30
          refine lv_istore (lv' := [(4, .int v39_29), (0, .ref a0), (1, .int p1), (2, .int p2), (3, .int p3), (5, .int x5_4)]) hx hb dX3_rowFrom_39 hlB6 (by decide) rfl (fun ls hl32 => ?_)
          clear hlB6
          obtain ⟨v41_33, e34, h35⟩ := nmI_s h31
          clear h31
          refine lv_iinc (v := v41_33) (lv' := [(5, .int v41_33), (4, .int v39_29), (0, .ref a0), (1, .int p1), (2, .int p2), (3, .int p3)]) hx hb dX3_rowFrom_41 hl32 (k := 5) rfl (by rw [e34]; rfl) (by decide) rfl (fun ls hl36 => ?_)
          clear hl32 e34
          refine lv_goto (tgt := 6) hx hb dX3_rowFrom_44 (by decide) ?_
          exact ih6 v39_29 v41_33 _ _ _ h35 hV16 (lv_sub hl36 [2, 3, 4, 5, 1, 0] rfl)
  exact L6 FU 0 0 _ _ _ h hV (lv_sub hl2 [2, 3, 4, 5, 1, 0] rfl)
noncomputable def f_X3_longestRow_J88 (p3 : Int32) (r6_1 : Int32) (o_gathered6_2 : Nat → Int32)  (x5_11 : Int32) (x6_12 : Int32) : Option (Int32 × (Nat → Int32)) :=
    if p3 = 0 then
    (if r6_1 ≤ 0 then
      (some (x6_12, o_gathered6_2))
      else
      (some (x5_11, o_gathered6_2)))
    else
    (some (x6_12, o_gathered6_2))
noncomputable def f_X3_longestRow_J69 (o_gathered6_2 : Nat → Int32) (r38_35 : Int32) (K20 : Int32 → Int32 → Int32 → Option (Int32 × (Nat → Int32))) (x7_41 : Int32) : Option (Int32 × (Nat → Int32)) :=
    rdI o_gathered6_2 40 x7_41 fun v79_43 =>
    nmI (x7_41 + 1) fun v82_48 =>
    K20 r38_35 v79_43 v82_48
noncomputable def f_X3_longestRow_L20 (p2 : Int32) (r6_1 : Int32) (o_gathered6_2 : Nat → Int32) (K88 : Int32 → Int32 → Option (Int32 × (Nat → Int32))) : Nat → Int32 → Int32 → Int32 → Option (Int32 × (Nat → Int32))
  | 0, _, _, _ => none
  | n20 + 1, x5_25, x6_26, x7_27 =>
    if r6_1 ≤ x7_27 then
    (K88 x5_25 x6_26)
    else
    (rdI o_gathered6_2 40 x7_27 fun v34_31 =>
      cb1 (f_X3_rowFrom o_gathered6_2 v34_31 r6_1 p2) fun r38_35 =>
      if x5_25 < r38_35 then
      ((f_X3_longestRow_J69 o_gathered6_2 r38_35 (f_X3_longestRow_L20 p2 r6_1 o_gathered6_2 K88 n20)) x7_27)
      else
      (if r38_35 = x5_25 then
        (rdI o_gathered6_2 40 x7_27 fun v63_62 =>
          if x6_26 ≤ v63_62 then
          (nmI (x7_27 + 1) fun v82_69 =>
            (f_X3_longestRow_L20 p2 r6_1 o_gathered6_2 K88 n20) x5_25 x6_26 v82_69)
          else
          ((f_X3_longestRow_J69 o_gathered6_2 r38_35 (f_X3_longestRow_L20 p2 r6_1 o_gathered6_2 K88 n20)) x7_27))
        else
        (nmI (x7_27 + 1) fun v82_58 =>
          (f_X3_longestRow_L20 p2 r6_1 o_gathered6_2 K88 n20) x5_25 x6_26 v82_58)))
noncomputable def f_X3_longestRow (s_many : Int32) (s_days : Nat → Int32) (s_gathered : Nat → Int32) (s_minutes : Nat → Int32) (s_shapes : Nat → Int32) (p1 : Int32) (p2 : Int32) (p3 : Int32) : Option (Int32 × (Nat → Int32)) :=
    cb2 (f_X3_gather s_many s_days s_gathered s_minutes s_shapes p1 400 1) fun r6_1 o_gathered6_2 =>
    (f_X3_longestRow_L20 p2 r6_1 o_gathered6_2 (f_X3_longestRow_J88 p3 r6_1 o_gathered6_2 ) FU) 0 (-1) 0
abbrev r_X3_longestRow : Room := { frames := 2, cells := 0, slots := 0, locals := 47 }
set_option maxHeartbeats 4000000 in
set_option maxRecDepth 100000 in
theorem c_X3_longestRow (l : Launch) (E : kE) (sz : Nat) (a0 a1 a2 a3 a4 : Nat) (s_many : Int32) (s_days : Nat → Int32) (s_gathered : Nat → Int32) (s_minutes : Nat → Int32) (s_shapes : Nat → Int32) (p1 : Int32) (p2 : Int32) (p3 : Int32) (r : Int32) (o_gathered : Nat → Int32) (h : f_X3_longestRow s_many s_days s_gathered s_minutes s_shapes p1 p2 p3 = some (r, o_gathered)) : kMi l yX3_longestRow cX3_longestRow 9 (some .int) r_X3_longestRow [.ref a0, .int p1, .int p2, .int p3] E [(a0, .inr (3, [.ref a1, .ref a3, .ref a4, .ref a2, .int s_many])), (a1, .inl (E.2 0, 40, .inl s_days)), (a2, .inl (E.2 0, 40, .inl s_gathered)), (a3, .inl (E.2 0, 40, .inl s_minutes)), (a4, .inl (E.2 0, 40, .inl s_shapes))] sz 0 0 (fun x (_ : Unit) => x = r) (fun _ => [(a0, .inr (3, [.ref a1, .ref a3, .ref a4, .ref a2, .int s_many])), (a1, .inl (E.2 0, 40, .inl s_days)), (a2, .inl (E.2 0, 40, .inl o_gathered)), (a3, .inl (E.2 0, 40, .inl s_minutes)), (a4, .inl (E.2 0, 40, .inl s_shapes))]) := by
  refine kmeti rfl (Nat.le_of_ble_eq_true rfl) ?_
  intro p e s m args below meth c ls A Q X hV hret hl
  have X : kC p s m c cX3_longestRow 9 RX3 args E A := X
  have hx := X.1
  have hb := X.2.1
  have hl : lv_has ls 9 [(0, .ref a0), (1, .int p1), (2, .int p2), (3, .int p3)] := hl
  rw [f_X3_longestRow] at h
  refine lv_aload_n hx hb dX3_longestRow_0 rfl (lv_at hl 0 rfl) ?_
  refine lv_iload_n hx hb dX3_longestRow_1 rfl (lv_at hl 1 rfl) ?_
  refine lv_sipush (v := 400) hx hb dX3_longestRow_2 (by decide) ?_
  refine lv_iconst (v := 1) hx hb dX3_longestRow_5 (by decide) ?_
  obtain ⟨r6_1, o_gathered6_2, hc3, h4⟩ := cb2_s h
  clear h
  refine kgoiE (krunV (rest := []) X hV [0, 1, 2, 3, 4] (c_X3_gather l E _ a0 a1 a2 a3 a4 s_many s_days s_gathered s_minutes s_shapes p1 400 1 r6_1 o_gathered6_2 hc3) mw_908 kb_X3_gather (ci := 3) rfl rfl (by decide) rfl rfl hl.1 rfl (Nat.le_of_ble_eq_true rfl) dX3_longestRow_6 (by decide)) X hV [0, 1, 2, 3, 4] [] rfl rfl rfl (by decide) (fun u H locs hV5 => ?_)
  have hV5 : kV E A s.heap H locs [(a0, .inr (3, [.ref a1, .ref a3, .ref a4, .ref a2, .int s_many])), (a1, .inl (E.2 0, 40, .inl s_days)), (a2, .inl (E.2 0, 40, .inl o_gathered6_2)), (a3, .inl (E.2 0, 40, .inl s_minutes)), (a4, .inl (E.2 0, 40, .inl s_shapes))] := hV5.sub [0, 1, 2, 3, 4] rfl rfl
  clear hV
  refine lv_istore (lv' := [(4, .int r6_1), (0, .ref a0), (1, .int p1), (2, .int p2), (3, .int p3)]) hx hb dX3_longestRow_9 hl (by decide) rfl (fun ls hl7 => ?_)
  clear hl
  refine lv_iconst (v := 0) hx hb dX3_longestRow_11 (by decide) ?_
  refine lv_istore (lv' := [(5, .int 0), (4, .int r6_1), (0, .ref a0), (1, .int p1), (2, .int p2), (3, .int p3)]) hx hb dX3_longestRow_12 hl7 (by decide) rfl (fun ls hl8 => ?_)
  clear hl7
  refine lv_iconst (v := (-1)) hx hb dX3_longestRow_14 (by decide) ?_
  refine lv_istore (lv' := [(6, .int (-1)), (5, .int 0), (4, .int r6_1), (0, .ref a0), (1, .int p1), (2, .int p2), (3, .int p3)]) hx hb dX3_longestRow_15 hl8 (by decide) rfl (fun ls hl9 => ?_)
  clear hl8
  refine lv_iconst (v := 0) hx hb dX3_longestRow_17 (by decide) ?_
  refine lv_istore (lv' := [(7, .int 0), (6, .int (-1)), (5, .int 0), (4, .int r6_1), (0, .ref a0), (1, .int p1), (2, .int p2), (3, .int p3)]) hx hb dX3_longestRow_18 hl9 (by decide) rfl (fun ls hl10 => ?_)
  clear hl9
  have J88 : ∀ (x5_11 : Int32) (x6_12 : Int32) (H : Heap) (locs : List Loc) (ls : Array Slot), (f_X3_longestRow_J88 p3 r6_1 o_gathered6_2 ) x5_11 x6_12 = some (r, o_gathered) → kV E A s.heap H locs [(a0, .inr (3, [.ref a1, .ref a3, .ref a4, .ref a2, .int s_many])), (a1, .inl (E.2 0, 40, .inl s_days)), (a2, .inl (E.2 0, 40, .inl o_gathered6_2)), (a3, .inl (E.2 0, 40, .inl s_minutes)), (a4, .inl (E.2 0, 40, .inl s_shapes))] → lv_has ls 9 [(3, .int p3), (4, .int r6_1), (5, .int x5_11), (6, .int x6_12)] → W p l e r_X3_longestRow s m args below meth c H locs 0 0 Q (F0 m 88 ls []) := by
    intro x5_11 x6_12 H locs ls hB88 hVB88 hlB88
    rw [f_X3_longestRow_J88] at hB88
    refine lv_iload_n hx hb dX3_longestRow_88 rfl (lv_at hlB88 0 rfl) ?_
    refine lv_if_ne (tgt := 102) hx hb dX3_longestRow_89 (by decide) (fun c13 => ?_) (fun c13 => ?_)
    · have h14 := ieS c13 hB88
      clear hB88 c13
      refine lv_iload hx hb dX3_longestRow_102 (lv_at hlB88 3 rfl) ?_
      obtain ⟨q16, q17⟩ := tup2_s h14
      clear h14
      exact hret _ () _ _ _ _ q16 rfl (by rw [← q17]; exact hVB88) dX3_longestRow_104
    · have h15 := itS c13 hB88
      clear hB88 c13
      refine lv_iload hx hb dX3_longestRow_92 (lv_at hlB88 1 rfl) ?_
      refine lv_if_le (tgt := 102) hx hb dX3_longestRow_94 (by decide) (fun c18 => ?_) (fun c18 => ?_)
      · have h19 := itS c18 h15
        clear h15 c18
        refine lv_iload hx hb dX3_longestRow_102 (lv_at hlB88 3 rfl) ?_
        obtain ⟨q21, q22⟩ := tup2_s h19
        clear h19
        exact hret _ () _ _ _ _ q21 rfl (by rw [← q22]; exact hVB88) dX3_longestRow_104
      · have h20 := ieS c18 h15
        clear h15 c18
        refine lv_iload hx hb dX3_longestRow_97 (lv_at hlB88 2 rfl) ?_
        refine lv_goto (tgt := 104) hx hb dX3_longestRow_99 (by decide) ?_
        obtain ⟨q23, q24⟩ := tup2_s h20
        clear h20
        exact hret _ () _ _ _ _ q23 rfl (by rw [← q24]; exact hVB88) dX3_longestRow_104
  have L20 : ∀ (n20 : Nat) (x5_25 : Int32) (x6_26 : Int32) (x7_27 : Int32) (H : Heap) (locs : List Loc) (ls : Array Slot), (f_X3_longestRow_L20 p2 r6_1 o_gathered6_2 (f_X3_longestRow_J88 p3 r6_1 o_gathered6_2 ) n20) x5_25 x6_26 x7_27 = some (r, o_gathered) → kV E A s.heap H locs [(a0, .inr (3, [.ref a1, .ref a3, .ref a4, .ref a2, .int s_many])), (a1, .inl (E.2 0, 40, .inl s_days)), (a2, .inl (E.2 0, 40, .inl o_gathered6_2)), (a3, .inl (E.2 0, 40, .inl s_minutes)), (a4, .inl (E.2 0, 40, .inl s_shapes))] → lv_has ls 9 [(0, .ref a0), (2, .int p2), (3, .int p3), (4, .int r6_1), (5, .int x5_25), (6, .int x6_26), (7, .int x7_27)] → W p l e r_X3_longestRow s m args below meth c H locs 0 0 Q (F0 m 20 ls []) := by
    intro n20
    induction n20 with
    | zero =>
      intro x5_25 x6_26 x7_27 H locs ls hB20 hVB20 hlB20
      rw [f_X3_longestRow_L20] at hB20
      exact nomatch hB20
    | succ n20 ih20 =>
      intro x5_25 x6_26 x7_27 H locs ls hB20 hVB20 hlB20
      rw [f_X3_longestRow_L20] at hB20
      refine lv_iload hx hb dX3_longestRow_20 (lv_at hlB20 6 rfl) ?_
      refine lv_iload hx hb dX3_longestRow_22 (lv_at hlB20 3 rfl) ?_
      refine lv_icmp_ge (tgt := 88) hx hb dX3_longestRow_24 (by decide) (fun c28 => ?_) (fun c28 => ?_)
      · have h29 := itS c28 hB20
        clear hB20 c28
        exact J88 x5_25 x6_26 _ _ _ h29 hVB20 (lv_sub hlB20 [2, 3, 4, 5] rfl)
      · have h30 := ieS c28 hB20
        clear hB20 c28
        refine lv_aload_n hx hb dX3_longestRow_27 rfl (lv_at hlB20 0 rfl) ?_
        refine lv_aload_n hx hb dX3_longestRow_28 rfl (lv_at hlB20 0 rfl) ?_
        refine kget X hVB20 (ci := 3) inlX3 rfl 0 rfl 3 (by decide) mw_103 rfl dX3_longestRow_29 ?_
        refine lv_iload hx hb dX3_longestRow_32 (lv_at hlB20 6 rfl) ?_
        obtain ⟨hi32, v34_31, e33, h34⟩ := rdI_s h30
        clear h30
        refine kiald X hVB20 2 rfl hi32 e33 dX3_longestRow_34 ?_
        clear hi32 e33
        refine lv_iload hx hb dX3_longestRow_35 (lv_at hlB20 3 rfl) ?_
        refine lv_iload_n hx hb dX3_longestRow_37 rfl (lv_at hlB20 1 rfl) ?_
        obtain ⟨r38_35, hc36, h37⟩ := cb1_s h34
        clear h34
        refine kgoiE (krunV (rest := []) X hVB20 [0, 2] (c_X3_rowFrom l E _ a0 a2 (.ref a1) (.ref a3) (.ref a4) (.int s_many) o_gathered6_2 v34_31 r6_1 p2 r38_35 hc36) mw_969 kb_X3_rowFrom (ci := 3) rfl rfl (by decide) rfl rfl hlB20.1 rfl (Nat.le_of_ble_eq_true rfl) dX3_longestRow_38 (by decide)) X hVB20 [0, 2] [1, 3, 4] rfl rfl rfl (by decide) (fun u H locs hV38 => ?_)
        have hV38 : kV E A s.heap H locs [(a0, .inr (3, [.ref a1, .ref a3, .ref a4, .ref a2, .int s_many])), (a1, .inl (E.2 0, 40, .inl s_days)), (a2, .inl (E.2 0, 40, .inl o_gathered6_2)), (a3, .inl (E.2 0, 40, .inl s_minutes)), (a4, .inl (E.2 0, 40, .inl s_shapes))] := hV38.sub [3, 0, 4, 1, 2] rfl rfl
        clear hVB20
        refine lv_istore (lv' := [(8, .int r38_35), (0, .ref a0), (2, .int p2), (3, .int p3), (4, .int r6_1), (5, .int x5_25), (6, .int x6_26), (7, .int x7_27)]) hx hb dX3_longestRow_41 hlB20 (by decide) rfl (fun ls hl40 => ?_)
        clear hlB20
        refine lv_iload hx hb dX3_longestRow_43 (lv_at hl40 0 rfl) ?_
        refine lv_iload hx hb dX3_longestRow_45 (lv_at hl40 5 rfl) ?_
        have J69 : ∀ (x7_41 : Int32) (H : Heap) (locs : List Loc) (ls : Array Slot), (f_X3_longestRow_J69 o_gathered6_2 r38_35 (f_X3_longestRow_L20 p2 r6_1 o_gathered6_2 (f_X3_longestRow_J88 p3 r6_1 o_gathered6_2 ) n20)) x7_41 = some (r, o_gathered) → kV E A s.heap H locs [(a0, .inr (3, [.ref a1, .ref a3, .ref a4, .ref a2, .int s_many])), (a1, .inl (E.2 0, 40, .inl s_days)), (a2, .inl (E.2 0, 40, .inl o_gathered6_2)), (a3, .inl (E.2 0, 40, .inl s_minutes)), (a4, .inl (E.2 0, 40, .inl s_shapes))] → lv_has ls 9 [(0, .ref a0), (2, .int p2), (3, .int p3), (4, .int r6_1), (7, .int x7_41), (8, .int r38_35)] → W p l e r_X3_longestRow s m args below meth c H locs 0 0 Q (F0 m 69 ls []) := by
          intro x7_41 H locs ls hB69 hVB69 hlB69
          rw [f_X3_longestRow_J69] at hB69
          refine lv_iload hx hb dX3_longestRow_69 (lv_at hlB69 5 rfl) ?_
          refine lv_istore (lv' := [(5, .int r38_35), (0, .ref a0), (2, .int p2), (3, .int p3), (4, .int r6_1), (7, .int x7_41), (8, .int r38_35)]) hx hb dX3_longestRow_71 hlB69 (by decide) rfl (fun ls hl42 => ?_)
          clear hlB69
          refine lv_aload_n hx hb dX3_longestRow_73 rfl (lv_at hl42 1 rfl) ?_
          refine kget X hVB69 (ci := 3) inlX3 rfl 0 rfl 3 (by decide) mw_103 rfl dX3_longestRow_74 ?_
          refine lv_iload hx hb dX3_longestRow_77 (lv_at hl42 5 rfl) ?_
          obtain ⟨hi44, v79_43, e45, h46⟩ := rdI_s hB69
          clear hB69
          refine kiald X hVB69 2 rfl hi44 e45 dX3_longestRow_79 ?_
          clear hi44 e45
          refine lv_istore (lv' := [(6, .int v79_43), (5, .int r38_35), (0, .ref a0), (2, .int p2), (3, .int p3), (4, .int r6_1), (7, .int x7_41), (8, .int r38_35)]) hx hb dX3_longestRow_80 hl42 (by decide) rfl (fun ls hl47 => ?_)
          clear hl42
          obtain ⟨v82_48, e49, h50⟩ := nmI_s h46
          clear h46
          refine lv_iinc (v := v82_48) (lv' := [(7, .int v82_48), (6, .int v79_43), (5, .int r38_35), (0, .ref a0), (2, .int p2), (3, .int p3), (4, .int r6_1), (8, .int r38_35)]) hx hb dX3_longestRow_82 hl47 (k := 6) rfl (by rw [e49]; rfl) (by decide) rfl (fun ls hl51 => ?_)
          clear hl47 e49
          refine lv_goto (tgt := 20) hx hb dX3_longestRow_85 (by decide) ?_
          exact ih20 r38_35 v79_43 v82_48 _ _ _ h50 hVB69 (lv_sub hl51 [3, 4, 5, 6, 2, 1, 0] rfl)
        refine lv_icmp_gt (tgt := 69) hx hb dX3_longestRow_47 (by decide) (fun c52 => ?_) (fun c52 => ?_)
        · have h53 := itS c52 h37
          clear h37 c52
          exact J69 x7_27 _ _ _ h53 hV38 (lv_sub hl40 [1, 2, 3, 4, 7, 0] rfl)
        · have h54 := ieS c52 h37
          clear h37 c52
          refine lv_iload hx hb dX3_longestRow_50 (lv_at hl40 0 rfl) ?_
          refine lv_iload hx hb dX3_longestRow_52 (lv_at hl40 5 rfl) ?_
          refine lv_icmp_ne (tgt := 82) hx hb dX3_longestRow_54 (by decide) (fun c55 => ?_) (fun c55 => ?_)
          · have h56 := ieS c55 h54
            clear h54 c55
            obtain ⟨v82_58, e59, h60⟩ := nmI_s h56
            clear h56
            refine lv_iinc (v := v82_58) (lv' := [(7, .int v82_58), (8, .int r38_35), (0, .ref a0), (2, .int p2), (3, .int p3), (4, .int r6_1), (5, .int x5_25), (6, .int x6_26)]) hx hb dX3_longestRow_82 hl40 (k := 7) rfl (by rw [e59]; rfl) (by decide) rfl (fun ls hl61 => ?_)
            clear hl40 e59
            refine lv_goto (tgt := 20) hx hb dX3_longestRow_85 (by decide) ?_
            exact ih20 x5_25 x6_26 v82_58 _ _ _ h60 hV38 (lv_sub hl61 [2, 3, 4, 5, 6, 7, 0] rfl)
          · have h57 := itS c55 h54
            clear h54 c55
            refine lv_aload_n hx hb dX3_longestRow_57 rfl (lv_at hl40 1 rfl) ?_
            refine kget X hV38 (ci := 3) inlX3 rfl 0 rfl 3 (by decide) mw_103 rfl dX3_longestRow_58 ?_
            refine lv_iload hx hb dX3_longestRow_61 (lv_at hl40 7 rfl) ?_
            obtain ⟨hi63, v63_62, e64, h65⟩ := rdI_s h57
            clear h57
            refine kiald X hV38 2 rfl hi63 e64 dX3_longestRow_63 ?_
            clear hi63 e64
            refine lv_iload hx hb dX3_longestRow_64 (lv_at hl40 6 rfl) ?_
            refine lv_icmp_ge (tgt := 82) hx hb dX3_longestRow_66 (by decide) (fun c66 => ?_) (fun c66 => ?_)
            · have h67 := itS c66 h65
              clear h65 c66
              obtain ⟨v82_69, e70, h71⟩ := nmI_s h67
              clear h67
              refine lv_iinc (v := v82_69) (lv' := [(7, .int v82_69), (8, .int r38_35), (0, .ref a0), (2, .int p2), (3, .int p3), (4, .int r6_1), (5, .int x5_25), (6, .int x6_26)]) hx hb dX3_longestRow_82 hl40 (k := 7) rfl (by rw [e70]; rfl) (by decide) rfl (fun ls hl72 => ?_)
              clear hl40 e70
              refine lv_goto (tgt := 20) hx hb dX3_longestRow_85 (by decide) ?_
              exact ih20 x5_25 x6_26 v82_69 _ _ _ h71 hV38 (lv_sub hl72 [2, 3, 4, 5, 6, 7, 0] rfl)
            · have h68 := ieS c66 h65
              clear h65 c66
              exact J69 x7_27 _ _ _ h68 hV38 (lv_sub hl40 [1, 2, 3, 4, 7, 0] rfl)
  exact L20 FU 0 (-1) 0 _ _ _ h4 hV5 (lv_sub hl10 [4, 6, 7, 3, 2, 1, 0] rfl)
