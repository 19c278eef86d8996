abbrev r_X12_worked : Room := { frames := 0, cells := 0, slots := 0, locals := 0 }
set_option maxHeartbeats 4000000 in
set_option maxRecDepth 100000 in
theorem c_X12_worked (l : Launch) (E : kE) (sz : Nat) (p1 : Int32) (p2 : Int32) (p3 : Int32) (r : Int32) (h : f_X12_worked p1 p2 p3 = some (r)) : kMi l yX12_worked cX12_worked 3 (some .int) r_X12_worked [.int p1, .int p2, .int p3] E [] sz 0 0 (fun x (_ : Unit) => x = r) (fun _ => []) := by
  refine kmeti rfl (Nat.le_of_ble_eq_true rfl) ?_
  intro p e s m args below meth c ls A Q X hV hret hl
  have X : kC p s m c cX12_worked 3 RX12 args E A := X
  have hx := X.1
  have hb := X.2.1
  have hl : lv_has ls 3 [(0, .int p1), (1, .int p2), (2, .int p3)] := hl
  rw [f_X12_worked] at h
  refine lv_iload_n hx hb dX12_worked_0 rfl (lv_at hl 0 rfl) ?_
  by_cases c1 : p1 = 37
  · have h2 := itS c1 h
    refine lv_lookup (tgt := 92) (off := 91) hx hb dX12_worked_1 (by decide) (by rw [c1]; decide) (by decide) ?_
    clear h
    refine lv_iload_n hx hb dX12_worked_92 rfl (lv_at hl 2 rfl) ?_
    refine lv_if_ne (tgt := 100) hx hb dX12_worked_93 (by decide) (fun c3 => ?_) (fun c3 => ?_)
    · have h4 := ieS c3 h2
      clear h2 c3
      refine lv_iload_n hx hb dX12_worked_100 rfl (lv_at hl 1 rfl) ?_
      refine lv_iload_n hx hb dX12_worked_101 rfl (lv_at hl 2 rfl) ?_
      obtain ⟨hn6, h7⟩ := dvI_s h4
      clear h4
      refine lv_irem hx hb dX12_worked_102 hn6 ?_
      have q8 := tup1_s h7
      clear h7
      exact hret _ () _ _ _ _ q8 rfl hV dX12_worked_103
    · have h5 := itS c3 h2
      clear h2 c3
      refine lv_iconst (v := 0) hx hb dX12_worked_96 (by decide) ?_
      refine lv_goto (tgt := 103) hx hb dX12_worked_97 (by decide) ?_
      have q9 := tup1_s h5
      clear h5
      exact hret _ () _ _ _ _ q9 rfl hV dX12_worked_103
  · have h10 := ieS c1 h
    clear h
    by_cases c11 : p1 = 42
    · have h12 := itS c11 h10
      refine lv_lookup (tgt := 76) (off := 75) hx hb dX12_worked_1 (by decide) (by rw [c11]; decide) (by decide) ?_
      clear h10
      refine lv_iload_n hx hb dX12_worked_76 rfl (lv_at hl 1 rfl) ?_
      refine lv_iload_n hx hb dX12_worked_77 rfl (lv_at hl 2 rfl) ?_
      refine lv_imul hx hb dX12_worked_78 ?_
      have q13 := tup1_s h12
      clear h12
      exact hret _ () _ _ _ _ q13 rfl hV dX12_worked_79
    · have h14 := ieS c11 h10
      clear h10
      by_cases c15 : p1 = 43
      · have h16 := itS c15 h14
        refine lv_lookup (tgt := 68) (off := 67) hx hb dX12_worked_1 (by decide) (by rw [c15]; decide) (by decide) ?_
        clear h14
        refine lv_iload_n hx hb dX12_worked_68 rfl (lv_at hl 1 rfl) ?_
        refine lv_iload_n hx hb dX12_worked_69 rfl (lv_at hl 2 rfl) ?_
        refine lv_iadd hx hb dX12_worked_70 ?_
        have q17 := tup1_s h16
        clear h16
        exact hret _ () _ _ _ _ q17 rfl hV dX12_worked_71
      · have h18 := ieS c15 h14
        clear h14
        by_cases c19 : p1 = 45
        · have h20 := itS c19 h18
          refine lv_lookup (tgt := 72) (off := 71) hx hb dX12_worked_1 (by decide) (by rw [c19]; decide) (by decide) ?_
          clear h18
          refine lv_iload_n hx hb dX12_worked_72 rfl (lv_at hl 1 rfl) ?_
          refine lv_iload_n hx hb dX12_worked_73 rfl (lv_at hl 2 rfl) ?_
          refine lv_isub hx hb dX12_worked_74 ?_
          have q21 := tup1_s h20
          clear h20
          exact hret _ () _ _ _ _ q21 rfl hV dX12_worked_75
        · have h22 := ieS c19 h18
          clear h18
          by_cases c23 : p1 = 47
          · have h24 := itS c23 h22
            refine lv_lookup (tgt := 80) (off := 79) hx hb dX12_worked_1 (by decide) (by rw [c23]; decide) (by decide) ?_
            clear h22
            refine lv_iload_n hx hb dX12_worked_80 rfl (lv_at hl 2 rfl) ?_
            refine lv_if_ne (tgt := 88) hx hb dX12_worked_81 (by decide) (fun c25 => ?_) (fun c25 => ?_)
            · have h26 := ieS c25 h24
              clear h24 c25
              refine lv_iload_n hx hb dX12_worked_88 rfl (lv_at hl 1 rfl) ?_
              refine lv_iload_n hx hb dX12_worked_89 rfl (lv_at hl 2 rfl) ?_
              obtain ⟨hn28, h29⟩ := dvI_s h26
              clear h26
              refine lv_idiv hx hb dX12_worked_90 hn28 ?_
              have q30 := tup1_s h29
              clear h29
              exact hret _ () _ _ _ _ q30 rfl hV dX12_worked_91
            · have h27 := itS c25 h24
              clear h24 c25
              refine lv_iconst (v := 0) hx hb dX12_worked_84 (by decide) ?_
              refine lv_goto (tgt := 91) hx hb dX12_worked_85 (by decide) ?_
              have q31 := tup1_s h27
              clear h27
              exact hret _ () _ _ _ _ q31 rfl hV dX12_worked_91
          · have h32 := ieS c23 h22
            clear h22
            by_cases c33 : p1 = 60
            · have h34 := itS c33 h32
              refine lv_lookup (tgt := 104) (off := 103) hx hb dX12_worked_1 (by decide) (by rw [c33]; decide) (by decide) ?_
              clear h32
              refine lv_iload_n hx hb dX12_worked_104 rfl (lv_at hl 1 rfl) ?_
              refine lv_iload_n hx hb dX12_worked_105 rfl (lv_at hl 2 rfl) ?_
              refine lv_icmp_ge (tgt := 113) hx hb dX12_worked_106 (by decide) (fun c35 => ?_) (fun c35 => ?_)
              · have h36 := itS c35 h34
                clear h34 c35
                refine lv_iconst (v := 0) hx hb dX12_worked_113 (by decide) ?_
                have q38 := tup1_s h36
                clear h36
                exact hret _ () _ _ _ _ q38 rfl hV dX12_worked_114
              · have h37 := ieS c35 h34
                clear h34 c35
                refine lv_iconst (v := 1) hx hb dX12_worked_109 (by decide) ?_
                refine lv_goto (tgt := 114) hx hb dX12_worked_110 (by decide) ?_
                have q39 := tup1_s h37
                clear h37
                exact hret _ () _ _ _ _ q39 rfl hV dX12_worked_114
            · have h40 := ieS c33 h32
              clear h32
              by_cases c41 : p1 = 62
              · have h42 := itS c41 h40
                refine lv_lookup (tgt := 115) (off := 114) hx hb dX12_worked_1 (by decide) (by rw [c41]; decide) (by decide) ?_
                clear h40
                refine lv_iload_n hx hb dX12_worked_115 rfl (lv_at hl 1 rfl) ?_
                refine lv_iload_n hx hb dX12_worked_116 rfl (lv_at hl 2 rfl) ?_
                refine lv_icmp_le (tgt := 124) hx hb dX12_worked_117 (by decide) (fun c43 => ?_) (fun c43 => ?_)
                · have h44 := itS c43 h42
                  clear h42 c43
                  refine lv_iconst (v := 0) hx hb dX12_worked_124 (by decide) ?_
                  have q46 := tup1_s h44
                  clear h44
                  exact hret _ () _ _ _ _ q46 rfl hV dX12_worked_125
                · have h45 := ieS c43 h42
                  clear h42 c43
                  refine lv_iconst (v := 1) hx hb dX12_worked_120 (by decide) ?_
                  refine lv_goto (tgt := 125) hx hb dX12_worked_121 (by decide) ?_
                  have q47 := tup1_s h45
                  clear h45
                  exact hret _ () _ _ _ _ q47 rfl hV dX12_worked_125
              · have h48 := ieS c41 h40
                clear h40
                refine lv_lookup (tgt := 126) (off := 125) hx hb dX12_worked_1 (by decide) (by refine (lv_osw c1 (by decide)).trans ?_; refine (lv_osw c11 (by decide)).trans ?_; refine (lv_osw c15 (by decide)).trans ?_; refine (lv_osw c19 (by decide)).trans ?_; refine (lv_osw c23 (by decide)).trans ?_; refine (lv_osw c33 (by decide)).trans ?_; refine (lv_osw c41 (by decide)).trans ?_; rfl) (by decide) ?_
                refine lv_iload_n hx hb dX12_worked_126 rfl (lv_at hl 1 rfl) ?_
                refine lv_iload_n hx hb dX12_worked_127 rfl (lv_at hl 2 rfl) ?_
                refine lv_icmp_ne (tgt := 135) hx hb dX12_worked_128 (by decide) (fun c49 => ?_) (fun c49 => ?_)
                · have h50 := ieS c49 h48
                  clear h48 c49
                  refine lv_iconst (v := 0) hx hb dX12_worked_135 (by decide) ?_
                  have q52 := tup1_s h50
                  clear h50
                  exact hret _ () _ _ _ _ q52 rfl hV dX12_worked_136
                · have h51 := itS c49 h48
                  clear h48 c49
                  refine lv_iconst (v := 1) hx hb dX12_worked_131 (by decide) ?_
                  refine lv_goto (tgt := 136) hx hb dX12_worked_132 (by decide) ?_
                  have q53 := tup1_s h51
                  clear h51
                  exact hret _ () _ _ _ _ q53 rfl hV dX12_worked_136
abbrev r_X12_does : Room := { frames := 1, cells := 0, slots := 0, locals := 22 }
set_option maxHeartbeats 4000000 in
set_option maxRecDepth 100000 in
theorem c_X12_does (l : Launch) (E : kE) (sz : Nat) (a0 a1 a2 : Nat) (w0_0 w0_1 w0_2 w0_3 w0_4 w0_5 w0_6 w0_7 w0_8 w0_9 w0_10 w0_11 w0_12 w0_13 w0_14 w0_15 w0_16 w0_17 w0_18 w0_19 w0_20 w0_21 w0_22 w0_23 w0_24 w0_25 w0_26 w0_27 w0_28 w0_29 w0_30 w0_31 w0_32 w0_33 w0_34 w0_35 w0_36 w0_37 w0_38 w0_39 w0_40 w0_43 w0_44 w0_45 w0_46 w0_47 w0_48 w0_49 w0_50 w0_51 w0_52 w0_53 w0_54 w0_55 w0_56 w0_57 w0_58 w0_59 w0_60 w0_61 w0_62 w0_63 w0_64 w0_65 w0_66 : Value) (s_isRefused : Nat → Int32) (s_worth : Nat → Int32) (p1 : Int32) (p2 : Int32) (o_isRefused : Nat → Int32) (o_worth : Nat → Int32) (h : f_X12_does s_isRefused s_worth p1 p2 = some (o_isRefused, o_worth)) : kMv l yX12_does cX12_does 4 r_X12_does [.ref a0, .int p1, .int p2] E [(a0, .inr (12, [w0_0, w0_1, w0_2, w0_3, w0_4, w0_5, w0_6, w0_7, w0_8, w0_9, w0_10, w0_11, w0_12, w0_13, w0_14, w0_15, w0_16, w0_17, w0_18, w0_19, w0_20, w0_21, w0_22, w0_23, w0_24, w0_25, w0_26, w0_27, w0_28, w0_29, w0_30, w0_31, w0_32, w0_33, w0_34, w0_35, w0_36, w0_37, w0_38, w0_39, w0_40, .ref a2, .ref a1, w0_43, w0_44, w0_45, w0_46, w0_47, w0_48, w0_49, w0_50, w0_51, w0_52, w0_53, w0_54, w0_55, w0_56, w0_57, w0_58, w0_59, w0_60, w0_61, w0_62, w0_63, w0_64, w0_65, w0_66])), (a1, .inl (E.2 2, 200, .inl s_isRefused)), (a2, .inl (E.2 0, 200, .inl s_worth))] sz 0 0 (fun (_ : Unit) => True) (fun _ => [(a0, .inr (12, [w0_0, w0_1, w0_2, w0_3, w0_4, w0_5, w0_6, w0_7, w0_8, w0_9, w0_10, w0_11, w0_12, w0_13, w0_14, w0_15, w0_16, w0_17, w0_18, w0_19, w0_20, w0_21, w0_22, w0_23, w0_24, w0_25, w0_26, w0_27, w0_28, w0_29, w0_30, w0_31, w0_32, w0_33, w0_34, w0_35, w0_36, w0_37, w0_38, w0_39, w0_40, .ref a2, .ref a1, w0_43, w0_44, w0_45, w0_46, w0_47, w0_48, w0_49, w0_50, w0_51, w0_52, w0_53, w0_54, w0_55, w0_56, w0_57, w0_58, w0_59, w0_60, w0_61, w0_62, w0_63, w0_64, w0_65, w0_66])), (a1, .inl (E.2 2, 200, .inl o_isRefused)), (a2, .inl (E.2 0, 200, .inl o_worth))]) := by
  refine kmetv rfl (Nat.le_of_ble_eq_true rfl) ?_
  intro p e s m args below meth c ls A Q X hnm hV hret hl
  have X : kC p s m c cX12_does 4 RX12 args E A := X
  have hx := X.1
  have hb := X.2.1
  have hl : lv_has ls 4 [(0, .ref a0), (1, .int p1), (2, .int p2)] := hl
  rw [f_X12_does] at h
  refine lv_iload_n hx hb dX12_does_0 rfl (lv_at hl 2 rfl) ?_
  refine lv_iconst (v := 1) hx hb dX12_does_1 (by decide) ?_
  refine lv_iadd hx hb dX12_does_2 ?_
  obtain ⟨v3_1, e2, h3⟩ := nmI_s h
  clear h
  refine ktopi e2 ?_
  clear e2
  refine lv_istore_n (lv' := [(3, .int v3_1), (0, .ref a0), (1, .int p1), (2, .int p2)]) hx hb dX12_does_3 rfl hl (by decide) rfl (fun ls hl4 => ?_)
  clear hl
  refine lv_iload_n hx hb dX12_does_4 rfl (lv_at hl4 2 rfl) ?_
  refine lv_bipush (v := 38) hx hb dX12_does_5 (by decide) ?_
  have J16 : ∀ (isRefused__5 : Nat → Int32) (worth__6 : Nat → Int32) (H : Heap) (locs : List Loc) (ls : Array Slot), (f_X12_does_J16 p1 p2 v3_1 ) isRefused__5 worth__6 = some (o_isRefused, o_worth) → kV E A s.heap H locs [(a0, .inr (12, [w0_0, w0_1, w0_2, w0_3, w0_4, w0_5, w0_6, w0_7, w0_8, w0_9, w0_10, w0_11, w0_12, w0_13, w0_14, w0_15, w0_16, w0_17, w0_18, w0_19, w0_20, w0_21, w0_22, w0_23, w0_24, w0_25, w0_26, w0_27, w0_28, w0_29, w0_30, w0_31, w0_32, w0_33, w0_34, w0_35, w0_36, w0_37, w0_38, w0_39, w0_40, .ref a2, .ref a1, w0_43, w0_44, w0_45, w0_46, w0_47, w0_48, w0_49, w0_50, w0_51, w0_52, w0_53, w0_54, w0_55, w0_56, w0_57, w0_58, w0_59, w0_60, w0_61, w0_62, w0_63, w0_64, w0_65, w0_66])), (a1, .inl (E.2 2, 200, .inl isRefused__5)), (a2, .inl (E.2 0, 200, .inl worth__6))] → lv_has ls 4 [(0, .ref a0), (1, .int p1), (2, .int p2), (3, .int v3_1)] → W p l e r_X12_does s m args below meth c H locs 0 0 Q (F0 m 16 ls []) := by
    intro isRefused__5 worth__6 H locs ls hB16 hVB16 hlB16
    rw [f_X12_does_J16] at hB16
    refine lv_aload_n hx hb dX12_does_16 rfl (lv_at hlB16 0 rfl) ?_
    refine kget X hVB16 (ci := 12) inlX12 rfl 0 rfl 42 (by decide) mw_156 rfl dX12_does_17 ?_
    refine lv_iload_n hx hb dX12_does_20 rfl (lv_at hlB16 2 rfl) ?_
    obtain ⟨hi8, v21_7, e9, h10⟩ := rdI_s hB16
    clear hB16
    refine kzald X hVB16 1 rfl hi8 e9 dX12_does_21 ?_
    clear hi8 e9
    refine lv_if_ne (tgt := 45) hx hb dX12_does_22 (by decide) (fun c11 => ?_) (fun c11 => ?_)
    · have h12 := ieS c11 h10
      clear h10 c11
      obtain ⟨q14, q15⟩ := tup2_s h12
      clear h12
      exact hret () _ _ _ _ trivial (by rw [← q14, ← q15]; exact hVB16) dX12_does_45
    · have h13 := itS c11 h10
      clear h10 c11
      refine lv_aload_n hx hb dX12_does_25 rfl (lv_at hlB16 0 rfl) ?_
      refine kget X hVB16 (ci := 12) inlX12 rfl 0 rfl 41 (by decide) mw_154 rfl dX12_does_26 ?_
      refine lv_iload_n hx hb dX12_does_29 rfl (lv_at hlB16 2 rfl) ?_
      obtain ⟨hi17, v30_16, e18, h19⟩ := rdI_s h13
      clear h13
      refine kiald X hVB16 2 rfl hi17 e18 dX12_does_30 ?_
      clear hi17 e18
      refine lv_iload_n hx hb dX12_does_31 rfl (lv_at hlB16 1 rfl) ?_
      refine lv_bipush (v := 38) hx hb dX12_does_32 (by decide) ?_
      have J42 : ∀ (t1_20 : Int32) (H : Heap) (locs : List Loc) (ls : Array Slot), (f_X12_does_J42 p2 v3_1 isRefused__5 worth__6 v30_16 ) t1_20 = some (o_isRefused, o_worth) → kV E A s.heap H locs [(a0, .inr (12, [w0_0, w0_1, w0_2, w0_3, w0_4, w0_5, w0_6, w0_7, w0_8, w0_9, w0_10, w0_11, w0_12, w0_13, w0_14, w0_15, w0_16, w0_17, w0_18, w0_19, w0_20, w0_21, w0_22, w0_23, w0_24, w0_25, w0_26, w0_27, w0_28, w0_29, w0_30, w0_31, w0_32, w0_33, w0_34, w0_35, w0_36, w0_37, w0_38, w0_39, w0_40, .ref a2, .ref a1, w0_43, w0_44, w0_45, w0_46, w0_47, w0_48, w0_49, w0_50, w0_51, w0_52, w0_53, w0_54, w0_55, w0_56, w0_57, w0_58, w0_59, w0_60, w0_61, w0_62, w0_63, w0_64, w0_65, w0_66])), (a1, .inl (E.2 2, 200, .inl isRefused__5)), (a2, .inl (E.2 0, 200, .inl worth__6))] → lv_has ls 4 [(0, .ref a0), (2, .int p2), (3, .int v3_1)] → W p l e r_X12_does s m args below meth c H locs 0 0 Q (F0 m 42 ls [.int t1_20, .int v30_16]) := by
        intro t1_20 H locs ls hB42 hVB42 hlB42
        rw [f_X12_does_J42] at hB42
        refine lv_icmp_eq (tgt := 46) hx hb dX12_does_42 (by decide) (fun c21 => ?_) (fun c21 => ?_)
        · have h22 := itS c21 hB42
          clear hB42 c21
          refine lv_aload_n hx hb dX12_does_46 rfl (lv_at hlB42 0 rfl) ?_
          refine kget X hVB42 (ci := 12) inlX12 rfl 0 rfl 41 (by decide) mw_154 rfl dX12_does_47 ?_
          refine lv_iload_n hx hb dX12_does_50 rfl (lv_at hlB42 1 rfl) ?_
          refine lv_aload_n hx hb dX12_does_51 rfl (lv_at hlB42 0 rfl) ?_
          refine kget X hVB42 (ci := 12) inlX12 rfl 0 rfl 41 (by decide) mw_154 rfl dX12_does_52 ?_
          refine lv_iload_n hx hb dX12_does_55 rfl (lv_at hlB42 2 rfl) ?_
          obtain ⟨hi25, v56_24, e26, h27⟩ := rdI_s h22
          clear h22
          refine kiald X hVB42 2 rfl hi25 e26 dX12_does_56 ?_
          clear hi25 e26
          obtain ⟨hi29, g57_28, e30, h31⟩ := wrI_s h27
          clear h27
          refine kiast X hVB42 2 rfl hi29 e30 dX12_does_57 (fun H locs hV32 => ?_)
          have hV32 : kV E A s.heap H locs [(a0, .inr (12, [w0_0, w0_1, w0_2, w0_3, w0_4, w0_5, w0_6, w0_7, w0_8, w0_9, w0_10, w0_11, w0_12, w0_13, w0_14, w0_15, w0_16, w0_17, w0_18, w0_19, w0_20, w0_21, w0_22, w0_23, w0_24, w0_25, w0_26, w0_27, w0_28, w0_29, w0_30, w0_31, w0_32, w0_33, w0_34, w0_35, w0_36, w0_37, w0_38, w0_39, w0_40, .ref a2, .ref a1, w0_43, w0_44, w0_45, w0_46, w0_47, w0_48, w0_49, w0_50, w0_51, w0_52, w0_53, w0_54, w0_55, w0_56, w0_57, w0_58, w0_59, w0_60, w0_61, w0_62, w0_63, w0_64, w0_65, w0_66])), (a1, .inl (E.2 2, 200, .inl isRefused__5)), (a2, .inl (E.2 0, 200, .inl g57_28))] := hV32
          clear hVB42 hi29 e30
          refine lv_aload_n hx hb dX12_does_58 rfl (lv_at hlB42 0 rfl) ?_
          refine kget X hV32 (ci := 12) inlX12 rfl 0 rfl 42 (by decide) mw_156 rfl dX12_does_59 ?_
          refine lv_iload_n hx hb dX12_does_62 rfl (lv_at hlB42 1 rfl) ?_
          refine lv_aload_n hx hb dX12_does_63 rfl (lv_at hlB42 0 rfl) ?_
          refine kget X hV32 (ci := 12) inlX12 rfl 0 rfl 42 (by decide) mw_156 rfl dX12_does_64 ?_
          refine lv_iload_n hx hb dX12_does_67 rfl (lv_at hlB42 2 rfl) ?_
          obtain ⟨hi34, v68_33, e35, h36⟩ := rdI_s h31
          clear h31
          refine kzald X hV32 1 rfl hi34 e35 dX12_does_68 ?_
          clear hi34 e35
          obtain ⟨hi38, g69_37, e39, h40⟩ := wrZ_s h36
          clear h36
          refine kzast X hV32 1 rfl hi38 e39 dX12_does_69 (fun H locs hV41 => ?_)
          have hV41 : kV E A s.heap H locs [(a0, .inr (12, [w0_0, w0_1, w0_2, w0_3, w0_4, w0_5, w0_6, w0_7, w0_8, w0_9, w0_10, w0_11, w0_12, w0_13, w0_14, w0_15, w0_16, w0_17, w0_18, w0_19, w0_20, w0_21, w0_22, w0_23, w0_24, w0_25, w0_26, w0_27, w0_28, w0_29, w0_30, w0_31, w0_32, w0_33, w0_34, w0_35, w0_36, w0_37, w0_38, w0_39, w0_40, .ref a2, .ref a1, w0_43, w0_44, w0_45, w0_46, w0_47, w0_48, w0_49, w0_50, w0_51, w0_52, w0_53, w0_54, w0_55, w0_56, w0_57, w0_58, w0_59, w0_60, w0_61, w0_62, w0_63, w0_64, w0_65, w0_66])), (a1, .inl (E.2 2, 200, .inl g69_37)), (a2, .inl (E.2 0, 200, .inl g57_28))] := hV41
          clear hV32 hi38 e39
          obtain ⟨q42, q43⟩ := tup2_s h40
          clear h40
          exact hret () _ _ _ _ trivial (by rw [← q42, ← q43]; exact hV41) dX12_does_70
        · have h23 := ieS c21 hB42
          clear hB42 c21
          obtain ⟨q44, q45⟩ := tup2_s h23
          clear h23
          exact hret () _ _ _ _ trivial (by rw [← q44, ← q45]; exact hVB42) dX12_does_45
      refine lv_icmp_ne (tgt := 41) hx hb dX12_does_34 (by decide) (fun c46 => ?_) (fun c46 => ?_)
      · have h47 := ieS c46 h19
        clear h19 c46
        refine lv_iconst (v := 0) hx hb dX12_does_41 (by decide) ?_
        exact J42 0 _ _ _ h47 hVB16 (lv_sub hlB16 [0, 2, 3] rfl)
      · have h48 := itS c46 h19
        clear h19 c46
        refine lv_iconst (v := 1) hx hb dX12_does_37 (by decide) ?_
        refine lv_goto (tgt := 42) hx hb dX12_does_38 (by decide) ?_
        exact J42 1 _ _ _ h48 hVB16 (lv_sub hlB16 [0, 2, 3] rfl)
  refine lv_icmp_eq (tgt := 16) hx hb dX12_does_7 (by decide) (fun c49 => ?_) (fun c49 => ?_)
  · have h50 := itS c49 h3
    clear h3 c49
    exact J16 s_isRefused s_worth _ _ _ h50 hV (lv_sub hl4 [1, 2, 3, 0] rfl)
  · have h51 := ieS c49 h3
    clear h3 c49
    refine lv_iload_n hx hb dX12_does_10 rfl (lv_at hl4 2 rfl) ?_
    refine lv_bipush (v := 124) hx hb dX12_does_11 (by decide) ?_
    refine lv_icmp_ne (tgt := 71) hx hb dX12_does_13 (by decide) (fun c52 => ?_) (fun c52 => ?_)
    · have h53 := ieS c52 h51
      clear h51 c52
      refine lv_aload_n hx hb dX12_does_71 rfl (lv_at hl4 1 rfl) ?_
      refine kget X hV (ci := 12) inlX12 rfl 0 rfl 42 (by decide) mw_156 rfl dX12_does_72 ?_
      refine lv_iload_n hx hb dX12_does_75 rfl (lv_at hl4 3 rfl) ?_
      refine lv_aload_n hx hb dX12_does_76 rfl (lv_at hl4 1 rfl) ?_
      refine kget X hV (ci := 12) inlX12 rfl 0 rfl 42 (by decide) mw_156 rfl dX12_does_77 ?_
      refine lv_iload_n hx hb dX12_does_80 rfl (lv_at hl4 3 rfl) ?_
      obtain ⟨hi56, v81_55, e57, h58⟩ := rdI_s h53
      clear h53
      refine kzald X hV 1 rfl hi56 e57 dX12_does_81 ?_
      clear hi56 e57
      have J120 : ∀ (t2_59 : Int32) (H : Heap) (locs : List Loc) (ls : Array Slot), (f_X12_does_J120 s_isRefused s_worth p1 p2 v3_1 ) t2_59 = some (o_isRefused, o_worth) → kV E A s.heap H locs [(a0, .inr (12, [w0_0, w0_1, w0_2, w0_3, w0_4, w0_5, w0_6, w0_7, w0_8, w0_9, w0_10, w0_11, w0_12, w0_13, w0_14, w0_15, w0_16, w0_17, w0_18, w0_19, w0_20, w0_21, w0_22, w0_23, w0_24, w0_25, w0_26, w0_27, w0_28, w0_29, w0_30, w0_31, w0_32, w0_33, w0_34, w0_35, w0_36, w0_37, w0_38, w0_39, w0_40, .ref a2, .ref a1, w0_43, w0_44, w0_45, w0_46, w0_47, w0_48, w0_49, w0_50, w0_51, w0_52, w0_53, w0_54, w0_55, w0_56, w0_57, w0_58, w0_59, w0_60, w0_61, w0_62, w0_63, w0_64, w0_65, w0_66])), (a1, .inl (E.2 2, 200, .inl s_isRefused)), (a2, .inl (E.2 0, 200, .inl s_worth))] → lv_has ls 4 [(0, .ref a0), (1, .int p1), (2, .int p2), (3, .int v3_1)] → W p l e r_X12_does s m args below meth c H locs 0 0 Q (F0 m 120 ls [.int t2_59, .int p2, .ref a1]) := by
        intro t2_59 H locs ls hB120 hVB120 hlB120
        rw [f_X12_does_J120] at hB120
        obtain ⟨hi61, g120_60, e62, h63⟩ := wrZ_s hB120
        clear hB120
        refine kzast X hVB120 1 rfl hi61 e62 dX12_does_120 (fun H locs hV64 => ?_)
        have hV64 : kV E A s.heap H locs [(a0, .inr (12, [w0_0, w0_1, w0_2, w0_3, w0_4, w0_5, w0_6, w0_7, w0_8, w0_9, w0_10, w0_11, w0_12, w0_13, w0_14, w0_15, w0_16, w0_17, w0_18, w0_19, w0_20, w0_21, w0_22, w0_23, w0_24, w0_25, w0_26, w0_27, w0_28, w0_29, w0_30, w0_31, w0_32, w0_33, w0_34, w0_35, w0_36, w0_37, w0_38, w0_39, w0_40, .ref a2, .ref a1, w0_43, w0_44, w0_45, w0_46, w0_47, w0_48, w0_49, w0_50, w0_51, w0_52, w0_53, w0_54, w0_55, w0_56, w0_57, w0_58, w0_59, w0_60, w0_61, w0_62, w0_63, w0_64, w0_65, w0_66])), (a1, .inl (E.2 2, 200, .inl g120_60)), (a2, .inl (E.2 0, 200, .inl s_worth))] := hV64
        clear hVB120 hi61 e62
        refine lv_aload_n hx hb dX12_does_121 rfl (lv_at hlB120 0 rfl) ?_
        refine kget X hV64 (ci := 12) inlX12 rfl 0 rfl 41 (by decide) mw_154 rfl dX12_does_122 ?_
        refine lv_iload_n hx hb dX12_does_125 rfl (lv_at hlB120 2 rfl) ?_
        refine lv_iload_n hx hb dX12_does_126 rfl (lv_at hlB120 1 rfl) ?_
        refine lv_aload_n hx hb dX12_does_127 rfl (lv_at hlB120 0 rfl) ?_
        refine kget X hV64 (ci := 12) inlX12 rfl 0 rfl 41 (by decide) mw_154 rfl dX12_does_128 ?_
        refine lv_iload_n hx hb dX12_does_131 rfl (lv_at hlB120 2 rfl) ?_
        obtain ⟨hi66, v132_65, e67, h68⟩ := rdI_s h63
        clear h63
        refine kiald X hV64 2 rfl hi66 e67 dX12_does_132 ?_
        clear hi66 e67
        refine lv_aload_n hx hb dX12_does_133 rfl (lv_at hlB120 0 rfl) ?_
        refine kget X hV64 (ci := 12) inlX12 rfl 0 rfl 41 (by decide) mw_154 rfl dX12_does_134 ?_
        refine lv_iload_n hx hb dX12_does_137 rfl (lv_at hlB120 3 rfl) ?_
        obtain ⟨hi70, v138_69, e71, h72⟩ := rdI_s h68
        clear h68
        refine kiald X hV64 2 rfl hi70 e71 dX12_does_138 ?_
        clear hi70 e71
        obtain ⟨r139_73, hc74, h75⟩ := cb1_s h72
        clear h72
        refine kgoiE (krunS (rest := [.int p2, .ref a2]) X hV64 [] (c_X12_worked l E _ p1 v132_65 v138_69 r139_73 hc74) mw_750 kb_X12_worked (by decide) rfl rfl hlB120.1 rfl (Nat.le_of_ble_eq_true rfl) dX12_does_139 (by decide)) X hV64 [] [0, 1, 2] rfl rfl rfl (by decide) (fun u H locs hV76 => ?_)
        have hV76 : kV E A s.heap H locs [(a0, .inr (12, [w0_0, w0_1, w0_2, w0_3, w0_4, w0_5, w0_6, w0_7, w0_8, w0_9, w0_10, w0_11, w0_12, w0_13, w0_14, w0_15, w0_16, w0_17, w0_18, w0_19, w0_20, w0_21, w0_22, w0_23, w0_24, w0_25, w0_26, w0_27, w0_28, w0_29, w0_30, w0_31, w0_32, w0_33, w0_34, w0_35, w0_36, w0_37, w0_38, w0_39, w0_40, .ref a2, .ref a1, w0_43, w0_44, w0_45, w0_46, w0_47, w0_48, w0_49, w0_50, w0_51, w0_52, w0_53, w0_54, w0_55, w0_56, w0_57, w0_58, w0_59, w0_60, w0_61, w0_62, w0_63, w0_64, w0_65, w0_66])), (a1, .inl (E.2 2, 200, .inl g120_60)), (a2, .inl (E.2 0, 200, .inl s_worth))] := hV76.sub [0, 1, 2] rfl rfl
        clear hV64
        obtain ⟨hi79, g142_78, e80, h81⟩ := wrI_s h75
        clear h75
        refine kiast X hV76 2 rfl hi79 e80 dX12_does_142 (fun H locs hV82 => ?_)
        have hV82 : kV E A s.heap H locs [(a0, .inr (12, [w0_0, w0_1, w0_2, w0_3, w0_4, w0_5, w0_6, w0_7, w0_8, w0_9, w0_10, w0_11, w0_12, w0_13, w0_14, w0_15, w0_16, w0_17, w0_18, w0_19, w0_20, w0_21, w0_22, w0_23, w0_24, w0_25, w0_26, w0_27, w0_28, w0_29, w0_30, w0_31, w0_32, w0_33, w0_34, w0_35, w0_36, w0_37, w0_38, w0_39, w0_40, .ref a2, .ref a1, w0_43, w0_44, w0_45, w0_46, w0_47, w0_48, w0_49, w0_50, w0_51, w0_52, w0_53, w0_54, w0_55, w0_56, w0_57, w0_58, w0_59, w0_60, w0_61, w0_62, w0_63, w0_64, w0_65, w0_66])), (a1, .inl (E.2 2, 200, .inl g120_60)), (a2, .inl (E.2 0, 200, .inl g142_78))] := hV82
        clear hV76 hi79 e80
        obtain ⟨q83, q84⟩ := tup2_s h81
        clear h81
        exact hret () _ _ _ _ trivial (by rw [← q83, ← q84]; exact hV82) dX12_does_143
      refine lv_if_ne (tgt := 115) hx hb dX12_does_82 (by decide) (fun c85 => ?_) (fun c85 => ?_)
      · have h86 := ieS c85 h58
        clear h58 c85
        refine lv_iconst (v := 1) hx hb dX12_does_115 (by decide) ?_
        refine lv_goto (tgt := 120) hx hb dX12_does_116 (by decide) ?_
        exact J120 1 _ _ _ h86 hV (lv_sub hl4 [1, 2, 3, 0] rfl)
      · have h87 := itS c85 h58
        clear h58 c85
        refine lv_aload_n hx hb dX12_does_85 rfl (lv_at hl4 1 rfl) ?_
        refine kget X hV (ci := 12) inlX12 rfl 0 rfl 42 (by decide) mw_156 rfl dX12_does_86 ?_
        refine lv_iload_n hx hb dX12_does_89 rfl (lv_at hl4 0 rfl) ?_
        obtain ⟨hi89, v90_88, e90, h91⟩ := rdI_s h87
        clear h87
        refine kzald X hV 1 rfl hi89 e90 dX12_does_90 ?_
        clear hi89 e90
        refine lv_if_ne (tgt := 115) hx hb dX12_does_91 (by decide) (fun c92 => ?_) (fun c92 => ?_)
        · have h93 := ieS c92 h91
          clear h91 c92
          refine lv_iconst (v := 1) hx hb dX12_does_115 (by decide) ?_
          refine lv_goto (tgt := 120) hx hb dX12_does_116 (by decide) ?_
          exact J120 1 _ _ _ h93 hV (lv_sub hl4 [1, 2, 3, 0] rfl)
        · have h94 := itS c92 h91
          clear h91 c92
          refine lv_iload_n hx hb dX12_does_94 rfl (lv_at hl4 2 rfl) ?_
          refine lv_bipush (v := 47) hx hb dX12_does_95 (by decide) ?_
          have J106 : ∀  (H : Heap) (locs : List Loc) (ls : Array Slot), (f_X12_does_J106 s_worth v3_1 (f_X12_does_J120 s_isRefused s_worth p1 p2 v3_1 )) = some (o_isRefused, o_worth) → kV E A s.heap H locs [(a0, .inr (12, [w0_0, w0_1, w0_2, w0_3, w0_4, w0_5, w0_6, w0_7, w0_8, w0_9, w0_10, w0_11, w0_12, w0_13, w0_14, w0_15, w0_16, w0_17, w0_18, w0_19, w0_20, w0_21, w0_22, w0_23, w0_24, w0_25, w0_26, w0_27, w0_28, w0_29, w0_30, w0_31, w0_32, w0_33, w0_34, w0_35, w0_36, w0_37, w0_38, w0_39, w0_40, .ref a2, .ref a1, w0_43, w0_44, w0_45, w0_46, w0_47, w0_48, w0_49, w0_50, w0_51, w0_52, w0_53, w0_54, w0_55, w0_56, w0_57, w0_58, w0_59, w0_60, w0_61, w0_62, w0_63, w0_64, w0_65, w0_66])), (a1, .inl (E.2 2, 200, .inl s_isRefused)), (a2, .inl (E.2 0, 200, .inl s_worth))] → lv_has ls 4 [(0, .ref a0), (1, .int p1), (2, .int p2), (3, .int v3_1)] → W p l e r_X12_does s m args below meth c H locs 0 0 Q (F0 m 106 ls [.int p2, .ref a1]) := by
            intro  H locs ls hB106 hVB106 hlB106
            rw [f_X12_does_J106] at hB106
            refine lv_aload_n hx hb dX12_does_106 rfl (lv_at hlB106 0 rfl) ?_
            refine kget X hVB106 (ci := 12) inlX12 rfl 0 rfl 41 (by decide) mw_154 rfl dX12_does_107 ?_
            refine lv_iload_n hx hb dX12_does_110 rfl (lv_at hlB106 3 rfl) ?_
            obtain ⟨hi96, v111_95, e97, h98⟩ := rdI_s hB106
            clear hB106
            refine kiald X hVB106 2 rfl hi96 e97 dX12_does_111 ?_
            clear hi96 e97
            refine lv_if_ne (tgt := 119) hx hb dX12_does_112 (by decide) (fun c99 => ?_) (fun c99 => ?_)
            · have h100 := ieS c99 h98
              clear h98 c99
              refine lv_iconst (v := 0) hx hb dX12_does_119 (by decide) ?_
              exact J120 0 _ _ _ h100 hVB106 (lv_sub hlB106 [0, 1, 2, 3] rfl)
            · have h101 := itS c99 h98
              clear h98 c99
              refine lv_iconst (v := 1) hx hb dX12_does_115 (by decide) ?_
              refine lv_goto (tgt := 120) hx hb dX12_does_116 (by decide) ?_
              exact J120 1 _ _ _ h101 hVB106 (lv_sub hlB106 [0, 1, 2, 3] rfl)
          refine lv_icmp_eq (tgt := 106) hx hb dX12_does_97 (by decide) (fun c102 => ?_) (fun c102 => ?_)
          · have h103 := itS c102 h94
            clear h94 c102
            exact J106  _ _ _ h103 hV (lv_sub hl4 [1, 2, 3, 0] rfl)
          · have h104 := ieS c102 h94
            clear h94 c102
            refine lv_iload_n hx hb dX12_does_100 rfl (lv_at hl4 2 rfl) ?_
            refine lv_bipush (v := 37) hx hb dX12_does_101 (by decide) ?_
            refine lv_icmp_ne (tgt := 119) hx hb dX12_does_103 (by decide) (fun c105 => ?_) (fun c105 => ?_)
            · have h106 := ieS c105 h104
              clear h104 c105
              refine lv_iconst (v := 0) hx hb dX12_does_119 (by decide) ?_
              exact J120 0 _ _ _ h106 hV (lv_sub hl4 [1, 2, 3, 0] rfl)
            · have h107 := itS c105 h104
              clear h104 c105
              exact J106  _ _ _ h107 hV (lv_sub hl4 [1, 2, 3, 0] rfl)
    · have h54 := itS c52 h51
      clear h51 c52
      exact J16 s_isRefused s_worth _ _ _ h54 hV (lv_sub hl4 [1, 2, 3, 0] rfl)
abbrev r_X12_works : Room := { frames := 2, cells := 0, slots := 0, locals := 45 }
set_option maxHeartbeats 4000000 in
set_option maxRecDepth 100000 in
theorem c_X12_works (l : Launch) (E : kE) (sz : Nat) (a0 a1 a2 a3 a4 : Nat) (w0_0 w0_1 w0_2 w0_3 w0_4 w0_5 w0_6 w0_7 w0_8 w0_9 w0_10 w0_13 w0_14 w0_15 w0_16 w0_17 w0_18 w0_19 w0_20 w0_21 w0_22 w0_23 w0_24 w0_25 w0_26 w0_27 w0_43 w0_44 w0_45 w0_46 w0_47 w0_48 w0_49 w0_50 w0_51 w0_52 w0_53 w0_54 w0_55 w0_56 w0_57 w0_58 w0_59 w0_60 w0_61 w0_62 w0_63 w0_64 w0_65 w0_66 : Value) (s_atA : Int32) (s_atB : Int32) (s_atD : Int32) (s_atF : Int32) (s_atG : Int32) (s_atH : Int32) (s_atL : Int32) (s_atM : Int32) (s_atN : Int32) (s_atS : Int32) (s_atT : Int32) (s_atU : Int32) (s_atX : Int32) (s_code : Nat → Int32) (s_codeArg : Nat → Int32) (s_isRefused : Nat → Int32) (s_worth : Nat → Int32) (p1 : Int32) (p2 : Int32) (o_isRefused : Nat → Int32) (o_worth : Nat → Int32) (h : f_X12_works s_atA s_atB s_atD s_atF s_atG s_atH s_atL s_atM s_atN s_atS s_atT s_atU s_atX s_code s_codeArg s_isRefused s_worth p1 p2 = some (o_isRefused, o_worth)) : kMv l yX12_works cX12_works 5 r_X12_works [.ref a0, .int p1, .int p2] E [(a0, .inr (12, [w0_0, w0_1, w0_2, w0_3, w0_4, w0_5, w0_6, w0_7, w0_8, w0_9, w0_10, .ref a1, .ref a2, w0_13, w0_14, w0_15, w0_16, w0_17, w0_18, w0_19, w0_20, w0_21, w0_22, w0_23, w0_24, w0_25, w0_26, w0_27, .int s_atA, .int s_atB, .int s_atD, .int s_atF, .int s_atG, .int s_atH, .int s_atL, .int s_atM, .int s_atN, .int s_atS, .int s_atT, .int s_atU, .int s_atX, .ref a4, .ref a3, w0_43, w0_44, w0_45, w0_46, w0_47, w0_48, w0_49, w0_50, w0_51, w0_52, w0_53, w0_54, w0_55, w0_56, w0_57, w0_58, w0_59, w0_60, w0_61, w0_62, w0_63, w0_64, w0_65, w0_66])), (a1, .inl (E.2 0, 2400, .inl s_code)), (a2, .inl (E.2 0, 2400, .inl s_codeArg)), (a3, .inl (E.2 2, 200, .inl s_isRefused)), (a4, .inl (E.2 0, 200, .inl s_worth))] sz 0 0 (fun (_ : Unit) => True) (fun _ => [(a0, .inr (12, [w0_0, w0_1, w0_2, w0_3, w0_4, w0_5, w0_6, w0_7, w0_8, w0_9, w0_10, .ref a1, .ref a2, w0_13, w0_14, w0_15, w0_16, w0_17, w0_18, w0_19, w0_20, w0_21, w0_22, w0_23, w0_24, w0_25, w0_26, w0_27, .int s_atA, .int s_atB, .int s_atD, .int s_atF, .int s_atG, .int s_atH, .int s_atL, .int s_atM, .int s_atN, .int s_atS, .int s_atT, .int s_atU, .int s_atX, .ref a4, .ref a3, w0_43, w0_44, w0_45, w0_46, w0_47, w0_48, w0_49, w0_50, w0_51, w0_52, w0_53, w0_54, w0_55, w0_56, w0_57, w0_58, w0_59, w0_60, w0_61, w0_62, w0_63, w0_64, w0_65, w0_66])), (a1, .inl (E.2 0, 2400, .inl s_code)), (a2, .inl (E.2 0, 2400, .inl s_codeArg)), (a3, .inl (E.2 2, 200, .inl o_isRefused)), (a4, .inl (E.2 0, 200, .inl o_worth))]) := by
  refine kmetv rfl (Nat.le_of_ble_eq_true rfl) ?_
  intro p e s m args below meth c ls A Q X hnm hV hret hl
  have X : kC p s m c cX12_works 5 RX12 args E A := X
  have hx := X.1
  have hb := X.2.1
  have hl : lv_has ls 5 [(0, .ref a0), (1, .int p1), (2, .int p2)] := hl
  rw [f_X12_works] at h
  refine lv_iconst (v := 0) hx hb dX12_works_0 (by decide) ?_
  refine lv_istore_n (lv' := [(3, .int 0), (0, .ref a0), (1, .int p1), (2, .int p2)]) hx hb dX12_works_1 rfl hl (by decide) rfl (fun ls hl1 => ?_)
  clear hl
  refine lv_iload_n hx hb dX12_works_2 rfl (lv_at hl1 2 rfl) ?_
  refine lv_istore (lv' := [(4, .int p1), (3, .int 0), (0, .ref a0), (1, .int p1), (2, .int p2)]) hx hb dX12_works_3 hl1 (by decide) rfl (fun ls hl2 => ?_)
  clear hl1
  have L5 : ∀ (n5 : Nat) (x3_3 : Int32) (x4_4 : Int32) (isRefused__5 : Nat → Int32) (worth__6 : Nat → Int32) (H : Heap) (locs : List Loc) (ls : Array Slot), (f_X12_works_L5 s_atA s_atB s_atD s_atF s_atG s_atH s_atL s_atM s_atN s_atS s_atT s_atU s_atX s_code s_codeArg p2  n5) x3_3 x4_4 isRefused__5 worth__6 = some (o_isRefused, o_worth) → kV E A s.heap H locs [(a0, .inr (12, [w0_0, w0_1, w0_2, w0_3, w0_4, w0_5, w0_6, w0_7, w0_8, w0_9, w0_10, .ref a1, .ref a2, w0_13, w0_14, w0_15, w0_16, w0_17, w0_18, w0_19, w0_20, w0_21, w0_22, w0_23, w0_24, w0_25, w0_26, w0_27, .int s_atA, .int s_atB, .int s_atD, .int s_atF, .int s_atG, .int s_atH, .int s_atL, .int s_atM, .int s_atN, .int s_atS, .int s_atT, .int s_atU, .int s_atX, .ref a4, .ref a3, w0_43, w0_44, w0_45, w0_46, w0_47, w0_48, w0_49, w0_50, w0_51, w0_52, w0_53, w0_54, w0_55, w0_56, w0_57, w0_58, w0_59, w0_60, w0_61, w0_62, w0_63, w0_64, w0_65, w0_66])), (a1, .inl (E.2 0, 2400, .inl s_code)), (a2, .inl (E.2 0, 2400, .inl s_codeArg)), (a3, .inl (E.2 2, 200, .inl isRefused__5)), (a4, .inl (E.2 0, 200, .inl worth__6))] → lv_has ls 5 [(0, .ref a0), (2, .int p2), (3, .int x3_3), (4, .int x4_4)] → W p l e r_X12_works s m args below meth c H locs 0 0 Q (F0 m 5 ls []) := by
    intro n5
    induction n5 with
    | zero =>
      intro x3_3 x4_4 isRefused__5 worth__6 H locs ls hB5 hVB5 hlB5
      rw [f_X12_works_L5] at hB5
      exact nomatch hB5
    | succ n5 ih5 =>
      intro x3_3 x4_4 isRefused__5 worth__6 H locs ls hB5 hVB5 hlB5
      rw [f_X12_works_L5] at hB5
      refine lv_iload hx hb dX12_works_5 (lv_at hlB5 3 rfl) ?_
      refine lv_iload_n hx hb dX12_works_7 rfl (lv_at hlB5 1 rfl) ?_
      refine lv_icmp_ge (tgt := 127) hx hb dX12_works_8 (by decide) (fun c7 => ?_) (fun c7 => ?_)
      · have h8 := itS c7 hB5
        clear hB5 c7
        obtain ⟨q10, q11⟩ := tup2_s h8
        clear h8
        exact hret () _ _ _ _ trivial (by rw [← q10, ← q11]; exact hVB5) dX12_works_127
      · have h9 := ieS c7 hB5
        clear hB5 c7
        refine lv_aload_n hx hb dX12_works_11 rfl (lv_at hlB5 0 rfl) ?_
        refine kget X hVB5 (ci := 12) inlX12 rfl 0 rfl 11 (by decide) mw_146 rfl dX12_works_12 ?_
        refine lv_iload hx hb dX12_works_15 (lv_at hlB5 3 rfl) ?_
        obtain ⟨hi13, v17_12, e14, h15⟩ := rdI_s h9
        clear h9
        refine kiald X hVB5 1 rfl hi13 e14 dX12_works_17 ?_
        clear hi13 e14
        refine lv_iconst (v := 2) hx hb dX12_works_18 (by decide) ?_
        refine lv_icmp_le (tgt := 42) hx hb dX12_works_19 (by decide) (fun c16 => ?_) (fun c16 => ?_)
        · have h17 := itS c16 h15
          clear h15 c16
          refine lv_aload_n hx hb dX12_works_42 rfl (lv_at hlB5 0 rfl) ?_
          refine kget X hVB5 (ci := 12) inlX12 rfl 0 rfl 11 (by decide) mw_146 rfl dX12_works_43 ?_
          refine lv_iload hx hb dX12_works_46 (lv_at hlB5 3 rfl) ?_
          obtain ⟨hi20, v48_19, e21, h22⟩ := rdI_s h17
          clear h17
          refine kiald X hVB5 1 rfl hi20 e21 dX12_works_48 ?_
          clear hi20 e21
          refine lv_iconst (v := 2) hx hb dX12_works_49 (by decide) ?_
          refine lv_icmp_ne (tgt := 74) hx hb dX12_works_50 (by decide) (fun c23 => ?_) (fun c23 => ?_)
          · have h24 := ieS c23 h22
            clear h22 c23
            refine lv_aload_n hx hb dX12_works_74 rfl (lv_at hlB5 0 rfl) ?_
            refine kget X hVB5 (ci := 12) inlX12 rfl 0 rfl 42 (by decide) mw_156 rfl dX12_works_75 ?_
            refine lv_iload_n hx hb dX12_works_78 rfl (lv_at hlB5 2 rfl) ?_
            refine lv_iconst (v := 0) hx hb dX12_works_79 (by decide) ?_
            obtain ⟨hi27, g80_26, e28, h29⟩ := wrZ_s h24
            clear h24
            refine kzast X hVB5 3 rfl hi27 e28 dX12_works_80 (fun H locs hV30 => ?_)
            have hV30 : kV E A s.heap H locs [(a0, .inr (12, [w0_0, w0_1, w0_2, w0_3, w0_4, w0_5, w0_6, w0_7, w0_8, w0_9, w0_10, .ref a1, .ref a2, w0_13, w0_14, w0_15, w0_16, w0_17, w0_18, w0_19, w0_20, w0_21, w0_22, w0_23, w0_24, w0_25, w0_26, w0_27, .int s_atA, .int s_atB, .int s_atD, .int s_atF, .int s_atG, .int s_atH, .int s_atL, .int s_atM, .int s_atN, .int s_atS, .int s_atT, .int s_atU, .int s_atX, .ref a4, .ref a3, w0_43, w0_44, w0_45, w0_46, w0_47, w0_48, w0_49, w0_50, w0_51, w0_52, w0_53, w0_54, w0_55, w0_56, w0_57, w0_58, w0_59, w0_60, w0_61, w0_62, w0_63, w0_64, w0_65, w0_66])), (a1, .inl (E.2 0, 2400, .inl s_code)), (a2, .inl (E.2 0, 2400, .inl s_codeArg)), (a3, .inl (E.2 2, 200, .inl g80_26)), (a4, .inl (E.2 0, 200, .inl worth__6))] := hV30
            clear hVB5 hi27 e28
            refine lv_aload_n hx hb dX12_works_81 rfl (lv_at hlB5 0 rfl) ?_
            refine kget X hV30 (ci := 12) inlX12 rfl 0 rfl 41 (by decide) mw_154 rfl dX12_works_82 ?_
            refine lv_iload_n hx hb dX12_works_85 rfl (lv_at hlB5 2 rfl) ?_
            refine lv_aload_n hx hb dX12_works_86 rfl (lv_at hlB5 0 rfl) ?_
            refine kget X hV30 (ci := 12) inlX12 rfl 0 rfl 11 (by decide) mw_146 rfl dX12_works_87 ?_
            refine lv_iload hx hb dX12_works_90 (lv_at hlB5 3 rfl) ?_
            obtain ⟨hi32, v92_31, e33, h34⟩ := rdI_s h29
            clear h29
            refine kiald X hV30 1 rfl hi32 e33 dX12_works_92 ?_
            clear hi32 e33
            refine lv_if_ne (tgt := 106) hx hb dX12_works_93 (by decide) (fun c35 => ?_) (fun c35 => ?_)
            · have h36 := ieS c35 h34
              clear h34 c35
              refine lv_aload_n hx hb dX12_works_106 rfl (lv_at hlB5 0 rfl) ?_
              refine lv_aload_n hx hb dX12_works_107 rfl (lv_at hlB5 0 rfl) ?_
              refine kget X hV30 (ci := 12) inlX12 rfl 0 rfl 12 (by decide) mw_147 rfl dX12_works_108 ?_
              refine lv_iload hx hb dX12_works_111 (lv_at hlB5 3 rfl) ?_
              obtain ⟨hi39, v113_38, e40, h41⟩ := rdI_s h36
              clear h36
              refine kiald X hV30 2 rfl hi39 e40 dX12_works_113 ?_
              clear hi39 e40
              obtain ⟨r114_42, hc43, h44⟩ := cb1_s h41
              clear h41
              refine kgoiE (krunV (rest := [.int x3_3, .ref a4]) X hV30 [0] (c_X12_valueOf l E _ a0 (w0_0) (w0_1) (w0_2) (w0_3) (w0_4) (w0_5) (w0_6) (w0_7) (w0_8) (w0_9) (w0_10) (.ref a1) (.ref a2) (w0_13) (w0_14) (w0_15) (w0_16) (w0_17) (w0_18) (w0_19) (w0_20) (w0_21) (w0_22) (w0_23) (w0_24) (w0_25) (w0_26) (w0_27) (.ref a4) (.ref a3) (w0_43) (w0_44) (w0_45) (w0_46) (w0_47) (w0_48) (w0_49) (w0_50) (w0_51) (w0_52) (w0_53) (w0_54) (w0_55) (w0_56) (w0_57) (w0_58) (w0_59) (w0_60) (w0_61) (w0_62) (w0_63) (w0_64) (w0_65) (w0_66) s_atA s_atB s_atD s_atF s_atG s_atH s_atL s_atM s_atN s_atS s_atT s_atU s_atX v113_38 r114_42 hc43) mw_753 kb_X12_valueOf (ci := 12) rfl rfl (by decide) rfl rfl hlB5.1 rfl (Nat.le_of_ble_eq_true rfl) dX12_works_114 (by decide)) X hV30 [0] [1, 2, 3, 4] rfl rfl rfl (by decide) (fun u H locs hV45 => ?_)
              have hV45 : kV E A s.heap H locs [(a0, .inr (12, [w0_0, w0_1, w0_2, w0_3, w0_4, w0_5, w0_6, w0_7, w0_8, w0_9, w0_10, .ref a1, .ref a2, w0_13, w0_14, w0_15, w0_16, w0_17, w0_18, w0_19, w0_20, w0_21, w0_22, w0_23, w0_24, w0_25, w0_26, w0_27, .int s_atA, .int s_atB, .int s_atD, .int s_atF, .int s_atG, .int s_atH, .int s_atL, .int s_atM, .int s_atN, .int s_atS, .int s_atT, .int s_atU, .int s_atX, .ref a4, .ref a3, w0_43, w0_44, w0_45, w0_46, w0_47, w0_48, w0_49, w0_50, w0_51, w0_52, w0_53, w0_54, w0_55, w0_56, w0_57, w0_58, w0_59, w0_60, w0_61, w0_62, w0_63, w0_64, w0_65, w0_66])), (a1, .inl (E.2 0, 2400, .inl s_code)), (a2, .inl (E.2 0, 2400, .inl s_codeArg)), (a3, .inl (E.2 2, 200, .inl g80_26)), (a4, .inl (E.2 0, 200, .inl worth__6))] := hV45.sub [4, 0, 1, 2, 3] rfl rfl
              clear hV30
              obtain ⟨hi48, g117_47, e49, h50⟩ := wrI_s h44
              clear h44
              refine kiast X hV45 4 rfl hi48 e49 dX12_works_117 (fun H locs hV51 => ?_)
              have hV51 : kV E A s.heap H locs [(a0, .inr (12, [w0_0, w0_1, w0_2, w0_3, w0_4, w0_5, w0_6, w0_7, w0_8, w0_9, w0_10, .ref a1, .ref a2, w0_13, w0_14, w0_15, w0_16, w0_17, w0_18, w0_19, w0_20, w0_21, w0_22, w0_23, w0_24, w0_25, w0_26, w0_27, .int s_atA, .int s_atB, .int s_atD, .int s_atF, .int s_atG, .int s_atH, .int s_atL, .int s_atM, .int s_atN, .int s_atS, .int s_atT, .int s_atU, .int s_atX, .ref a4, .ref a3, w0_43, w0_44, w0_45, w0_46, w0_47, w0_48, w0_49, w0_50, w0_51, w0_52, w0_53, w0_54, w0_55, w0_56, w0_57, w0_58, w0_59, w0_60, w0_61, w0_62, w0_63, w0_64, w0_65, w0_66])), (a1, .inl (E.2 0, 2400, .inl s_code)), (a2, .inl (E.2 0, 2400, .inl s_codeArg)), (a3, .inl (E.2 2, 200, .inl g80_26)), (a4, .inl (E.2 0, 200, .inl g117_47))] := hV51
              clear hV45 hi48 e49
              obtain ⟨v118_52, e53, h54⟩ := nmI_s h50
              clear h50
              refine lv_iinc (v := v118_52) (lv' := [(3, .int v118_52), (0, .ref a0), (2, .int p2), (4, .int x4_4)]) hx hb dX12_works_118 hlB5 (k := 2) rfl (by rw [e53]; rfl) (by decide) rfl (fun ls hl55 => ?_)
              clear hlB5 e53
              obtain ⟨v121_56, e57, h58⟩ := nmI_s h54
              clear h54
              refine lv_iinc (v := v121_56) (lv' := [(4, .int v121_56), (3, .int v118_52), (0, .ref a0), (2, .int p2)]) hx hb dX12_works_121 hl55 (k := 3) rfl (by rw [e57]; rfl) (by decide) rfl (fun ls hl59 => ?_)
              clear hl55 e57
              refine lv_goto (tgt := 5) hx hb dX12_works_124 (by decide) ?_
              exact ih5 v118_52 v121_56 g80_26 g117_47 _ _ _ h58 hV51 (lv_sub hl59 [2, 3, 1, 0] rfl)
            · have h37 := itS c35 h34
              clear h34 c35
              refine lv_aload_n hx hb dX12_works_96 rfl (lv_at hlB5 0 rfl) ?_
              refine kget X hV30 (ci := 12) inlX12 rfl 0 rfl 12 (by decide) mw_147 rfl dX12_works_97 ?_
              refine lv_iload hx hb dX12_works_100 (lv_at hlB5 3 rfl) ?_
              obtain ⟨hi61, v102_60, e62, h63⟩ := rdI_s h37
              clear h37
              refine kiald X hV30 2 rfl hi61 e62 dX12_works_102 ?_
              clear hi61 e62
              refine lv_goto (tgt := 117) hx hb dX12_works_103 (by decide) ?_
              obtain ⟨hi65, g117_64, e66, h67⟩ := wrI_s h63
              clear h63
              refine kiast X hV30 4 rfl hi65 e66 dX12_works_117 (fun H locs hV68 => ?_)
              have hV68 : kV E A s.heap H locs [(a0, .inr (12, [w0_0, w0_1, w0_2, w0_3, w0_4, w0_5, w0_6, w0_7, w0_8, w0_9, w0_10, .ref a1, .ref a2, w0_13, w0_14, w0_15, w0_16, w0_17, w0_18, w0_19, w0_20, w0_21, w0_22, w0_23, w0_24, w0_25, w0_26, w0_27, .int s_atA, .int s_atB, .int s_atD, .int s_atF, .int s_atG, .int s_atH, .int s_atL, .int s_atM, .int s_atN, .int s_atS, .int s_atT, .int s_atU, .int s_atX, .ref a4, .ref a3, w0_43, w0_44, w0_45, w0_46, w0_47, w0_48, w0_49, w0_50, w0_51, w0_52, w0_53, w0_54, w0_55, w0_56, w0_57, w0_58, w0_59, w0_60, w0_61, w0_62, w0_63, w0_64, w0_65, w0_66])), (a1, .inl (E.2 0, 2400, .inl s_code)), (a2, .inl (E.2 0, 2400, .inl s_codeArg)), (a3, .inl (E.2 2, 200, .inl g80_26)), (a4, .inl (E.2 0, 200, .inl g117_64))] := hV68
              clear hV30 hi65 e66
              obtain ⟨v118_69, e70, h71⟩ := nmI_s h67
              clear h67
              refine lv_iinc (v := v118_69) (lv' := [(3, .int v118_69), (0, .ref a0), (2, .int p2), (4, .int x4_4)]) hx hb dX12_works_118 hlB5 (k := 2) rfl (by rw [e70]; rfl) (by decide) rfl (fun ls hl72 => ?_)
              clear hlB5 e70
              obtain ⟨v121_73, e74, h75⟩ := nmI_s h71
              clear h71
              refine lv_iinc (v := v121_73) (lv' := [(4, .int v121_73), (3, .int v118_69), (0, .ref a0), (2, .int p2)]) hx hb dX12_works_121 hl72 (k := 3) rfl (by rw [e74]; rfl) (by decide) rfl (fun ls hl76 => ?_)
              clear hl72 e74
              refine lv_goto (tgt := 5) hx hb dX12_works_124 (by decide) ?_
              exact ih5 v118_69 v121_73 g80_26 g117_64 _ _ _ h75 hV68 (lv_sub hl76 [2, 3, 1, 0] rfl)
          · have h25 := itS c23 h22
            clear h22 c23
            refine lv_aload_n hx hb dX12_works_53 rfl (lv_at hlB5 0 rfl) ?_
            refine kget X hVB5 (ci := 12) inlX12 rfl 0 rfl 41 (by decide) mw_154 rfl dX12_works_54 ?_
            refine lv_iload_n hx hb dX12_works_57 rfl (lv_at hlB5 2 rfl) ?_
            refine lv_iconst (v := 1) hx hb dX12_works_58 (by decide) ?_
            refine lv_isub hx hb dX12_works_59 ?_
            refine lv_iconst (v := 1) hx hb dX12_works_60 (by decide) ?_
            refine lv_aload_n hx hb dX12_works_61 rfl (lv_at hlB5 0 rfl) ?_
            refine kget X hVB5 (ci := 12) inlX12 rfl 0 rfl 41 (by decide) mw_154 rfl dX12_works_62 ?_
            refine lv_iload_n hx hb dX12_works_65 rfl (lv_at hlB5 2 rfl) ?_
            refine lv_iconst (v := 1) hx hb dX12_works_66 (by decide) ?_
            refine lv_isub hx hb dX12_works_67 ?_
            obtain ⟨hi78, v68_77, e79, h80⟩ := rdI_s h25
            clear h25
            refine kiald X hVB5 4 rfl hi78 e79 dX12_works_68 ?_
            clear hi78 e79
            refine lv_isub hx hb dX12_works_69 ?_
            obtain ⟨v70_81, e82, h83⟩ := nmI_s h80
            clear h80
            refine ktopi e82 ?_
            clear e82
            obtain ⟨hi85, g70_84, e86, h87⟩ := wrI_s h83
            clear h83
            refine kiast X hVB5 4 rfl hi85 e86 dX12_works_70 (fun H locs hV88 => ?_)
            have hV88 : kV E A s.heap H locs [(a0, .inr (12, [w0_0, w0_1, w0_2, w0_3, w0_4, w0_5, w0_6, w0_7, w0_8, w0_9, w0_10, .ref a1, .ref a2, w0_13, w0_14, w0_15, w0_16, w0_17, w0_18, w0_19, w0_20, w0_21, w0_22, w0_23, w0_24, w0_25, w0_26, w0_27, .int s_atA, .int s_atB, .int s_atD, .int s_atF, .int s_atG, .int s_atH, .int s_atL, .int s_atM, .int s_atN, .int s_atS, .int s_atT, .int s_atU, .int s_atX, .ref a4, .ref a3, w0_43, w0_44, w0_45, w0_46, w0_47, w0_48, w0_49, w0_50, w0_51, w0_52, w0_53, w0_54, w0_55, w0_56, w0_57, w0_58, w0_59, w0_60, w0_61, w0_62, w0_63, w0_64, w0_65, w0_66])), (a1, .inl (E.2 0, 2400, .inl s_code)), (a2, .inl (E.2 0, 2400, .inl s_codeArg)), (a3, .inl (E.2 2, 200, .inl isRefused__5)), (a4, .inl (E.2 0, 200, .inl g70_84))] := hV88
            clear hVB5 hi85 e86
            refine lv_goto (tgt := 121) hx hb dX12_works_71 (by decide) ?_
            obtain ⟨v121_89, e90, h91⟩ := nmI_s h87
            clear h87
            refine lv_iinc (v := v121_89) (lv' := [(4, .int v121_89), (0, .ref a0), (2, .int p2), (3, .int x3_3)]) hx hb dX12_works_121 hlB5 (k := 3) rfl (by rw [e90]; rfl) (by decide) rfl (fun ls hl92 => ?_)
            clear hlB5 e90
            refine lv_goto (tgt := 5) hx hb dX12_works_124 (by decide) ?_
            exact ih5 x3_3 v121_89 isRefused__5 g70_84 _ _ _ h91 hV88 (lv_sub hl92 [1, 2, 3, 0] rfl)
        · have h18 := ieS c16 h15
          clear h15 c16
          obtain ⟨v22_93, e94, h95⟩ := nmI_s h18
          clear h18
          refine lv_iinc (v := v22_93) (lv' := [(3, .int v22_93), (0, .ref a0), (2, .int p2), (4, .int x4_4)]) hx hb dX12_works_22 hlB5 (k := 2) rfl (by rw [e94]; rfl) (by decide) rfl (fun ls hl96 => ?_)
          clear hlB5 e94
          refine lv_aload_n hx hb dX12_works_25 rfl (lv_at hl96 1 rfl) ?_
          refine lv_aload_n hx hb dX12_works_26 rfl (lv_at hl96 1 rfl) ?_
          refine kget X hVB5 (ci := 12) inlX12 rfl 0 rfl 11 (by decide) mw_146 rfl dX12_works_27 ?_
          refine lv_iload hx hb dX12_works_30 (lv_at hl96 3 rfl) ?_
          obtain ⟨hi98, v32_97, e99, h100⟩ := rdI_s h95
          clear h95
          refine kiald X hVB5 1 rfl hi98 e99 dX12_works_32 ?_
          clear hi98 e99
          refine lv_iload_n hx hb dX12_works_33 rfl (lv_at hl96 0 rfl) ?_
          refine lv_iconst (v := 1) hx hb dX12_works_34 (by decide) ?_
          refine lv_isub hx hb dX12_works_35 ?_
          obtain ⟨o_isRefused36_101, o_worth36_102, hc103, h104⟩ := cb2_s h100
          clear h100
          refine kgov (krunV (rest := []) X hVB5 [0, 3, 4] (c_X12_does l E _ a0 a3 a4 (w0_0) (w0_1) (w0_2) (w0_3) (w0_4) (w0_5) (w0_6) (w0_7) (w0_8) (w0_9) (w0_10) (.ref a1) (.ref a2) (w0_13) (w0_14) (w0_15) (w0_16) (w0_17) (w0_18) (w0_19) (w0_20) (w0_21) (w0_22) (w0_23) (w0_24) (w0_25) (w0_26) (w0_27) (.int s_atA) (.int s_atB) (.int s_atD) (.int s_atF) (.int s_atG) (.int s_atH) (.int s_atL) (.int s_atM) (.int s_atN) (.int s_atS) (.int s_atT) (.int s_atU) (.int s_atX) (w0_43) (w0_44) (w0_45) (w0_46) (w0_47) (w0_48) (w0_49) (w0_50) (w0_51) (w0_52) (w0_53) (w0_54) (w0_55) (w0_56) (w0_57) (w0_58) (w0_59) (w0_60) (w0_61) (w0_62) (w0_63) (w0_64) (w0_65) (w0_66) isRefused__5 worth__6 v32_97 (v22_93 - 1) o_isRefused36_101 o_worth36_102 hc103) mw_746 kb_X12_does (ci := 12) rfl rfl (by decide) rfl rfl hl96.1 rfl (Nat.le_of_ble_eq_true rfl) dX12_works_36 (by decide)) X hVB5 [0, 3, 4] [1, 2] rfl rfl rfl (by decide) (fun u H locs hp106 hV105 => ?_)
          have hV105 : kV E A s.heap H locs [(a0, .inr (12, [w0_0, w0_1, w0_2, w0_3, w0_4, w0_5, w0_6, w0_7, w0_8, w0_9, w0_10, .ref a1, .ref a2, w0_13, w0_14, w0_15, w0_16, w0_17, w0_18, w0_19, w0_20, w0_21, w0_22, w0_23, w0_24, w0_25, w0_26, w0_27, .int s_atA, .int s_atB, .int s_atD, .int s_atF, .int s_atG, .int s_atH, .int s_atL, .int s_atM, .int s_atN, .int s_atS, .int s_atT, .int s_atU, .int s_atX, .ref a4, .ref a3, w0_43, w0_44, w0_45, w0_46, w0_47, w0_48, w0_49, w0_50, w0_51, w0_52, w0_53, w0_54, w0_55, w0_56, w0_57, w0_58, w0_59, w0_60, w0_61, w0_62, w0_63, w0_64, w0_65, w0_66])), (a1, .inl (E.2 0, 2400, .inl s_code)), (a2, .inl (E.2 0, 2400, .inl s_codeArg)), (a3, .inl (E.2 2, 200, .inl o_isRefused36_101)), (a4, .inl (E.2 0, 200, .inl o_worth36_102))] := hV105.sub [2, 0, 1, 3, 4] rfl rfl
          clear hVB5
          refine lv_goto (tgt := 121) hx hb dX12_works_39 (by decide) ?_
          obtain ⟨v121_107, e108, h109⟩ := nmI_s h104
          clear h104
          refine lv_iinc (v := v121_107) (lv' := [(4, .int v121_107), (3, .int v22_93), (0, .ref a0), (2, .int p2)]) hx hb dX12_works_121 hl96 (k := 3) rfl (by rw [e108]; rfl) (by decide) rfl (fun ls hl110 => ?_)
          clear hl96 e108
          refine lv_goto (tgt := 5) hx hb dX12_works_124 (by decide) ?_
          exact ih5 v22_93 v121_107 o_isRefused36_101 o_worth36_102 _ _ _ h109 hV105 (lv_sub hl110 [2, 3, 1, 0] rfl)
  exact L5 FU 0 p1 s_isRefused s_worth _ _ _ h hV (lv_sub hl2 [2, 4, 1, 0] rfl)
abbrev r_X12_holds : Room := { frames := 3, cells := 0, slots := 0, locals := 69 }
set_option maxHeartbeats 4000000 in
set_option maxRecDepth 100000 in
theorem c_X12_holds (l : Launch) (E : kE) (sz : Nat) (a0 a1 a2 a3 a4 a5 a6 : Nat) (w0_0 w0_1 w0_2 w0_3 w0_4 w0_5 w0_6 w0_7 w0_8 w0_13 w0_14 w0_15 w0_16 w0_17 w0_18 w0_19 w0_20 w0_21 w0_22 w0_23 w0_24 w0_25 w0_26 w0_27 w0_43 w0_44 w0_45 w0_46 w0_47 w0_48 w0_49 w0_50 w0_51 w0_52 w0_53 w0_54 w0_55 w0_56 w0_57 w0_58 w0_59 w0_60 w0_61 w0_62 w0_63 w0_64 w0_65 w0_66 : Value) (s_atA : Int32) (s_atB : Int32) (s_atD : Int32) (s_atF : Int32) (s_atG : Int32) (s_atH : Int32) (s_atL : Int32) (s_atM : Int32) (s_atN : Int32) (s_atS : Int32) (s_atT : Int32) (s_atU : Int32) (s_atX : Int32) (s_code : Nat → Int32) (s_codeArg : Nat → Int32) (s_codeFrom : Nat → Int32) (s_codeTo : Nat → Int32) (s_isRefused : Nat → Int32) (s_worth : Nat → Int32) (p1 : Int32) (r : Int32) (o_isRefused : Nat → Int32) (o_worth : Nat → Int32) (h : f_X12_holds s_atA s_atB s_atD s_atF s_atG s_atH s_atL s_atM s_atN s_atS s_atT s_atU s_atX s_code s_codeArg s_codeFrom s_codeTo s_isRefused s_worth p1 = some (r, o_isRefused, o_worth)) : kMi l yX12_holds cX12_holds 2 (some .boolean) r_X12_holds [.ref a0, .int p1] E [(a0, .inr (12, [w0_0, w0_1, w0_2, w0_3, w0_4, w0_5, w0_6, w0_7, w0_8, .ref a3, .ref a4, .ref a1, .ref a2, w0_13, w0_14, w0_15, w0_16, w0_17, w0_18, w0_19, w0_20, w0_21, w0_22, w0_23, w0_24, w0_25, w0_26, w0_27, .int s_atA, .int s_atB, .int s_atD, .int s_atF, .int s_atG, .int s_atH, .int s_atL, .int s_atM, .int s_atN, .int s_atS, .int s_atT, .int s_atU, .int s_atX, .ref a6, .ref a5, w0_43, w0_44, w0_45, w0_46, w0_47, w0_48, w0_49, w0_50, w0_51, w0_52, w0_53, w0_54, w0_55, w0_56, w0_57, w0_58, w0_59, w0_60, w0_61, w0_62, w0_63, w0_64, w0_65, w0_66])), (a1, .inl (E.2 0, 2400, .inl s_code)), (a2, .inl (E.2 0, 2400, .inl s_codeArg)), (a3, .inl (E.2 0, 240, .inl s_codeFrom)), (a4, .inl (E.2 0, 240, .inl s_codeTo)), (a5, .inl (E.2 2, 200, .inl s_isRefused)), (a6, .inl (E.2 0, 200, .inl s_worth))] sz 0 0 (fun x (_ : Unit) => x = r) (fun _ => [(a0, .inr (12, [w0_0, w0_1, w0_2, w0_3, w0_4, w0_5, w0_6, w0_7, w0_8, .ref a3, .ref a4, .ref a1, .ref a2, w0_13, w0_14, w0_15, w0_16, w0_17, w0_18, w0_19, w0_20, w0_21, w0_22, w0_23, w0_24, w0_25, w0_26, w0_27, .int s_atA, .int s_atB, .int s_atD, .int s_atF, .int s_atG, .int s_atH, .int s_atL, .int s_atM, .int s_atN, .int s_atS, .int s_atT, .int s_atU, .int s_atX, .ref a6, .ref a5, w0_43, w0_44, w0_45, w0_46, w0_47, w0_48, w0_49, w0_50, w0_51, w0_52, w0_53, w0_54, w0_55, w0_56, w0_57, w0_58, w0_59, w0_60, w0_61, w0_62, w0_63, w0_64, w0_65, w0_66])), (a1, .inl (E.2 0, 2400, .inl s_code)), (a2, .inl (E.2 0, 2400, .inl s_codeArg)), (a3, .inl (E.2 0, 240, .inl s_codeFrom)), (a4, .inl (E.2 0, 240, .inl s_codeTo)), (a5, .inl (E.2 2, 200, .inl o_isRefused)), (a6, .inl (E.2 0, 200, .inl o_worth))]) := by
  refine kmeti rfl (Nat.le_of_ble_eq_true rfl) ?_
  intro p e s m args below meth c ls A Q X hV hret hl
  have X : kC p s m c cX12_holds 2 RX12 args E A := X
  have hx := X.1
  have hb := X.2.1
  have hl : lv_has ls 2 [(0, .ref a0), (1, .int p1)] := hl
  rw [f_X12_holds] at h
  refine lv_aload_n hx hb dX12_holds_0 rfl (lv_at hl 0 rfl) ?_
  refine lv_aload_n hx hb dX12_holds_1 rfl (lv_at hl 0 rfl) ?_
  refine kget X hV (ci := 12) inlX12 rfl 0 rfl 9 (by decide) mw_144 rfl dX12_holds_2 ?_
  refine lv_iload_n hx hb dX12_holds_5 rfl (lv_at hl 1 rfl) ?_
  obtain ⟨hi2, v6_1, e3, h4⟩ := rdI_s h
  clear h
  refine kiald X hV 3 rfl hi2 e3 dX12_holds_6 ?_
  clear hi2 e3
  refine lv_aload_n hx hb dX12_holds_7 rfl (lv_at hl 0 rfl) ?_
  refine kget X hV (ci := 12) inlX12 rfl 0 rfl 10 (by decide) mw_145 rfl dX12_holds_8 ?_
  refine lv_iload_n hx hb dX12_holds_11 rfl (lv_at hl 1 rfl) ?_
  obtain ⟨hi6, v12_5, e7, h8⟩ := rdI_s h4
  clear h4
  refine kiald X hV 4 rfl hi6 e7 dX12_holds_12 ?_
  clear hi6 e7
  obtain ⟨o_isRefused13_9, o_worth13_10, hc11, h12⟩ := cb2_s h8
  clear h8
  refine kgov (krunV (rest := []) X hV [0, 1, 2, 5, 6] (c_X12_works l E _ a0 a1 a2 a5 a6 (w0_0) (w0_1) (w0_2) (w0_3) (w0_4) (w0_5) (w0_6) (w0_7) (w0_8) (.ref a3) (.ref a4) (w0_13) (w0_14) (w0_15) (w0_16) (w0_17) (w0_18) (w0_19) (w0_20) (w0_21) (w0_22) (w0_23) (w0_24) (w0_25) (w0_26) (w0_27) (w0_43) (w0_44) (w0_45) (w0_46) (w0_47) (w0_48) (w0_49) (w0_50) (w0_51) (w0_52) (w0_53) (w0_54) (w0_55) (w0_56) (w0_57) (w0_58) (w0_59) (w0_60) (w0_61) (w0_62) (w0_63) (w0_64) (w0_65) (w0_66) s_atA s_atB s_atD s_atF s_atG s_atH s_atL s_atM s_atN s_atS s_atT s_atU s_atX s_code s_codeArg s_isRefused s_worth v6_1 v12_5 o_isRefused13_9 o_worth13_10 hc11) mw_742 kb_X12_works (ci := 12) rfl rfl (by decide) rfl rfl hl.1 rfl (Nat.le_of_ble_eq_true rfl) dX12_holds_13 (by decide)) X hV [0, 1, 2, 5, 6] [3, 4] rfl rfl rfl (by decide) (fun u H locs hp14 hV13 => ?_)
  have hV13 : kV E A s.heap H locs [(a0, .inr (12, [w0_0, w0_1, w0_2, w0_3, w0_4, w0_5, w0_6, w0_7, w0_8, .ref a3, .ref a4, .ref a1, .ref a2, w0_13, w0_14, w0_15, w0_16, w0_17, w0_18, w0_19, w0_20, w0_21, w0_22, w0_23, w0_24, w0_25, w0_26, w0_27, .int s_atA, .int s_atB, .int s_atD, .int s_atF, .int s_atG, .int s_atH, .int s_atL, .int s_atM, .int s_atN, .int s_atS, .int s_atT, .int s_atU, .int s_atX, .ref a6, .ref a5, w0_43, w0_44, w0_45, w0_46, w0_47, w0_48, w0_49, w0_50, w0_51, w0_52, w0_53, w0_54, w0_55, w0_56, w0_57, w0_58, w0_59, w0_60, w0_61, w0_62, w0_63, w0_64, w0_65, w0_66])), (a1, .inl (E.2 0, 2400, .inl s_code)), (a2, .inl (E.2 0, 2400, .inl s_codeArg)), (a3, .inl (E.2 0, 240, .inl s_codeFrom)), (a4, .inl (E.2 0, 240, .inl s_codeTo)), (a5, .inl (E.2 2, 200, .inl o_isRefused13_9)), (a6, .inl (E.2 0, 200, .inl o_worth13_10))] := hV13.sub [2, 3, 4, 0, 1, 5, 6] rfl rfl
  clear hV
  refine lv_aload_n hx hb dX12_holds_16 rfl (lv_at hl 0 rfl) ?_
  refine kget X hV13 (ci := 12) inlX12 rfl 0 rfl 42 (by decide) mw_156 rfl dX12_holds_17 ?_
  refine lv_iconst (v := 0) hx hb dX12_holds_20 (by decide) ?_
  obtain ⟨hi16, v21_15, e17, h18⟩ := rdI_s h12
  clear h12
  refine kzald X hV13 5 rfl hi16 e17 dX12_holds_21 ?_
  clear hi16 e17
  refine lv_if_ne (tgt := 39) hx hb dX12_holds_22 (by decide) (fun c19 => ?_) (fun c19 => ?_)
  · have h20 := ieS c19 h18
    clear h18 c19
    refine lv_iconst (v := 0) hx hb dX12_holds_39 (by decide) ?_
    obtain ⟨q22, q23, q24⟩ := tup3_s h20
    clear h20
    exact hret _ () _ _ _ _ q22 rfl (by rw [← q23, ← q24]; exact hV13) dX12_holds_40
  · have h21 := itS c19 h18
    clear h18 c19
    refine lv_aload_n hx hb dX12_holds_25 rfl (lv_at hl 0 rfl) ?_
    refine kget X hV13 (ci := 12) inlX12 rfl 0 rfl 41 (by decide) mw_154 rfl dX12_holds_26 ?_
    refine lv_iconst (v := 0) hx hb dX12_holds_29 (by decide) ?_
    obtain ⟨hi26, v30_25, e27, h28⟩ := rdI_s h21
    clear h21
    refine kiald X hV13 6 rfl hi26 e27 dX12_holds_30 ?_
    clear hi26 e27
    refine lv_iconst (v := 1) hx hb dX12_holds_31 (by decide) ?_
    refine lv_icmp_ne (tgt := 39) hx hb dX12_holds_32 (by decide) (fun c29 => ?_) (fun c29 => ?_)
    · have h30 := ieS c29 h28
      clear h28 c29
      refine lv_iconst (v := 0) hx hb dX12_holds_39 (by decide) ?_
      obtain ⟨q32, q33, q34⟩ := tup3_s h30
      clear h30
      exact hret _ () _ _ _ _ q32 rfl (by rw [← q33, ← q34]; exact hV13) dX12_holds_40
    · have h31 := itS c29 h28
      clear h28 c29
      refine lv_iconst (v := 1) hx hb dX12_holds_35 (by decide) ?_
      refine lv_goto (tgt := 40) hx hb dX12_holds_36 (by decide) ?_
      obtain ⟨q35, q36, q37⟩ := tup3_s h31
      clear h31
      exact hret _ () _ _ _ _ q35 rfl (by rw [← q36, ← q37]; exact hV13) dX12_holds_40
abbrev r_X12_sumOf : Room := { frames := 3, cells := 0, slots := 0, locals := 69 }
set_option maxHeartbeats 4000000 in
set_option maxRecDepth 100000 in
theorem c_X12_sumOf (l : Launch) (E : kE) (sz : Nat) (a0 a1 a2 a3 a4 a5 a6 : Nat) (w0_0 w0_1 w0_2 w0_3 w0_4 w0_5 w0_6 w0_7 w0_10 w0_13 w0_14 w0_15 w0_16 w0_17 w0_18 w0_19 w0_20 w0_21 w0_22 w0_23 w0_24 w0_25 w0_26 w0_27 w0_43 w0_44 w0_45 w0_46 w0_47 w0_48 w0_49 w0_50 w0_51 w0_52 w0_53 w0_54 w0_55 w0_56 w0_57 w0_58 w0_59 w0_60 w0_61 w0_62 w0_63 w0_64 w0_65 w0_66 : Value) (s_atA : Int32) (s_atB : Int32) (s_atD : Int32) (s_atF : Int32) (s_atG : Int32) (s_atH : Int32) (s_atL : Int32) (s_atM : Int32) (s_atN : Int32) (s_atS : Int32) (s_atT : Int32) (s_atU : Int32) (s_atX : Int32) (s_code : Nat → Int32) (s_codeArg : Nat → Int32) (s_codeFrom : Nat → Int32) (s_isRefused : Nat → Int32) (s_sumFrom : Nat → Int32) (s_worth : Nat → Int32) (p1 : Int32) (r : Int32) (o_isRefused : Nat → Int32) (o_worth : Nat → Int32) (h : f_X12_sumOf s_atA s_atB s_atD s_atF s_atG s_atH s_atL s_atM s_atN s_atS s_atT s_atU s_atX s_code s_codeArg s_codeFrom s_isRefused s_sumFrom s_worth p1 = some (r, o_isRefused, o_worth)) : kMi l yX12_sumOf cX12_sumOf 2 (some .int) r_X12_sumOf [.ref a0, .int p1] E [(a0, .inr (12, [w0_0, w0_1, w0_2, w0_3, w0_4, w0_5, w0_6, w0_7, .ref a5, .ref a3, w0_10, .ref a1, .ref a2, w0_13, w0_14, w0_15, w0_16, w0_17, w0_18, w0_19, w0_20, w0_21, w0_22, w0_23, w0_24, w0_25, w0_26, w0_27, .int s_atA, .int s_atB, .int s_atD, .int s_atF, .int s_atG, .int s_atH, .int s_atL, .int s_atM, .int s_atN, .int s_atS, .int s_atT, .int s_atU, .int s_atX, .ref a6, .ref a4, w0_43, w0_44, w0_45, w0_46, w0_47, w0_48, w0_49, w0_50, w0_51, w0_52, w0_53, w0_54, w0_55, w0_56, w0_57, w0_58, w0_59, w0_60, w0_61, w0_62, w0_63, w0_64, w0_65, w0_66])), (a1, .inl (E.2 0, 2400, .inl s_code)), (a2, .inl (E.2 0, 2400, .inl s_codeArg)), (a3, .inl (E.2 0, 240, .inl s_codeFrom)), (a4, .inl (E.2 2, 200, .inl s_isRefused)), (a5, .inl (E.2 0, 240, .inl s_sumFrom)), (a6, .inl (E.2 0, 200, .inl s_worth))] sz 0 0 (fun x (_ : Unit) => x = r) (fun _ => [(a0, .inr (12, [w0_0, w0_1, w0_2, w0_3, w0_4, w0_5, w0_6, w0_7, .ref a5, .ref a3, w0_10, .ref a1, .ref a2, w0_13, w0_14, w0_15, w0_16, w0_17, w0_18, w0_19, w0_20, w0_21, w0_22, w0_23, w0_24, w0_25, w0_26, w0_27, .int s_atA, .int s_atB, .int s_atD, .int s_atF, .int s_atG, .int s_atH, .int s_atL, .int s_atM, .int s_atN, .int s_atS, .int s_atT, .int s_atU, .int s_atX, .ref a6, .ref a4, w0_43, w0_44, w0_45, w0_46, w0_47, w0_48, w0_49, w0_50, w0_51, w0_52, w0_53, w0_54, w0_55, w0_56, w0_57, w0_58, w0_59, w0_60, w0_61, w0_62, w0_63, w0_64, w0_65, w0_66])), (a1, .inl (E.2 0, 2400, .inl s_code)), (a2, .inl (E.2 0, 2400, .inl s_codeArg)), (a3, .inl (E.2 0, 240, .inl s_codeFrom)), (a4, .inl (E.2 2, 200, .inl o_isRefused)), (a5, .inl (E.2 0, 240, .inl s_sumFrom)), (a6, .inl (E.2 0, 200, .inl o_worth))]) := by
  refine kmeti rfl (Nat.le_of_ble_eq_true rfl) ?_
  intro p e s m args below meth c ls A Q X hV hret hl
  have X : kC p s m c cX12_sumOf 2 RX12 args E A := X
  have hx := X.1
  have hb := X.2.1
  have hl : lv_has ls 2 [(0, .ref a0), (1, .int p1)] := hl
  rw [f_X12_sumOf] at h
  refine lv_aload_n hx hb dX12_sumOf_0 rfl (lv_at hl 0 rfl) ?_
  refine lv_aload_n hx hb dX12_sumOf_1 rfl (lv_at hl 0 rfl) ?_
  refine kget X hV (ci := 12) inlX12 rfl 0 rfl 8 (by decide) mw_143 rfl dX12_sumOf_2 ?_
  refine lv_iload_n hx hb dX12_sumOf_5 rfl (lv_at hl 1 rfl) ?_
  obtain ⟨hi2, v6_1, e3, h4⟩ := rdI_s h
  clear h
  refine kiald X hV 5 rfl hi2 e3 dX12_sumOf_6 ?_
  clear hi2 e3
  refine lv_aload_n hx hb dX12_sumOf_7 rfl (lv_at hl 0 rfl) ?_
  refine kget X hV (ci := 12) inlX12 rfl 0 rfl 9 (by decide) mw_144 rfl dX12_sumOf_8 ?_
  refine lv_iload_n hx hb dX12_sumOf_11 rfl (lv_at hl 1 rfl) ?_
  obtain ⟨hi6, v12_5, e7, h8⟩ := rdI_s h4
  clear h4
  refine kiald X hV 3 rfl hi6 e7 dX12_sumOf_12 ?_
  clear hi6 e7
  obtain ⟨o_isRefused13_9, o_worth13_10, hc11, h12⟩ := cb2_s h8
  clear h8
  refine kgov (krunV (rest := []) X hV [0, 1, 2, 4, 6] (c_X12_works l E _ a0 a1 a2 a4 a6 (w0_0) (w0_1) (w0_2) (w0_3) (w0_4) (w0_5) (w0_6) (w0_7) (.ref a5) (.ref a3) (w0_10) (w0_13) (w0_14) (w0_15) (w0_16) (w0_17) (w0_18) (w0_19) (w0_20) (w0_21) (w0_22) (w0_23) (w0_24) (w0_25) (w0_26) (w0_27) (w0_43) (w0_44) (w0_45) (w0_46) (w0_47) (w0_48) (w0_49) (w0_50) (w0_51) (w0_52) (w0_53) (w0_54) (w0_55) (w0_56) (w0_57) (w0_58) (w0_59) (w0_60) (w0_61) (w0_62) (w0_63) (w0_64) (w0_65) (w0_66) s_atA s_atB s_atD s_atF s_atG s_atH s_atL s_atM s_atN s_atS s_atT s_atU s_atX s_code s_codeArg s_isRefused s_worth v6_1 v12_5 o_isRefused13_9 o_worth13_10 hc11) mw_742 kb_X12_works (ci := 12) rfl rfl (by decide) rfl rfl hl.1 rfl (Nat.le_of_ble_eq_true rfl) dX12_sumOf_13 (by decide)) X hV [0, 1, 2, 4, 6] [3, 5] rfl rfl rfl (by decide) (fun u H locs hp14 hV13 => ?_)
  have hV13 : kV E A s.heap H locs [(a0, .inr (12, [w0_0, w0_1, w0_2, w0_3, w0_4, w0_5, w0_6, w0_7, .ref a5, .ref a3, w0_10, .ref a1, .ref a2, w0_13, w0_14, w0_15, w0_16, w0_17, w0_18, w0_19, w0_20, w0_21, w0_22, w0_23, w0_24, w0_25, w0_26, w0_27, .int s_atA, .int s_atB, .int s_atD, .int s_atF, .int s_atG, .int s_atH, .int s_atL, .int s_atM, .int s_atN, .int s_atS, .int s_atT, .int s_atU, .int s_atX, .ref a6, .ref a4, w0_43, w0_44, w0_45, w0_46, w0_47, w0_48, w0_49, w0_50, w0_51, w0_52, w0_53, w0_54, w0_55, w0_56, w0_57, w0_58, w0_59, w0_60, w0_61, w0_62, w0_63, w0_64, w0_65, w0_66])), (a1, .inl (E.2 0, 2400, .inl s_code)), (a2, .inl (E.2 0, 2400, .inl s_codeArg)), (a3, .inl (E.2 0, 240, .inl s_codeFrom)), (a4, .inl (E.2 2, 200, .inl o_isRefused13_9)), (a5, .inl (E.2 0, 240, .inl s_sumFrom)), (a6, .inl (E.2 0, 200, .inl o_worth13_10))] := hV13.sub [2, 3, 4, 0, 5, 1, 6] rfl rfl
  clear hV
  refine lv_aload_n hx hb dX12_sumOf_16 rfl (lv_at hl 0 rfl) ?_
  refine kget X hV13 (ci := 12) inlX12 rfl 0 rfl 42 (by decide) mw_156 rfl dX12_sumOf_17 ?_
  refine lv_iconst (v := 0) hx hb dX12_sumOf_20 (by decide) ?_
  obtain ⟨hi16, v21_15, e17, h18⟩ := rdI_s h12
  clear h12
  refine kzald X hV13 4 rfl hi16 e17 dX12_sumOf_21 ?_
  clear hi16 e17
  refine lv_if_eq (tgt := 29) hx hb dX12_sumOf_22 (by decide) (fun c19 => ?_) (fun c19 => ?_)
  · have h20 := itS c19 h18
    clear h18 c19
    refine lv_aload_n hx hb dX12_sumOf_29 rfl (lv_at hl 0 rfl) ?_
    refine kget X hV13 (ci := 12) inlX12 rfl 0 rfl 41 (by decide) mw_154 rfl dX12_sumOf_30 ?_
    refine lv_iconst (v := 0) hx hb dX12_sumOf_33 (by decide) ?_
    obtain ⟨hi23, v34_22, e24, h25⟩ := rdI_s h20
    clear h20
    refine kiald X hV13 6 rfl hi23 e24 dX12_sumOf_34 ?_
    clear hi23 e24
    obtain ⟨q26, q27, q28⟩ := tup3_s h25
    clear h25
    exact hret _ () _ _ _ _ q26 rfl (by rw [← q27, ← q28]; exact hV13) dX12_sumOf_35
  · have h21 := ieS c19 h18
    clear h18 c19
    refine lv_iconst (v := 0) hx hb dX12_sumOf_25 (by decide) ?_
    refine lv_goto (tgt := 35) hx hb dX12_sumOf_26 (by decide) ?_
    obtain ⟨q29, q30, q31⟩ := tup3_s h21
    clear h21
    exact hret _ () _ _ _ _ q29 rfl (by rw [← q30, ← q31]; exact hV13) dX12_sumOf_35
abbrev r_X12_isDay : Room := { frames := 1, cells := 0, slots := 0, locals := 25 }
set_option maxHeartbeats 4000000 in
set_option maxRecDepth 100000 in
theorem c_X12_isDay (l : Launch) (E : kE) (sz : Nat) (p1 : Int32) (r : Int32) (h : f_X12_isDay p1 = some (r)) : kMi l yX12_isDay cX12_isDay 1 (some .boolean) r_X12_isDay [.int p1] E [] sz 0 0 (fun x (_ : Unit) => x = r) (fun _ => []) := by
  refine kmeti rfl (Nat.le_of_ble_eq_true rfl) ?_
  intro p e s m args below meth c ls A Q X hV hret hl
  have X : kC p s m c cX12_isDay 1 RX12 args E A := X
  have hx := X.1
  have hb := X.2.1
  have hl : lv_has ls 1 [(0, .int p1)] := hl
  rw [f_X12_isDay] at h
  refine lv_iload_n hx hb dX12_isDay_0 rfl (lv_at hl 0 rfl) ?_
  refine lv_i2l (v := Int32.toInt64 p1) hx hb dX12_isDay_1 rfl ?_
  refine lv_lconst (v := 0) hx hb dX12_isDay_2 (by decide) ?_
  refine lv_ldc2 (v := 399) hx hb X.2.2.2.1 (X.2.2.2.2.1 _ mw_635) dX12_isDay_3 ?_
  obtain ⟨r6_1, hc2, h3⟩ := cb1_s h
  clear h
  refine kgoiE (krunS (rest := []) X hV [] (c_X12_lies l E _ (Int32.toInt64 p1) 0 399 r6_1 hc2) mw_224 kb_X12_lies (by decide) rfl rfl hl.1 rfl (Nat.le_of_ble_eq_true rfl) dX12_isDay_6 (by decide)) X hV [] [] rfl rfl rfl (by decide) (fun u H locs hV4 => ?_)
  have hV4 : kV E A s.heap H locs [] := hV4.sub [] rfl rfl
  clear hV
  obtain ⟨hb6, h7⟩ := bo_s h3
  clear h3
  have q8 := tup1_s h7
  clear h7
  exact hret _ () _ _ _ _ q8 hb6 hV4 dX12_isDay_9
abbrev r_X12_isMinute : Room := { frames := 1, cells := 0, slots := 0, locals := 25 }
set_option maxHeartbeats 4000000 in
set_option maxRecDepth 100000 in
theorem c_X12_isMinute (l : Launch) (E : kE) (sz : Nat) (p1 : Int32) (r : Int32) (h : f_X12_isMinute p1 = some (r)) : kMi l yX12_isMinute cX12_isMinute 1 (some .boolean) r_X12_isMinute [.int p1] E [] sz 0 0 (fun x (_ : Unit) => x = r) (fun _ => []) := by
  refine kmeti rfl (Nat.le_of_ble_eq_true rfl) ?_
  intro p e s m args below meth c ls A Q X hV hret hl
  have X : kC p s m c cX12_isMinute 1 RX12 args E A := X
  have hx := X.1
  have hb := X.2.1
  have hl : lv_has ls 1 [(0, .int p1)] := hl
  rw [f_X12_isMinute] at h
  refine lv_iload_n hx hb dX12_isMinute_0 rfl (lv_at hl 0 rfl) ?_
  refine lv_i2l (v := Int32.toInt64 p1) hx hb dX12_isMinute_1 rfl ?_
  refine lv_lconst (v := 0) hx hb dX12_isMinute_2 (by decide) ?_
  refine lv_ldc2 (v := 1439) hx hb X.2.2.2.1 (X.2.2.2.2.1 _ mw_223) dX12_isMinute_3 ?_
  obtain ⟨r6_1, hc2, h3⟩ := cb1_s h
  clear h
  refine kgoiE (krunS (rest := []) X hV [] (c_X12_lies l E _ (Int32.toInt64 p1) 0 1439 r6_1 hc2) mw_224 kb_X12_lies (by decide) rfl rfl hl.1 rfl (Nat.le_of_ble_eq_true rfl) dX12_isMinute_6 (by decide)) X hV [] [] rfl rfl rfl (by decide) (fun u H locs hV4 => ?_)
  have hV4 : kV E A s.heap H locs [] := hV4.sub [] rfl rfl
  clear hV
  obtain ⟨hb6, h7⟩ := bo_s h3
  clear h3
  have q8 := tup1_s h7
  clear h7
  exact hret _ () _ _ _ _ q8 hb6 hV4 dX12_isMinute_9
abbrev r_X12_source : Room := { frames := 2, cells := 0, slots := 0, locals := 45 }
set_option maxHeartbeats 4000000 in
set_option maxRecDepth 100000 in
theorem c_X12_source (l : Launch) (E : kE) (sz : Nat) (a0 a1 a2 a3 a4 a5 : Nat) (w0_0 w0_1 w0_3 w0_4 w0_5 w0_6 w0_7 w0_8 w0_9 w0_10 w0_11 w0_12 w0_13 w0_14 w0_15 w0_16 w0_17 w0_18 w0_19 w0_20 w0_21 w0_22 w0_23 w0_24 w0_25 w0_26 w0_27 w0_28 w0_29 w0_30 w0_31 w0_32 w0_33 w0_34 w0_35 w0_36 w0_37 w0_38 w0_39 w0_40 w0_41 w0_42 w0_48 w0_49 w0_50 w0_51 w0_52 w0_53 w0_54 w0_55 w0_56 w0_57 w0_58 w0_59 w0_60 w0_61 w0_62 w0_63 w0_64 w0_65 w0_66 : Value) (s_sources : Int32) (s_byStar : Nat → Int32) (s_minuteOf : Nat → Int32) (s_shape : Nat → Int32) (s_weekdays : Nat → Int32) (s_wide : Nat → Int32) (p1 : Int32) (p2 : Int32) (p3 : Int32) (p4 : Int32) (p5 : Int32) (r : Int32) (o_sources : Int32) (o_byStar : Nat → Int32) (o_minuteOf : Nat → Int32) (o_shape : Nat → Int32) (o_weekdays : Nat → Int32) (o_wide : Nat → Int32) (h : f_X12_source s_sources s_byStar s_minuteOf s_shape s_weekdays s_wide p1 p2 p3 p4 p5 = some (r, o_sources, o_byStar, o_minuteOf, o_shape, o_weekdays, o_wide)) : kMi l yX12_source cX12_source 6 (some .int) r_X12_source [.ref a0, .int p1, .int p2, .int p3, .int p4, .int p5] E [(a0, .inr (12, [w0_0, w0_1, .int s_sources, w0_3, w0_4, w0_5, w0_6, w0_7, w0_8, w0_9, w0_10, w0_11, w0_12, w0_13, w0_14, w0_15, w0_16, w0_17, w0_18, w0_19, w0_20, w0_21, w0_22, w0_23, w0_24, w0_25, w0_26, w0_27, w0_28, w0_29, w0_30, w0_31, w0_32, w0_33, w0_34, w0_35, w0_36, w0_37, w0_38, w0_39, w0_40, w0_41, w0_42, .ref a1, .ref a2, .ref a5, .ref a3, .ref a4, w0_48, w0_49, w0_50, w0_51, w0_52, w0_53, w0_54, w0_55, w0_56, w0_57, w0_58, w0_59, w0_60, w0_61, w0_62, w0_63, w0_64, w0_65, w0_66])), (a1, .inl (E.2 2, 10, .inl s_byStar)), (a2, .inl (E.2 0, 10, .inl s_minuteOf)), (a3, .inl (E.2 0, 10, .inl s_shape)), (a4, .inl (E.2 0, 10, .inl s_weekdays)), (a5, .inl (E.2 0, 10, .inl s_wide))] sz 0 0 (fun x (_ : Unit) => x = r) (fun _ => [(a0, .inr (12, [w0_0, w0_1, .int o_sources, w0_3, w0_4, w0_5, w0_6, w0_7, w0_8, w0_9, w0_10, w0_11, w0_12, w0_13, w0_14, w0_15, w0_16, w0_17, w0_18, w0_19, w0_20, w0_21, w0_22, w0_23, w0_24, w0_25, w0_26, w0_27, w0_28, w0_29, w0_30, w0_31, w0_32, w0_33, w0_34, w0_35, w0_36, w0_37, w0_38, w0_39, w0_40, w0_41, w0_42, .ref a1, .ref a2, .ref a5, .ref a3, .ref a4, w0_48, w0_49, w0_50, w0_51, w0_52, w0_53, w0_54, w0_55, w0_56, w0_57, w0_58, w0_59, w0_60, w0_61, w0_62, w0_63, w0_64, w0_65, w0_66])), (a1, .inl (E.2 2, 10, .inl o_byStar)), (a2, .inl (E.2 0, 10, .inl o_minuteOf)), (a3, .inl (E.2 0, 10, .inl o_shape)), (a4, .inl (E.2 0, 10, .inl o_weekdays)), (a5, .inl (E.2 0, 10, .inl o_wide))]) := by
  refine kmeti rfl (Nat.le_of_ble_eq_true rfl) ?_
  intro p e s m args below meth c ls A Q X hV hret hl
  have X : kC p s m c cX12_source 6 RX12 args E A := X
  have hx := X.1
  have hb := X.2.1
  have hl : lv_has ls 6 [(0, .ref a0), (1, .int p1), (2, .int p2), (3, .int p3), (4, .int p4), (5, .int p5)] := hl
  rw [f_X12_source] at h
  refine lv_aload_n hx hb dX12_source_0 rfl (lv_at hl 0 rfl) ?_
  refine kget X hV (ci := 12) inlX12 rfl 0 rfl 2 (by decide) mw_216 rfl dX12_source_1 ?_
  refine lv_bipush (v := 10) hx hb dX12_source_4 (by decide) ?_
  refine lv_icmp_eq (tgt := 54) hx hb dX12_source_6 (by decide) (fun c1 => ?_) (fun c1 => ?_)
  · have h2 := itS c1 h
    clear h c1
    refine lv_iconst (v := (-1)) hx hb dX12_source_54 (by decide) ?_
    obtain ⟨q4, q5, q6, q7, q8, q9, q10⟩ := tup7_s h2
    clear h2
    exact hret _ () _ _ _ _ q4 rfl (by rw [← q5, ← q6, ← q7, ← q8, ← q9, ← q10]; exact hV) dX12_source_55
  · have h3 := ieS c1 h
    clear h c1
    refine lv_iload_n hx hb dX12_source_9 rfl (lv_at hl 2 rfl) ?_
    obtain ⟨r10_11, hc12, h13⟩ := cb1_s h3
    clear h3
    refine kgoiE (krunS (rest := []) X hV [] (c_X12_isMinute l E _ p2 r10_11 hc12) mw_220 kb_X12_isMinute (by decide) rfl rfl hl.1 rfl (Nat.le_of_ble_eq_true rfl) dX12_source_10 (by decide)) X hV [] [0, 1, 2, 3, 4, 5] rfl rfl rfl (by decide) (fun u H locs hV14 => ?_)
    have hV14 : kV E A s.heap H locs [(a0, .inr (12, [w0_0, w0_1, .int s_sources, w0_3, w0_4, w0_5, w0_6, w0_7, w0_8, w0_9, w0_10, w0_11, w0_12, w0_13, w0_14, w0_15, w0_16, w0_17, w0_18, w0_19, w0_20, w0_21, w0_22, w0_23, w0_24, w0_25, w0_26, w0_27, w0_28, w0_29, w0_30, w0_31, w0_32, w0_33, w0_34, w0_35, w0_36, w0_37, w0_38, w0_39, w0_40, w0_41, w0_42, .ref a1, .ref a2, .ref a5, .ref a3, .ref a4, w0_48, w0_49, w0_50, w0_51, w0_52, w0_53, w0_54, w0_55, w0_56, w0_57, w0_58, w0_59, w0_60, w0_61, w0_62, w0_63, w0_64, w0_65, w0_66])), (a1, .inl (E.2 2, 10, .inl s_byStar)), (a2, .inl (E.2 0, 10, .inl s_minuteOf)), (a3, .inl (E.2 0, 10, .inl s_shape)), (a4, .inl (E.2 0, 10, .inl s_weekdays)), (a5, .inl (E.2 0, 10, .inl s_wide))] := hV14.sub [0, 1, 2, 3, 4, 5] rfl rfl
    clear hV
    refine lv_if_eq (tgt := 54) hx hb dX12_source_13 (by decide) (fun c16 => ?_) (fun c16 => ?_)
    · have h17 := itS c16 h13
      clear h13 c16
      refine lv_iconst (v := (-1)) hx hb dX12_source_54 (by decide) ?_
      obtain ⟨q19, q20, q21, q22, q23, q24, q25⟩ := tup7_s h17
      clear h17
      exact hret _ () _ _ _ _ q19 rfl (by rw [← q20, ← q21, ← q22, ← q23, ← q24, ← q25]; exact hV14) dX12_source_55
    · have h18 := ieS c16 h13
      clear h13 c16
      refine lv_iload_n hx hb dX12_source_16 rfl (lv_at hl 3 rfl) ?_
      refine lv_i2l (v := Int32.toInt64 p3) hx hb dX12_source_17 rfl ?_
      refine lv_lconst (v := 0) hx hb dX12_source_18 (by decide) ?_
      refine lv_ldc2 (v := 30) hx hb X.2.2.2.1 (X.2.2.2.2.1 _ mw_217) dX12_source_19 ?_
      obtain ⟨r22_26, hc27, h28⟩ := cb1_s h18
      clear h18
      refine kgoiE (krunS (rest := []) X hV14 [] (c_X12_lies l E _ (Int32.toInt64 p3) 0 30 r22_26 hc27) mw_224 kb_X12_lies (by decide) rfl rfl hl.1 rfl (Nat.le_of_ble_eq_true rfl) dX12_source_22 (by decide)) X hV14 [] [0, 1, 2, 3, 4, 5] rfl rfl rfl (by decide) (fun u H locs hV29 => ?_)
      have hV29 : kV E A s.heap H locs [(a0, .inr (12, [w0_0, w0_1, .int s_sources, w0_3, w0_4, w0_5, w0_6, w0_7, w0_8, w0_9, w0_10, w0_11, w0_12, w0_13, w0_14, w0_15, w0_16, w0_17, w0_18, w0_19, w0_20, w0_21, w0_22, w0_23, w0_24, w0_25, w0_26, w0_27, w0_28, w0_29, w0_30, w0_31, w0_32, w0_33, w0_34, w0_35, w0_36, w0_37, w0_38, w0_39, w0_40, w0_41, w0_42, .ref a1, .ref a2, .ref a5, .ref a3, .ref a4, w0_48, w0_49, w0_50, w0_51, w0_52, w0_53, w0_54, w0_55, w0_56, w0_57, w0_58, w0_59, w0_60, w0_61, w0_62, w0_63, w0_64, w0_65, w0_66])), (a1, .inl (E.2 2, 10, .inl s_byStar)), (a2, .inl (E.2 0, 10, .inl s_minuteOf)), (a3, .inl (E.2 0, 10, .inl s_shape)), (a4, .inl (E.2 0, 10, .inl s_weekdays)), (a5, .inl (E.2 0, 10, .inl s_wide))] := hV29.sub [0, 1, 2, 3, 4, 5] rfl rfl
      clear hV14
      refine lv_if_eq (tgt := 54) hx hb dX12_source_25 (by decide) (fun c31 => ?_) (fun c31 => ?_)
      · have h32 := itS c31 h28
        clear h28 c31
        refine lv_iconst (v := (-1)) hx hb dX12_source_54 (by decide) ?_
        obtain ⟨q34, q35, q36, q37, q38, q39, q40⟩ := tup7_s h32
        clear h32
        exact hret _ () _ _ _ _ q34 rfl (by rw [← q35, ← q36, ← q37, ← q38, ← q39, ← q40]; exact hV29) dX12_source_55
      · have h33 := ieS c31 h28
        clear h28 c31
        refine lv_iload hx hb dX12_source_28 (lv_at hl 4 rfl) ?_
        refine lv_i2l (v := Int32.toInt64 p4) hx hb dX12_source_30 rfl ?_
        refine lv_lconst (v := 0) hx hb dX12_source_31 (by decide) ?_
        refine lv_ldc2 (v := 3) hx hb X.2.2.2.1 (X.2.2.2.2.1 _ mw_218) dX12_source_32 ?_
        obtain ⟨r35_41, hc42, h43⟩ := cb1_s h33
        clear h33
        refine kgoiE (krunS (rest := []) X hV29 [] (c_X12_lies l E _ (Int32.toInt64 p4) 0 3 r35_41 hc42) mw_224 kb_X12_lies (by decide) rfl rfl hl.1 rfl (Nat.le_of_ble_eq_true rfl) dX12_source_35 (by decide)) X hV29 [] [0, 1, 2, 3, 4, 5] rfl rfl rfl (by decide) (fun u H locs hV44 => ?_)
        have hV44 : kV E A s.heap H locs [(a0, .inr (12, [w0_0, w0_1, .int s_sources, w0_3, w0_4, w0_5, w0_6, w0_7, w0_8, w0_9, w0_10, w0_11, w0_12, w0_13, w0_14, w0_15, w0_16, w0_17, w0_18, w0_19, w0_20, w0_21, w0_22, w0_23, w0_24, w0_25, w0_26, w0_27, w0_28, w0_29, w0_30, w0_31, w0_32, w0_33, w0_34, w0_35, w0_36, w0_37, w0_38, w0_39, w0_40, w0_41, w0_42, .ref a1, .ref a2, .ref a5, .ref a3, .ref a4, w0_48, w0_49, w0_50, w0_51, w0_52, w0_53, w0_54, w0_55, w0_56, w0_57, w0_58, w0_59, w0_60, w0_61, w0_62, w0_63, w0_64, w0_65, w0_66])), (a1, .inl (E.2 2, 10, .inl s_byStar)), (a2, .inl (E.2 0, 10, .inl s_minuteOf)), (a3, .inl (E.2 0, 10, .inl s_shape)), (a4, .inl (E.2 0, 10, .inl s_weekdays)), (a5, .inl (E.2 0, 10, .inl s_wide))] := hV44.sub [0, 1, 2, 3, 4, 5] rfl rfl
        clear hV29
        refine lv_if_eq (tgt := 54) hx hb dX12_source_38 (by decide) (fun c46 => ?_) (fun c46 => ?_)
        · have h47 := itS c46 h43
          clear h43 c46
          refine lv_iconst (v := (-1)) hx hb dX12_source_54 (by decide) ?_
          obtain ⟨q49, q50, q51, q52, q53, q54, q55⟩ := tup7_s h47
          clear h47
          exact hret _ () _ _ _ _ q49 rfl (by rw [← q50, ← q51, ← q52, ← q53, ← q54, ← q55]; exact hV44) dX12_source_55
        · have h48 := ieS c46 h43
          clear h43 c46
          refine lv_iload hx hb dX12_source_41 (lv_at hl 5 rfl) ?_
          refine lv_i2l (v := Int32.toInt64 p5) hx hb dX12_source_43 rfl ?_
          refine lv_lconst (v := 0) hx hb dX12_source_44 (by decide) ?_
          refine lv_ldc2 (v := 127) hx hb X.2.2.2.1 (X.2.2.2.2.1 _ mw_219) dX12_source_45 ?_
          obtain ⟨r48_56, hc57, h58⟩ := cb1_s h48
          clear h48
          refine kgoiE (krunS (rest := []) X hV44 [] (c_X12_lies l E _ (Int32.toInt64 p5) 0 127 r48_56 hc57) mw_224 kb_X12_lies (by decide) rfl rfl hl.1 rfl (Nat.le_of_ble_eq_true rfl) dX12_source_48 (by decide)) X hV44 [] [0, 1, 2, 3, 4, 5] rfl rfl rfl (by decide) (fun u H locs hV59 => ?_)
          have hV59 : kV E A s.heap H locs [(a0, .inr (12, [w0_0, w0_1, .int s_sources, w0_3, w0_4, w0_5, w0_6, w0_7, w0_8, w0_9, w0_10, w0_11, w0_12, w0_13, w0_14, w0_15, w0_16, w0_17, w0_18, w0_19, w0_20, w0_21, w0_22, w0_23, w0_24, w0_25, w0_26, w0_27, w0_28, w0_29, w0_30, w0_31, w0_32, w0_33, w0_34, w0_35, w0_36, w0_37, w0_38, w0_39, w0_40, w0_41, w0_42, .ref a1, .ref a2, .ref a5, .ref a3, .ref a4, w0_48, w0_49, w0_50, w0_51, w0_52, w0_53, w0_54, w0_55, w0_56, w0_57, w0_58, w0_59, w0_60, w0_61, w0_62, w0_63, w0_64, w0_65, w0_66])), (a1, .inl (E.2 2, 10, .inl s_byStar)), (a2, .inl (E.2 0, 10, .inl s_minuteOf)), (a3, .inl (E.2 0, 10, .inl s_shape)), (a4, .inl (E.2 0, 10, .inl s_weekdays)), (a5, .inl (E.2 0, 10, .inl s_wide))] := hV59.sub [0, 1, 2, 3, 4, 5] rfl rfl
          clear hV44
          refine lv_if_ne (tgt := 56) hx hb dX12_source_51 (by decide) (fun c61 => ?_) (fun c61 => ?_)
          · have h62 := ieS c61 h58
            clear h58 c61
            refine lv_aload_n hx hb dX12_source_56 rfl (lv_at hl 0 rfl) ?_
            refine kget X hV59 (ci := 12) inlX12 rfl 0 rfl 43 (by decide) mw_157 rfl dX12_source_57 ?_
            refine lv_aload_n hx hb dX12_source_60 rfl (lv_at hl 0 rfl) ?_
            refine kget X hV59 (ci := 12) inlX12 rfl 0 rfl 2 (by decide) mw_216 rfl dX12_source_61 ?_
            refine lv_iload_n hx hb dX12_source_64 rfl (lv_at hl 1 rfl) ?_
            obtain ⟨hi65, g65_64, e66, h67⟩ := wrZ_s h62
            clear h62
            refine kzast X hV59 1 rfl hi65 e66 dX12_source_65 (fun H locs hV68 => ?_)
            have hV68 : kV E A s.heap H locs [(a0, .inr (12, [w0_0, w0_1, .int s_sources, w0_3, w0_4, w0_5, w0_6, w0_7, w0_8, w0_9, w0_10, w0_11, w0_12, w0_13, w0_14, w0_15, w0_16, w0_17, w0_18, w0_19, w0_20, w0_21, w0_22, w0_23, w0_24, w0_25, w0_26, w0_27, w0_28, w0_29, w0_30, w0_31, w0_32, w0_33, w0_34, w0_35, w0_36, w0_37, w0_38, w0_39, w0_40, w0_41, w0_42, .ref a1, .ref a2, .ref a5, .ref a3, .ref a4, w0_48, w0_49, w0_50, w0_51, w0_52, w0_53, w0_54, w0_55, w0_56, w0_57, w0_58, w0_59, w0_60, w0_61, w0_62, w0_63, w0_64, w0_65, w0_66])), (a1, .inl (E.2 2, 10, .inl g65_64)), (a2, .inl (E.2 0, 10, .inl s_minuteOf)), (a3, .inl (E.2 0, 10, .inl s_shape)), (a4, .inl (E.2 0, 10, .inl s_weekdays)), (a5, .inl (E.2 0, 10, .inl s_wide))] := hV68
            clear hV59 hi65 e66
            refine lv_aload_n hx hb dX12_source_66 rfl (lv_at hl 0 rfl) ?_
            refine kget X hV68 (ci := 12) inlX12 rfl 0 rfl 44 (by decide) mw_158 rfl dX12_source_67 ?_
            refine lv_aload_n hx hb dX12_source_70 rfl (lv_at hl 0 rfl) ?_
            refine kget X hV68 (ci := 12) inlX12 rfl 0 rfl 2 (by decide) mw_216 rfl dX12_source_71 ?_
            refine lv_iload_n hx hb dX12_source_74 rfl (lv_at hl 2 rfl) ?_
            obtain ⟨hi70, g75_69, e71, h72⟩ := wrI_s h67
            clear h67
            refine kiast X hV68 2 rfl hi70 e71 dX12_source_75 (fun H locs hV73 => ?_)
            have hV73 : kV E A s.heap H locs [(a0, .inr (12, [w0_0, w0_1, .int s_sources, w0_3, w0_4, w0_5, w0_6, w0_7, w0_8, w0_9, w0_10, w0_11, w0_12, w0_13, w0_14, w0_15, w0_16, w0_17, w0_18, w0_19, w0_20, w0_21, w0_22, w0_23, w0_24, w0_25, w0_26, w0_27, w0_28, w0_29, w0_30, w0_31, w0_32, w0_33, w0_34, w0_35, w0_36, w0_37, w0_38, w0_39, w0_40, w0_41, w0_42, .ref a1, .ref a2, .ref a5, .ref a3, .ref a4, w0_48, w0_49, w0_50, w0_51, w0_52, w0_53, w0_54, w0_55, w0_56, w0_57, w0_58, w0_59, w0_60, w0_61, w0_62, w0_63, w0_64, w0_65, w0_66])), (a1, .inl (E.2 2, 10, .inl g65_64)), (a2, .inl (E.2 0, 10, .inl g75_69)), (a3, .inl (E.2 0, 10, .inl s_shape)), (a4, .inl (E.2 0, 10, .inl s_weekdays)), (a5, .inl (E.2 0, 10, .inl s_wide))] := hV73
            clear hV68 hi70 e71
            refine lv_aload_n hx hb dX12_source_76 rfl (lv_at hl 0 rfl) ?_
            refine kget X hV73 (ci := 12) inlX12 rfl 0 rfl 45 (by decide) mw_159 rfl dX12_source_77 ?_
            refine lv_aload_n hx hb dX12_source_80 rfl (lv_at hl 0 rfl) ?_
            refine kget X hV73 (ci := 12) inlX12 rfl 0 rfl 2 (by decide) mw_216 rfl dX12_source_81 ?_
            refine lv_iload_n hx hb dX12_source_84 rfl (lv_at hl 3 rfl) ?_
            obtain ⟨hi75, g85_74, e76, h77⟩ := wrI_s h72
            clear h72
            refine kiast X hV73 5 rfl hi75 e76 dX12_source_85 (fun H locs hV78 => ?_)
            have hV78 : kV E A s.heap H locs [(a0, .inr (12, [w0_0, w0_1, .int s_sources, w0_3, w0_4, w0_5, w0_6, w0_7, w0_8, w0_9, w0_10, w0_11, w0_12, w0_13, w0_14, w0_15, w0_16, w0_17, w0_18, w0_19, w0_20, w0_21, w0_22, w0_23, w0_24, w0_25, w0_26, w0_27, w0_28, w0_29, w0_30, w0_31, w0_32, w0_33, w0_34, w0_35, w0_36, w0_37, w0_38, w0_39, w0_40, w0_41, w0_42, .ref a1, .ref a2, .ref a5, .ref a3, .ref a4, w0_48, w0_49, w0_50, w0_51, w0_52, w0_53, w0_54, w0_55, w0_56, w0_57, w0_58, w0_59, w0_60, w0_61, w0_62, w0_63, w0_64, w0_65, w0_66])), (a1, .inl (E.2 2, 10, .inl g65_64)), (a2, .inl (E.2 0, 10, .inl g75_69)), (a3, .inl (E.2 0, 10, .inl s_shape)), (a4, .inl (E.2 0, 10, .inl s_weekdays)), (a5, .inl (E.2 0, 10, .inl g85_74))] := hV78
            clear hV73 hi75 e76
            refine lv_aload_n hx hb dX12_source_86 rfl (lv_at hl 0 rfl) ?_
            refine kget X hV78 (ci := 12) inlX12 rfl 0 rfl 46 (by decide) mw_160 rfl dX12_source_87 ?_
            refine lv_aload_n hx hb dX12_source_90 rfl (lv_at hl 0 rfl) ?_
            refine kget X hV78 (ci := 12) inlX12 rfl 0 rfl 2 (by decide) mw_216 rfl dX12_source_91 ?_
            refine lv_iload hx hb dX12_source_94 (lv_at hl 4 rfl) ?_
            obtain ⟨hi80, g96_79, e81, h82⟩ := wrI_s h77
            clear h77
            refine kiast X hV78 3 rfl hi80 e81 dX12_source_96 (fun H locs hV83 => ?_)
            have hV83 : kV E A s.heap H locs [(a0, .inr (12, [w0_0, w0_1, .int s_sources, w0_3, w0_4, w0_5, w0_6, w0_7, w0_8, w0_9, w0_10, w0_11, w0_12, w0_13, w0_14, w0_15, w0_16, w0_17, w0_18, w0_19, w0_20, w0_21, w0_22, w0_23, w0_24, w0_25, w0_26, w0_27, w0_28, w0_29, w0_30, w0_31, w0_32, w0_33, w0_34, w0_35, w0_36, w0_37, w0_38, w0_39, w0_40, w0_41, w0_42, .ref a1, .ref a2, .ref a5, .ref a3, .ref a4, w0_48, w0_49, w0_50, w0_51, w0_52, w0_53, w0_54, w0_55, w0_56, w0_57, w0_58, w0_59, w0_60, w0_61, w0_62, w0_63, w0_64, w0_65, w0_66])), (a1, .inl (E.2 2, 10, .inl g65_64)), (a2, .inl (E.2 0, 10, .inl g75_69)), (a3, .inl (E.2 0, 10, .inl g96_79)), (a4, .inl (E.2 0, 10, .inl s_weekdays)), (a5, .inl (E.2 0, 10, .inl g85_74))] := hV83
            clear hV78 hi80 e81
            refine lv_aload_n hx hb dX12_source_97 rfl (lv_at hl 0 rfl) ?_
            refine kget X hV83 (ci := 12) inlX12 rfl 0 rfl 47 (by decide) mw_161 rfl dX12_source_98 ?_
            refine lv_aload_n hx hb dX12_source_101 rfl (lv_at hl 0 rfl) ?_
            refine kget X hV83 (ci := 12) inlX12 rfl 0 rfl 2 (by decide) mw_216 rfl dX12_source_102 ?_
            refine lv_iload hx hb dX12_source_105 (lv_at hl 5 rfl) ?_
            obtain ⟨hi85, g107_84, e86, h87⟩ := wrI_s h82
            clear h82
            refine kiast X hV83 4 rfl hi85 e86 dX12_source_107 (fun H locs hV88 => ?_)
            have hV88 : kV E A s.heap H locs [(a0, .inr (12, [w0_0, w0_1, .int s_sources, w0_3, w0_4, w0_5, w0_6, w0_7, w0_8, w0_9, w0_10, w0_11, w0_12, w0_13, w0_14, w0_15, w0_16, w0_17, w0_18, w0_19, w0_20, w0_21, w0_22, w0_23, w0_24, w0_25, w0_26, w0_27, w0_28, w0_29, w0_30, w0_31, w0_32, w0_33, w0_34, w0_35, w0_36, w0_37, w0_38, w0_39, w0_40, w0_41, w0_42, .ref a1, .ref a2, .ref a5, .ref a3, .ref a4, w0_48, w0_49, w0_50, w0_51, w0_52, w0_53, w0_54, w0_55, w0_56, w0_57, w0_58, w0_59, w0_60, w0_61, w0_62, w0_63, w0_64, w0_65, w0_66])), (a1, .inl (E.2 2, 10, .inl g65_64)), (a2, .inl (E.2 0, 10, .inl g75_69)), (a3, .inl (E.2 0, 10, .inl g96_79)), (a4, .inl (E.2 0, 10, .inl g107_84)), (a5, .inl (E.2 0, 10, .inl g85_74))] := hV88
            clear hV83 hi85 e86
            refine lv_aload_n hx hb dX12_source_108 rfl (lv_at hl 0 rfl) ?_
            refine lv_dup hx hb dX12_source_109 rfl ?_
            refine kget X hV88 (ci := 12) inlX12 rfl 0 rfl 2 (by decide) mw_216 rfl dX12_source_110 ?_
            refine lv_iconst (v := 1) hx hb dX12_source_113 (by decide) ?_
            refine lv_iadd hx hb dX12_source_114 ?_
            obtain ⟨v115_89, e90, h91⟩ := nmI_s h87
            clear h87
            refine ktopi e90 ?_
            clear e90
            refine kput X hV88 (ci := 12) inlX12 rfl tyX12 tyX12_ok nmX12 0 rfl 2 (by decide) mw_216 rfl rfl rfl (Nat.le_of_ble_eq_true rfl) dX12_source_115 (fun H locs hV92 => ?_)
            have hV92 : kV E A s.heap H locs [(a0, .inr (12, [w0_0, w0_1, .int v115_89, w0_3, w0_4, w0_5, w0_6, w0_7, w0_8, w0_9, w0_10, w0_11, w0_12, w0_13, w0_14, w0_15, w0_16, w0_17, w0_18, w0_19, w0_20, w0_21, w0_22, w0_23, w0_24, w0_25, w0_26, w0_27, w0_28, w0_29, w0_30, w0_31, w0_32, w0_33, w0_34, w0_35, w0_36, w0_37, w0_38, w0_39, w0_40, w0_41, w0_42, .ref a1, .ref a2, .ref a5, .ref a3, .ref a4, w0_48, w0_49, w0_50, w0_51, w0_52, w0_53, w0_54, w0_55, w0_56, w0_57, w0_58, w0_59, w0_60, w0_61, w0_62, w0_63, w0_64, w0_65, w0_66])), (a1, .inl (E.2 2, 10, .inl g65_64)), (a2, .inl (E.2 0, 10, .inl g75_69)), (a3, .inl (E.2 0, 10, .inl g96_79)), (a4, .inl (E.2 0, 10, .inl g107_84)), (a5, .inl (E.2 0, 10, .inl g85_74))] := hV92
            clear hV88
            refine lv_aload_n hx hb dX12_source_118 rfl (lv_at hl 0 rfl) ?_
            refine kget X hV92 (ci := 12) inlX12 rfl 0 rfl 2 (by decide) mw_216 rfl dX12_source_119 ?_
            refine lv_iconst (v := 1) hx hb dX12_source_122 (by decide) ?_
            refine lv_isub hx hb dX12_source_123 ?_
            obtain ⟨q93, q94, q95, q96, q97, q98, q99⟩ := tup7_s h91
            clear h91
            exact hret _ () _ _ _ _ q93 rfl (by rw [← q94, ← q95, ← q96, ← q97, ← q98, ← q99]; exact hV92) dX12_source_124
          · have h63 := itS c61 h58
            clear h58 c61
            refine lv_iconst (v := (-1)) hx hb dX12_source_54 (by decide) ?_
            obtain ⟨q100, q101, q102, q103, q104, q105, q106⟩ := tup7_s h63
            clear h63
            exact hret _ () _ _ _ _ q100 rfl (by rw [← q101, ← q102, ← q103, ← q104, ← q105, ← q106]; exact hV59) dX12_source_55
abbrev r_X12_seed : Room := { frames := 1, cells := 0, slots := 0, locals := 25 }
set_option maxHeartbeats 4000000 in
set_option maxRecDepth 100000 in
theorem c_X12_seed (l : Launch) (E : kE) (sz : Nat) (a0 : Nat) (w0_0 w0_1 w0_2 w0_4 w0_5 w0_6 w0_7 w0_8 w0_9 w0_10 w0_11 w0_12 w0_13 w0_14 w0_15 w0_16 w0_17 w0_18 w0_19 w0_20 w0_21 w0_22 w0_23 w0_24 w0_25 w0_26 w0_27 w0_28 w0_29 w0_30 w0_31 w0_32 w0_33 w0_34 w0_35 w0_36 w0_37 w0_38 w0_39 w0_40 w0_41 w0_42 w0_43 w0_44 w0_45 w0_46 w0_47 w0_48 w0_49 w0_50 w0_51 w0_52 w0_53 w0_54 w0_55 w0_56 w0_57 w0_58 w0_59 w0_60 w0_61 w0_62 w0_63 w0_64 w0_65 w0_66 : Value) (s_seed : Int32) (p1 : Int32) (r : Int32) (o_seed : Int32) (h : f_X12_seed s_seed p1 = some (r, o_seed)) : kMi l yX12_seed cX12_seed 2 (some .boolean) r_X12_seed [.ref a0, .int p1] E [(a0, .inr (12, [w0_0, w0_1, w0_2, .int s_seed, w0_4, w0_5, w0_6, w0_7, w0_8, w0_9, w0_10, w0_11, w0_12, w0_13, w0_14, w0_15, w0_16, w0_17, w0_18, w0_19, w0_20, w0_21, w0_22, w0_23, w0_24, w0_25, w0_26, w0_27, w0_28, w0_29, w0_30, w0_31, w0_32, w0_33, w0_34, w0_35, w0_36, w0_37, w0_38, w0_39, w0_40, w0_41, w0_42, w0_43, w0_44, w0_45, w0_46, w0_47, w0_48, w0_49, w0_50, w0_51, w0_52, w0_53, w0_54, w0_55, w0_56, w0_57, w0_58, w0_59, w0_60, w0_61, w0_62, w0_63, w0_64, w0_65, w0_66]))] sz 0 0 (fun x (_ : Unit) => x = r) (fun _ => [(a0, .inr (12, [w0_0, w0_1, w0_2, .int o_seed, w0_4, w0_5, w0_6, w0_7, w0_8, w0_9, w0_10, w0_11, w0_12, w0_13, w0_14, w0_15, w0_16, w0_17, w0_18, w0_19, w0_20, w0_21, w0_22, w0_23, w0_24, w0_25, w0_26, w0_27, w0_28, w0_29, w0_30, w0_31, w0_32, w0_33, w0_34, w0_35, w0_36, w0_37, w0_38, w0_39, w0_40, w0_41, w0_42, w0_43, w0_44, w0_45, w0_46, w0_47, w0_48, w0_49, w0_50, w0_51, w0_52, w0_53, w0_54, w0_55, w0_56, w0_57, w0_58, w0_59, w0_60, w0_61, w0_62, w0_63, w0_64, w0_65, w0_66]))]) := by
  refine kmeti rfl (Nat.le_of_ble_eq_true rfl) ?_
  intro p e s m args below meth c ls A Q X hV hret hl
  have X : kC p s m c cX12_seed 2 RX12 args E A := X
  have hx := X.1
  have hb := X.2.1
  have hl : lv_has ls 2 [(0, .ref a0), (1, .int p1)] := hl
  rw [f_X12_seed] at h
  refine lv_iload_n hx hb dX12_seed_0 rfl (lv_at hl 1 rfl) ?_
  refine lv_i2l (v := Int32.toInt64 p1) hx hb dX12_seed_1 rfl ?_
  refine lv_lconst (v := 0) hx hb dX12_seed_2 (by decide) ?_
  refine lv_ldc2 (v := 999) hx hb X.2.2.2.1 (X.2.2.2.2.1 _ mw_236) dX12_seed_3 ?_
  obtain ⟨r6_1, hc2, h3⟩ := cb1_s h
  clear h
  refine kgoiE (krunS (rest := []) X hV [] (c_X12_lies l E _ (Int32.toInt64 p1) 0 999 r6_1 hc2) mw_224 kb_X12_lies (by decide) rfl rfl hl.1 rfl (Nat.le_of_ble_eq_true rfl) dX12_seed_6 (by decide)) X hV [] [0] rfl rfl rfl (by decide) (fun u H locs hV4 => ?_)
  have hV4 : kV E A s.heap H locs [(a0, .inr (12, [w0_0, w0_1, w0_2, .int s_seed, w0_4, w0_5, w0_6, w0_7, w0_8, w0_9, w0_10, w0_11, w0_12, w0_13, w0_14, w0_15, w0_16, w0_17, w0_18, w0_19, w0_20, w0_21, w0_22, w0_23, w0_24, w0_25, w0_26, w0_27, w0_28, w0_29, w0_30, w0_31, w0_32, w0_33, w0_34, w0_35, w0_36, w0_37, w0_38, w0_39, w0_40, w0_41, w0_42, w0_43, w0_44, w0_45, w0_46, w0_47, w0_48, w0_49, w0_50, w0_51, w0_52, w0_53, w0_54, w0_55, w0_56, w0_57, w0_58, w0_59, w0_60, w0_61, w0_62, w0_63, w0_64, w0_65, w0_66]))] := hV4.sub [0] rfl rfl
  clear hV
  refine lv_if_ne (tgt := 14) hx hb dX12_seed_9 (by decide) (fun c6 => ?_) (fun c6 => ?_)
  · have h7 := ieS c6 h3
    clear h3 c6
    refine lv_aload_n hx hb dX12_seed_14 rfl (lv_at hl 0 rfl) ?_
    refine lv_iload_n hx hb dX12_seed_15 rfl (lv_at hl 1 rfl) ?_
    refine kput X hV4 (ci := 12) inlX12 rfl tyX12 tyX12_ok nmX12 0 rfl 3 (by decide) mw_237 rfl rfl rfl (Nat.le_of_ble_eq_true rfl) dX12_seed_16 (fun H locs hV9 => ?_)
    have hV9 : kV E A s.heap H locs [(a0, .inr (12, [w0_0, w0_1, w0_2, .int p1, w0_4, w0_5, w0_6, w0_7, w0_8, w0_9, w0_10, w0_11, w0_12, w0_13, w0_14, w0_15, w0_16, w0_17, w0_18, w0_19, w0_20, w0_21, w0_22, w0_23, w0_24, w0_25, w0_26, w0_27, w0_28, w0_29, w0_30, w0_31, w0_32, w0_33, w0_34, w0_35, w0_36, w0_37, w0_38, w0_39, w0_40, w0_41, w0_42, w0_43, w0_44, w0_45, w0_46, w0_47, w0_48, w0_49, w0_50, w0_51, w0_52, w0_53, w0_54, w0_55, w0_56, w0_57, w0_58, w0_59, w0_60, w0_61, w0_62, w0_63, w0_64, w0_65, w0_66]))] := hV9
    clear hV4
    refine lv_iconst (v := 1) hx hb dX12_seed_19 (by decide) ?_
    obtain ⟨q10, q11⟩ := tup2_s h7
    clear h7
    exact hret _ () _ _ _ _ q10 rfl (by rw [← q11]; exact hV9) dX12_seed_20
  · have h8 := itS c6 h3
    clear h3 c6
    refine lv_iconst (v := 0) hx hb dX12_seed_12 (by decide) ?_
    obtain ⟨q12, q13⟩ := tup2_s h8
    clear h8
    exact hret _ () _ _ _ _ q12 rfl (by rw [← q13]; exact hV4) dX12_seed_13
abbrev r_X12_starAt : Room := { frames := 0, cells := 0, slots := 0, locals := 0 }
set_option maxHeartbeats 4000000 in
set_option maxRecDepth 100000 in
theorem c_X12_starAt (l : Launch) (E : kE) (sz : Nat) (p1 : Int32) (p2 : Int32) (r : Int32) (h : f_X12_starAt p1 p2 = some (r)) : kMi l yX12_starAt cX12_starAt 2 (some .int) r_X12_starAt [.int p1, .int p2] E [] sz 0 0 (fun x (_ : Unit) => x = r) (fun _ => []) := by
  refine kmeti rfl (Nat.le_of_ble_eq_true rfl) ?_
  intro p e s m args below meth c ls A Q X hV hret hl
  have X : kC p s m c cX12_starAt 2 RX12 args E A := X
  have hx := X.1
  have hb := X.2.1
  have hl : lv_has ls 2 [(0, .int p1), (1, .int p2)] := hl
  rw [f_X12_starAt] at h
  refine lv_iload_n hx hb dX12_starAt_0 rfl (lv_at hl 1 rfl) ?_
  refine lv_iconst (v := 4) hx hb dX12_starAt_1 (by decide) ?_
  refine lv_iload_n hx hb dX12_starAt_2 rfl (lv_at hl 0 rfl) ?_
  refine lv_imul hx hb dX12_starAt_3 ?_
  refine lv_iadd hx hb dX12_starAt_4 ?_
  refine lv_sipush (v := 1440) hx hb dX12_starAt_5 (by decide) ?_
  refine lv_irem hx hb dX12_starAt_8 (by decide) ?_
  have q1 := tup1_s h
  clear h
  exact hret _ () _ _ _ _ q1 rfl hV dX12_starAt_9
abbrev r_X12_farOf : Room := { frames := 0, cells := 0, slots := 0, locals := 0 }
set_option maxHeartbeats 4000000 in
set_option maxRecDepth 100000 in
theorem c_X12_farOf (l : Launch) (E : kE) (sz : Nat) (p1 : Int32) (p2 : Int32) (r : Int32) (h : f_X12_farOf p1 p2 = some (r)) : kMi l yX12_farOf cX12_farOf 3 (some .int) r_X12_farOf [.int p1, .int p2] E [] sz 0 0 (fun x (_ : Unit) => x = r) (fun _ => []) := by
  refine kmeti rfl (Nat.le_of_ble_eq_true rfl) ?_
  intro p e s m args below meth c ls A Q X hV hret hl
  have X : kC p s m c cX12_farOf 3 RX12 args E A := X
  have hx := X.1
  have hb := X.2.1
  have hl : lv_has ls 3 [(0, .int p1), (1, .int p2)] := hl
  rw [f_X12_farOf] at h
  refine lv_iload_n hx hb dX12_farOf_0 rfl (lv_at hl 0 rfl) ?_
  refine lv_iload_n hx hb dX12_farOf_1 rfl (lv_at hl 1 rfl) ?_
  have J14 : ∀ (t0_1 : Int32) (H : Heap) (locs : List Loc) (ls : Array Slot), (f_X12_farOf_J14  ) t0_1 = some (r) → kV E A s.heap H locs [] → lv_has ls 3 [] → W p l e r_X12_farOf s m args below meth c H locs 0 0 Q (F0 m 14 ls [.int t0_1]) := by
    intro t0_1 H locs ls hB14 hVB14 hlB14
    rw [f_X12_farOf_J14] at hB14
    refine lv_istore_n (lv' := [(2, .int t0_1)]) hx hb dX12_farOf_14 rfl hlB14 (by decide) rfl (fun ls hl2 => ?_)
    clear hlB14
    refine lv_iload_n hx hb dX12_farOf_15 rfl (lv_at hl2 0 rfl) ?_
    refine lv_sipush (v := 1440) hx hb dX12_farOf_16 (by decide) ?_
    refine lv_iload_n hx hb dX12_farOf_19 rfl (lv_at hl2 0 rfl) ?_
    refine lv_isub hx hb dX12_farOf_20 ?_
    refine lv_icmp_ge (tgt := 28) hx hb dX12_farOf_21 (by decide) (fun c3 => ?_) (fun c3 => ?_)
    · have h4 := itS c3 hB14
      clear hB14 c3
      refine lv_sipush (v := 1440) hx hb dX12_farOf_28 (by decide) ?_
      refine lv_iload_n hx hb dX12_farOf_31 rfl (lv_at hl2 0 rfl) ?_
      refine lv_isub hx hb dX12_farOf_32 ?_
      have q6 := tup1_s h4
      clear h4
      exact hret _ () _ _ _ _ q6 rfl hVB14 dX12_farOf_33
    · have h5 := ieS c3 hB14
      clear hB14 c3
      refine lv_iload_n hx hb dX12_farOf_24 rfl (lv_at hl2 0 rfl) ?_
      refine lv_goto (tgt := 33) hx hb dX12_farOf_25 (by decide) ?_
      have q7 := tup1_s h5
      clear h5
      exact hret _ () _ _ _ _ q7 rfl hVB14 dX12_farOf_33
  refine lv_icmp_ge (tgt := 11) hx hb dX12_farOf_2 (by decide) (fun c8 => ?_) (fun c8 => ?_)
  · have h9 := itS c8 h
    clear h c8
    refine lv_iload_n hx hb dX12_farOf_11 rfl (lv_at hl 0 rfl) ?_
    refine lv_iload_n hx hb dX12_farOf_12 rfl (lv_at hl 1 rfl) ?_
    refine lv_isub hx hb dX12_farOf_13 ?_
    exact J14 (p1 - p2) _ _ _ h9 hV (lv_sub hl [] rfl)
  · have h10 := ieS c8 h
    clear h c8
    refine lv_iload_n hx hb dX12_farOf_5 rfl (lv_at hl 1 rfl) ?_
    refine lv_iload_n hx hb dX12_farOf_6 rfl (lv_at hl 0 rfl) ?_
    refine lv_isub hx hb dX12_farOf_7 ?_
    refine lv_goto (tgt := 14) hx hb dX12_farOf_8 (by decide) ?_
    exact J14 (p2 - p1) _ _ _ h10 hV (lv_sub hl [] rfl)
abbrev r_X12_star : Room := { frames := 2, cells := 0, slots := 0, locals := 45 }
set_option maxHeartbeats 4000000 in
set_option maxRecDepth 100000 in
theorem c_X12_star (l : Launch) (E : kE) (sz : Nat) (a0 : Nat) (w0_0 w0_1 w0_2 w0_3 w0_4 w0_5 w0_6 w0_7 w0_8 w0_9 w0_10 w0_11 w0_12 w0_13 w0_14 w0_15 w0_16 w0_17 w0_18 w0_19 w0_20 w0_21 w0_22 w0_23 w0_24 w0_25 w0_26 w0_27 w0_28 w0_29 w0_30 w0_31 w0_32 w0_33 w0_34 w0_35 w0_36 w0_37 w0_38 w0_39 w0_40 w0_41 w0_42 w0_43 w0_44 w0_45 w0_46 w0_47 w0_48 w0_49 w0_50 w0_51 w0_52 w0_53 w0_54 w0_55 w0_56 w0_57 w0_58 w0_59 w0_60 w0_61 w0_62 w0_63 w0_64 w0_65 w0_66 : Value) (p1 : Int32) (p2 : Int32) (r : Int32) (h : f_X12_star p1 p2 = some (r)) : kMi l yX12_star cX12_star 3 (some .int) r_X12_star [.ref a0, .int p1, .int p2] E [(a0, .inr (12, [w0_0, w0_1, w0_2, w0_3, w0_4, w0_5, w0_6, w0_7, w0_8, w0_9, w0_10, w0_11, w0_12, w0_13, w0_14, w0_15, w0_16, w0_17, w0_18, w0_19, w0_20, w0_21, w0_22, w0_23, w0_24, w0_25, w0_26, w0_27, w0_28, w0_29, w0_30, w0_31, w0_32, w0_33, w0_34, w0_35, w0_36, w0_37, w0_38, w0_39, w0_40, w0_41, w0_42, w0_43, w0_44, w0_45, w0_46, w0_47, w0_48, w0_49, w0_50, w0_51, w0_52, w0_53, w0_54, w0_55, w0_56, w0_57, w0_58, w0_59, w0_60, w0_61, w0_62, w0_63, w0_64, w0_65, w0_66]))] sz 0 0 (fun x (_ : Unit) => x = r) (fun _ => [(a0, .inr (12, [w0_0, w0_1, w0_2, w0_3, w0_4, w0_5, w0_6, w0_7, w0_8, w0_9, w0_10, w0_11, w0_12, w0_13, w0_14, w0_15, w0_16, w0_17, w0_18, w0_19, w0_20, w0_21, w0_22, w0_23, w0_24, w0_25, w0_26, w0_27, w0_28, w0_29, w0_30, w0_31, w0_32, w0_33, w0_34, w0_35, w0_36, w0_37, w0_38, w0_39, w0_40, w0_41, w0_42, w0_43, w0_44, w0_45, w0_46, w0_47, w0_48, w0_49, w0_50, w0_51, w0_52, w0_53, w0_54, w0_55, w0_56, w0_57, w0_58, w0_59, w0_60, w0_61, w0_62, w0_63, w0_64, w0_65, w0_66]))]) := by
  refine kmeti rfl (Nat.le_of_ble_eq_true rfl) ?_
  intro p e s m args below meth c ls A Q X hV hret hl
  have X : kC p s m c cX12_star 3 RX12 args E A := X
  have hx := X.1
  have hb := X.2.1
  have hl : lv_has ls 3 [(0, .ref a0), (1, .int p1), (2, .int p2)] := hl
  rw [f_X12_star] at h
  refine lv_iload_n hx hb dX12_star_0 rfl (lv_at hl 1 rfl) ?_
  obtain ⟨r1_1, hc2, h3⟩ := cb1_s h
  clear h
  refine kgoiE (krunS (rest := []) X hV [] (c_X12_isDay l E _ p1 r1_1 hc2) mw_632 kb_X12_isDay (by decide) rfl rfl hl.1 rfl (Nat.le_of_ble_eq_true rfl) dX12_star_1 (by decide)) X hV [] [0] rfl rfl rfl (by decide) (fun u H locs hV4 => ?_)
  have hV4 : kV E A s.heap H locs [(a0, .inr (12, [w0_0, w0_1, w0_2, w0_3, w0_4, w0_5, w0_6, w0_7, w0_8, w0_9, w0_10, w0_11, w0_12, w0_13, w0_14, w0_15, w0_16, w0_17, w0_18, w0_19, w0_20, w0_21, w0_22, w0_23, w0_24, w0_25, w0_26, w0_27, w0_28, w0_29, w0_30, w0_31, w0_32, w0_33, w0_34, w0_35, w0_36, w0_37, w0_38, w0_39, w0_40, w0_41, w0_42, w0_43, w0_44, w0_45, w0_46, w0_47, w0_48, w0_49, w0_50, w0_51, w0_52, w0_53, w0_54, w0_55, w0_56, w0_57, w0_58, w0_59, w0_60, w0_61, w0_62, w0_63, w0_64, w0_65, w0_66]))] := hV4.sub [0] rfl rfl
  clear hV
  refine lv_if_eq (tgt := 22) hx hb dX12_star_4 (by decide) (fun c6 => ?_) (fun c6 => ?_)
  · have h7 := itS c6 h3
    clear h3 c6
    refine lv_iconst (v := (-1)) hx hb dX12_star_22 (by decide) ?_
    have q9 := tup1_s h7
    clear h7
    exact hret _ () _ _ _ _ q9 rfl hV4 dX12_star_23
  · have h8 := ieS c6 h3
    clear h3 c6
    refine lv_iload_n hx hb dX12_star_7 rfl (lv_at hl 2 rfl) ?_
    obtain ⟨r8_10, hc11, h12⟩ := cb1_s h8
    clear h8
    refine kgoiE (krunS (rest := []) X hV4 [] (c_X12_isMinute l E _ p2 r8_10 hc11) mw_220 kb_X12_isMinute (by decide) rfl rfl hl.1 rfl (Nat.le_of_ble_eq_true rfl) dX12_star_8 (by decide)) X hV4 [] [0] rfl rfl rfl (by decide) (fun u H locs hV13 => ?_)
    have hV13 : kV E A s.heap H locs [(a0, .inr (12, [w0_0, w0_1, w0_2, w0_3, w0_4, w0_5, w0_6, w0_7, w0_8, w0_9, w0_10, w0_11, w0_12, w0_13, w0_14, w0_15, w0_16, w0_17, w0_18, w0_19, w0_20, w0_21, w0_22, w0_23, w0_24, w0_25, w0_26, w0_27, w0_28, w0_29, w0_30, w0_31, w0_32, w0_33, w0_34, w0_35, w0_36, w0_37, w0_38, w0_39, w0_40, w0_41, w0_42, w0_43, w0_44, w0_45, w0_46, w0_47, w0_48, w0_49, w0_50, w0_51, w0_52, w0_53, w0_54, w0_55, w0_56, w0_57, w0_58, w0_59, w0_60, w0_61, w0_62, w0_63, w0_64, w0_65, w0_66]))] := hV13.sub [0] rfl rfl
    clear hV4
    refine lv_if_eq (tgt := 22) hx hb dX12_star_11 (by decide) (fun c15 => ?_) (fun c15 => ?_)
    · have h16 := itS c15 h12
      clear h12 c15
      refine lv_iconst (v := (-1)) hx hb dX12_star_22 (by decide) ?_
      have q18 := tup1_s h16
      clear h16
      exact hret _ () _ _ _ _ q18 rfl hV13 dX12_star_23
    · have h17 := ieS c15 h12
      clear h12 c15
      refine lv_iload_n hx hb dX12_star_14 rfl (lv_at hl 1 rfl) ?_
      refine lv_iload_n hx hb dX12_star_15 rfl (lv_at hl 2 rfl) ?_
      obtain ⟨r16_19, hc20, h21⟩ := cb1_s h17
      clear h17
      refine kgoiE (krunS (rest := []) X hV13 [] (c_X12_starAt l E _ p1 p2 r16_19 hc20) mw_636 kb_X12_starAt (by decide) rfl rfl hl.1 rfl (Nat.le_of_ble_eq_true rfl) dX12_star_16 (by decide)) X hV13 [] [0] rfl rfl rfl (by decide) (fun u H locs hV22 => ?_)
      have hV22 : kV E A s.heap H locs [(a0, .inr (12, [w0_0, w0_1, w0_2, w0_3, w0_4, w0_5, w0_6, w0_7, w0_8, w0_9, w0_10, w0_11, w0_12, w0_13, w0_14, w0_15, w0_16, w0_17, w0_18, w0_19, w0_20, w0_21, w0_22, w0_23, w0_24, w0_25, w0_26, w0_27, w0_28, w0_29, w0_30, w0_31, w0_32, w0_33, w0_34, w0_35, w0_36, w0_37, w0_38, w0_39, w0_40, w0_41, w0_42, w0_43, w0_44, w0_45, w0_46, w0_47, w0_48, w0_49, w0_50, w0_51, w0_52, w0_53, w0_54, w0_55, w0_56, w0_57, w0_58, w0_59, w0_60, w0_61, w0_62, w0_63, w0_64, w0_65, w0_66]))] := hV22.sub [0] rfl rfl
      clear hV13
      refine lv_goto (tgt := 23) hx hb dX12_star_19 (by decide) ?_
      have q24 := tup1_s h21
      clear h21
      exact hret _ () _ _ _ _ q24 rfl hV22 dX12_star_23
abbrev r_X12_awayOf : Room := { frames := 1, cells := 0, slots := 0, locals := 22 }
set_option maxHeartbeats 4000000 in
set_option maxRecDepth 100000 in
theorem c_X12_awayOf (l : Launch) (E : kE) (sz : Nat) (a0 a1 a2 : Nat) (w0_0 w0_1 w0_2 w0_3 w0_4 w0_5 w0_6 w0_7 w0_8 w0_9 w0_10 w0_11 w0_12 w0_13 w0_14 w0_15 w0_16 w0_17 w0_18 w0_19 w0_20 w0_21 w0_22 w0_23 w0_24 w0_25 w0_26 w0_27 w0_28 w0_29 w0_30 w0_31 w0_32 w0_33 w0_34 w0_35 w0_36 w0_37 w0_38 w0_39 w0_40 w0_41 w0_42 w0_45 w0_46 w0_47 w0_48 w0_49 w0_50 w0_51 w0_52 w0_53 w0_54 w0_55 w0_56 w0_57 w0_58 w0_59 w0_60 w0_61 w0_62 w0_63 w0_64 w0_65 w0_66 : Value) (s_byStar : Nat → Int32) (s_minuteOf : Nat → Int32) (p1 : Int32) (p2 : Int32) (p3 : Int32) (r : Int32) (h : f_X12_awayOf s_byStar s_minuteOf p1 p2 p3 = some (r)) : kMi l yX12_awayOf cX12_awayOf 4 (some .int) r_X12_awayOf [.ref a0, .int p1, .int p2, .int p3] E [(a0, .inr (12, [w0_0, w0_1, w0_2, w0_3, w0_4, w0_5, w0_6, w0_7, w0_8, w0_9, w0_10, w0_11, w0_12, w0_13, w0_14, w0_15, w0_16, w0_17, w0_18, w0_19, w0_20, w0_21, w0_22, w0_23, w0_24, w0_25, w0_26, w0_27, w0_28, w0_29, w0_30, w0_31, w0_32, w0_33, w0_34, w0_35, w0_36, w0_37, w0_38, w0_39, w0_40, w0_41, w0_42, .ref a1, .ref a2, w0_45, w0_46, w0_47, w0_48, w0_49, w0_50, w0_51, w0_52, w0_53, w0_54, w0_55, w0_56, w0_57, w0_58, w0_59, w0_60, w0_61, w0_62, w0_63, w0_64, w0_65, w0_66])), (a1, .inl (E.2 2, 10, .inl s_byStar)), (a2, .inl (E.2 0, 10, .inl s_minuteOf))] sz 0 0 (fun x (_ : Unit) => x = r) (fun _ => [(a0, .inr (12, [w0_0, w0_1, w0_2, w0_3, w0_4, w0_5, w0_6, w0_7, w0_8, w0_9, w0_10, w0_11, w0_12, w0_13, w0_14, w0_15, w0_16, w0_17, w0_18, w0_19, w0_20, w0_21, w0_22, w0_23, w0_24, w0_25, w0_26, w0_27, w0_28, w0_29, w0_30, w0_31, w0_32, w0_33, w0_34, w0_35, w0_36, w0_37, w0_38, w0_39, w0_40, w0_41, w0_42, .ref a1, .ref a2, w0_45, w0_46, w0_47, w0_48, w0_49, w0_50, w0_51, w0_52, w0_53, w0_54, w0_55, w0_56, w0_57, w0_58, w0_59, w0_60, w0_61, w0_62, w0_63, w0_64, w0_65, w0_66])), (a1, .inl (E.2 2, 10, .inl s_byStar)), (a2, .inl (E.2 0, 10, .inl s_minuteOf))]) := by
  refine kmeti rfl (Nat.le_of_ble_eq_true rfl) ?_
  intro p e s m args below meth c ls A Q X hV hret hl
  have X : kC p s m c cX12_awayOf 4 RX12 args E A := X
  have hx := X.1
  have hb := X.2.1
  have hl : lv_has ls 4 [(0, .ref a0), (1, .int p1), (2, .int p2), (3, .int p3)] := hl
  rw [f_X12_awayOf] at h
  refine lv_aload_n hx hb dX12_awayOf_0 rfl (lv_at hl 0 rfl) ?_
  refine kget X hV (ci := 12) inlX12 rfl 0 rfl 43 (by decide) mw_157 rfl dX12_awayOf_1 ?_
  refine lv_iload_n hx hb dX12_awayOf_4 rfl (lv_at hl 1 rfl) ?_
  obtain ⟨hi2, v5_1, e3, h4⟩ := rdI_s h
  clear h
  refine kzald X hV 1 rfl hi2 e3 dX12_awayOf_5 ?_
  clear hi2 e3
  have J18 : ∀ (t0_5 : Int32) (H : Heap) (locs : List Loc) (ls : Array Slot), (f_X12_awayOf_J18 s_minuteOf p1 ) t0_5 = some (r) → kV E A s.heap H locs [(a0, .inr (12, [w0_0, w0_1, w0_2, w0_3, w0_4, w0_5, w0_6, w0_7, w0_8, w0_9, w0_10, w0_11, w0_12, w0_13, w0_14, w0_15, w0_16, w0_17, w0_18, w0_19, w0_20, w0_21, w0_22, w0_23, w0_24, w0_25, w0_26, w0_27, w0_28, w0_29, w0_30, w0_31, w0_32, w0_33, w0_34, w0_35, w0_36, w0_37, w0_38, w0_39, w0_40, w0_41, w0_42, .ref a1, .ref a2, w0_45, w0_46, w0_47, w0_48, w0_49, w0_50, w0_51, w0_52, w0_53, w0_54, w0_55, w0_56, w0_57, w0_58, w0_59, w0_60, w0_61, w0_62, w0_63, w0_64, w0_65, w0_66])), (a1, .inl (E.2 2, 10, .inl s_byStar)), (a2, .inl (E.2 0, 10, .inl s_minuteOf))] → lv_has ls 4 [(0, .ref a0), (1, .int p1)] → W p l e r_X12_awayOf s m args below meth c H locs 0 0 Q (F0 m 18 ls [.int t0_5]) := by
    intro t0_5 H locs ls hB18 hVB18 hlB18
    rw [f_X12_awayOf_J18] at hB18
    refine lv_aload_n hx hb dX12_awayOf_18 rfl (lv_at hlB18 0 rfl) ?_
    refine kget X hVB18 (ci := 12) inlX12 rfl 0 rfl 44 (by decide) mw_158 rfl dX12_awayOf_19 ?_
    refine lv_iload_n hx hb dX12_awayOf_22 rfl (lv_at hlB18 1 rfl) ?_
    obtain ⟨hi7, v23_6, e8, h9⟩ := rdI_s hB18
    clear hB18
    refine kiald X hVB18 2 rfl hi7 e8 dX12_awayOf_23 ?_
    clear hi7 e8
    obtain ⟨r24_10, hc11, h12⟩ := cb1_s h9
    clear h9
    refine kgoiE (krunS (rest := []) X hVB18 [] (c_X12_farOf l E _ t0_5 v23_6 r24_10 hc11) mw_718 kb_X12_farOf (by decide) rfl rfl hlB18.1 rfl (Nat.le_of_ble_eq_true rfl) dX12_awayOf_24 (by decide)) X hVB18 [] [0, 1, 2] rfl rfl rfl (by decide) (fun u H locs hV13 => ?_)
    have hV13 : kV E A s.heap H locs [(a0, .inr (12, [w0_0, w0_1, w0_2, w0_3, w0_4, w0_5, w0_6, w0_7, w0_8, w0_9, w0_10, w0_11, w0_12, w0_13, w0_14, w0_15, w0_16, w0_17, w0_18, w0_19, w0_20, w0_21, w0_22, w0_23, w0_24, w0_25, w0_26, w0_27, w0_28, w0_29, w0_30, w0_31, w0_32, w0_33, w0_34, w0_35, w0_36, w0_37, w0_38, w0_39, w0_40, w0_41, w0_42, .ref a1, .ref a2, w0_45, w0_46, w0_47, w0_48, w0_49, w0_50, w0_51, w0_52, w0_53, w0_54, w0_55, w0_56, w0_57, w0_58, w0_59, w0_60, w0_61, w0_62, w0_63, w0_64, w0_65, w0_66])), (a1, .inl (E.2 2, 10, .inl s_byStar)), (a2, .inl (E.2 0, 10, .inl s_minuteOf))] := hV13.sub [0, 1, 2] rfl rfl
    clear hVB18
    have q15 := tup1_s h12
    clear h12
    exact hret _ () _ _ _ _ q15 rfl hV13 dX12_awayOf_27
  refine lv_if_eq (tgt := 17) hx hb dX12_awayOf_6 (by decide) (fun c16 => ?_) (fun c16 => ?_)
  · have h17 := itS c16 h4
    clear h4 c16
    refine lv_iload_n hx hb dX12_awayOf_17 rfl (lv_at hl 3 rfl) ?_
    exact J18 p3 _ _ _ h17 hV (lv_sub hl [0, 1] rfl)
  · have h18 := ieS c16 h4
    clear h4 c16
    refine lv_iload_n hx hb dX12_awayOf_9 rfl (lv_at hl 2 rfl) ?_
    refine lv_iload_n hx hb dX12_awayOf_10 rfl (lv_at hl 3 rfl) ?_
    obtain ⟨r11_19, hc20, h21⟩ := cb1_s h18
    clear h18
    refine kgoiE (krunS (rest := []) X hV [] (c_X12_starAt l E _ p2 p3 r11_19 hc20) mw_636 kb_X12_starAt (by decide) rfl rfl hl.1 rfl (Nat.le_of_ble_eq_true rfl) dX12_awayOf_11 (by decide)) X hV [] [0, 1, 2] rfl rfl rfl (by decide) (fun u H locs hV22 => ?_)
    have hV22 : kV E A s.heap H locs [(a0, .inr (12, [w0_0, w0_1, w0_2, w0_3, w0_4, w0_5, w0_6, w0_7, w0_8, w0_9, w0_10, w0_11, w0_12, w0_13, w0_14, w0_15, w0_16, w0_17, w0_18, w0_19, w0_20, w0_21, w0_22, w0_23, w0_24, w0_25, w0_26, w0_27, w0_28, w0_29, w0_30, w0_31, w0_32, w0_33, w0_34, w0_35, w0_36, w0_37, w0_38, w0_39, w0_40, w0_41, w0_42, .ref a1, .ref a2, w0_45, w0_46, w0_47, w0_48, w0_49, w0_50, w0_51, w0_52, w0_53, w0_54, w0_55, w0_56, w0_57, w0_58, w0_59, w0_60, w0_61, w0_62, w0_63, w0_64, w0_65, w0_66])), (a1, .inl (E.2 2, 10, .inl s_byStar)), (a2, .inl (E.2 0, 10, .inl s_minuteOf))] := hV22.sub [0, 1, 2] rfl rfl
    clear hV
    refine lv_goto (tgt := 18) hx hb dX12_awayOf_14 (by decide) ?_
    exact J18 r11_19 _ _ _ h21 hV22 (lv_sub hl [0, 1] rfl)
abbrev r_X12_isThere : Room := { frames := 2, cells := 0, slots := 0, locals := 45 }
set_option maxHeartbeats 4000000 in
set_option maxRecDepth 100000 in
theorem c_X12_isThere (l : Launch) (E : kE) (sz : Nat) (a0 a1 a2 a3 a4 : Nat) (w0_0 w0_1 w0_2 w0_3 w0_4 w0_5 w0_6 w0_7 w0_8 w0_9 w0_10 w0_11 w0_12 w0_13 w0_14 w0_15 w0_16 w0_17 w0_18 w0_19 w0_20 w0_21 w0_22 w0_23 w0_24 w0_25 w0_26 w0_27 w0_28 w0_29 w0_30 w0_31 w0_32 w0_33 w0_34 w0_35 w0_36 w0_37 w0_38 w0_39 w0_40 w0_41 w0_42 w0_46 w0_48 w0_49 w0_50 w0_51 w0_52 w0_53 w0_54 w0_55 w0_56 w0_57 w0_58 w0_59 w0_60 w0_61 w0_62 w0_63 w0_64 w0_65 w0_66 : Value) (s_byStar : Nat → Int32) (s_minuteOf : Nat → Int32) (s_weekdays : Nat → Int32) (s_wide : Nat → Int32) (p1 : Int32) (p2 : Int32) (p3 : Int32) (r : Int32) (h : f_X12_isThere s_byStar s_minuteOf s_weekdays s_wide p1 p2 p3 = some (r)) : kMi l yX12_isThere cX12_isThere 4 (some .boolean) r_X12_isThere [.ref a0, .int p1, .int p2, .int p3] E [(a0, .inr (12, [w0_0, w0_1, w0_2, w0_3, w0_4, w0_5, w0_6, w0_7, w0_8, w0_9, w0_10, w0_11, w0_12, w0_13, w0_14, w0_15, w0_16, w0_17, w0_18, w0_19, w0_20, w0_21, w0_22, w0_23, w0_24, w0_25, w0_26, w0_27, w0_28, w0_29, w0_30, w0_31, w0_32, w0_33, w0_34, w0_35, w0_36, w0_37, w0_38, w0_39, w0_40, w0_41, w0_42, .ref a1, .ref a2, .ref a4, w0_46, .ref a3, w0_48, w0_49, w0_50, w0_51, w0_52, w0_53, w0_54, w0_55, w0_56, w0_57, w0_58, w0_59, w0_60, w0_61, w0_62, w0_63, w0_64, w0_65, w0_66])), (a1, .inl (E.2 2, 10, .inl s_byStar)), (a2, .inl (E.2 0, 10, .inl s_minuteOf)), (a3, .inl (E.2 0, 10, .inl s_weekdays)), (a4, .inl (E.2 0, 10, .inl s_wide))] sz 0 0 (fun x (_ : Unit) => x = r) (fun _ => [(a0, .inr (12, [w0_0, w0_1, w0_2, w0_3, w0_4, w0_5, w0_6, w0_7, w0_8, w0_9, w0_10, w0_11, w0_12, w0_13, w0_14, w0_15, w0_16, w0_17, w0_18, w0_19, w0_20, w0_21, w0_22, w0_23, w0_24, w0_25, w0_26, w0_27, w0_28, w0_29, w0_30, w0_31, w0_32, w0_33, w0_34, w0_35, w0_36, w0_37, w0_38, w0_39, w0_40, w0_41, w0_42, .ref a1, .ref a2, .ref a4, w0_46, .ref a3, w0_48, w0_49, w0_50, w0_51, w0_52, w0_53, w0_54, w0_55, w0_56, w0_57, w0_58, w0_59, w0_60, w0_61, w0_62, w0_63, w0_64, w0_65, w0_66])), (a1, .inl (E.2 2, 10, .inl s_byStar)), (a2, .inl (E.2 0, 10, .inl s_minuteOf)), (a3, .inl (E.2 0, 10, .inl s_weekdays)), (a4, .inl (E.2 0, 10, .inl s_wide))]) := by
  refine kmeti rfl (Nat.le_of_ble_eq_true rfl) ?_
  intro p e s m args below meth c ls A Q X hV hret hl
  have X : kC p s m c cX12_isThere 4 RX12 args E A := X
  have hx := X.1
  have hb := X.2.1
  have hl : lv_has ls 4 [(0, .ref a0), (1, .int p1), (2, .int p2), (3, .int p3)] := hl
  rw [f_X12_isThere] at h
  refine lv_aload_n hx hb dX12_isThere_0 rfl (lv_at hl 0 rfl) ?_
  refine kget X hV (ci := 12) inlX12 rfl 0 rfl 47 (by decide) mw_161 rfl dX12_isThere_1 ?_
  refine lv_iload_n hx hb dX12_isThere_4 rfl (lv_at hl 1 rfl) ?_
  obtain ⟨hi2, v5_1, e3, h4⟩ := rdI_s h
  clear h
  refine kiald X hV 3 rfl hi2 e3 dX12_isThere_5 ?_
  clear hi2 e3
  refine lv_iload_n hx hb dX12_isThere_6 rfl (lv_at hl 2 rfl) ?_
  refine lv_bipush (v := 7) hx hb dX12_isThere_7 (by decide) ?_
  refine lv_irem hx hb dX12_isThere_9 (by decide) ?_
  obtain ⟨r10_5, hc6, h7⟩ := cb1_s h4
  clear h4
  refine kgoiE (krunS (rest := []) X hV [] (c_X12_has l E _ v5_1 (jrem p2 7) r10_5 hc6) mw_711 kb_X12_has (by decide) rfl rfl hl.1 rfl (Nat.le_of_ble_eq_true rfl) dX12_isThere_10 (by decide)) X hV [] [0, 1, 2, 3, 4] rfl rfl rfl (by decide) (fun u H locs hV8 => ?_)
  have hV8 : kV E A s.heap H locs [(a0, .inr (12, [w0_0, w0_1, w0_2, w0_3, w0_4, w0_5, w0_6, w0_7, w0_8, w0_9, w0_10, w0_11, w0_12, w0_13, w0_14, w0_15, w0_16, w0_17, w0_18, w0_19, w0_20, w0_21, w0_22, w0_23, w0_24, w0_25, w0_26, w0_27, w0_28, w0_29, w0_30, w0_31, w0_32, w0_33, w0_34, w0_35, w0_36, w0_37, w0_38, w0_39, w0_40, w0_41, w0_42, .ref a1, .ref a2, .ref a4, w0_46, .ref a3, w0_48, w0_49, w0_50, w0_51, w0_52, w0_53, w0_54, w0_55, w0_56, w0_57, w0_58, w0_59, w0_60, w0_61, w0_62, w0_63, w0_64, w0_65, w0_66])), (a1, .inl (E.2 2, 10, .inl s_byStar)), (a2, .inl (E.2 0, 10, .inl s_minuteOf)), (a3, .inl (E.2 0, 10, .inl s_weekdays)), (a4, .inl (E.2 0, 10, .inl s_wide))] := hV8.sub [0, 1, 2, 3, 4] rfl rfl
  clear hV
  refine lv_if_eq (tgt := 36) hx hb dX12_isThere_13 (by decide) (fun c10 => ?_) (fun c10 => ?_)
  · have h11 := itS c10 h7
    clear h7 c10
    refine lv_iconst (v := 0) hx hb dX12_isThere_36 (by decide) ?_
    have q13 := tup1_s h11
    clear h11
    exact hret _ () _ _ _ _ q13 rfl hV8 dX12_isThere_37
  · have h12 := ieS c10 h7
    clear h7 c10
    refine lv_aload_n hx hb dX12_isThere_16 rfl (lv_at hl 0 rfl) ?_
    refine lv_iload_n hx hb dX12_isThere_17 rfl (lv_at hl 1 rfl) ?_
    refine lv_iload_n hx hb dX12_isThere_18 rfl (lv_at hl 2 rfl) ?_
    refine lv_iload_n hx hb dX12_isThere_19 rfl (lv_at hl 3 rfl) ?_
    obtain ⟨r20_14, hc15, h16⟩ := cb1_s h12
    clear h12
    refine kgoiE (krunV (rest := []) X hV8 [0, 1, 2] (c_X12_awayOf l E _ a0 a1 a2 (w0_0) (w0_1) (w0_2) (w0_3) (w0_4) (w0_5) (w0_6) (w0_7) (w0_8) (w0_9) (w0_10) (w0_11) (w0_12) (w0_13) (w0_14) (w0_15) (w0_16) (w0_17) (w0_18) (w0_19) (w0_20) (w0_21) (w0_22) (w0_23) (w0_24) (w0_25) (w0_26) (w0_27) (w0_28) (w0_29) (w0_30) (w0_31) (w0_32) (w0_33) (w0_34) (w0_35) (w0_36) (w0_37) (w0_38) (w0_39) (w0_40) (w0_41) (w0_42) (.ref a4) (w0_46) (.ref a3) (w0_48) (w0_49) (w0_50) (w0_51) (w0_52) (w0_53) (w0_54) (w0_55) (w0_56) (w0_57) (w0_58) (w0_59) (w0_60) (w0_61) (w0_62) (w0_63) (w0_64) (w0_65) (w0_66) s_byStar s_minuteOf p1 p2 p3 r20_14 hc15) mw_714 kb_X12_awayOf (ci := 12) rfl rfl (by decide) rfl rfl hl.1 rfl (Nat.le_of_ble_eq_true rfl) dX12_isThere_20 (by decide)) X hV8 [0, 1, 2] [3, 4] rfl rfl rfl (by decide) (fun u H locs hV17 => ?_)
    have hV17 : kV E A s.heap H locs [(a0, .inr (12, [w0_0, w0_1, w0_2, w0_3, w0_4, w0_5, w0_6, w0_7, w0_8, w0_9, w0_10, w0_11, w0_12, w0_13, w0_14, w0_15, w0_16, w0_17, w0_18, w0_19, w0_20, w0_21, w0_22, w0_23, w0_24, w0_25, w0_26, w0_27, w0_28, w0_29, w0_30, w0_31, w0_32, w0_33, w0_34, w0_35, w0_36, w0_37, w0_38, w0_39, w0_40, w0_41, w0_42, .ref a1, .ref a2, .ref a4, w0_46, .ref a3, w0_48, w0_49, w0_50, w0_51, w0_52, w0_53, w0_54, w0_55, w0_56, w0_57, w0_58, w0_59, w0_60, w0_61, w0_62, w0_63, w0_64, w0_65, w0_66])), (a1, .inl (E.2 2, 10, .inl s_byStar)), (a2, .inl (E.2 0, 10, .inl s_minuteOf)), (a3, .inl (E.2 0, 10, .inl s_weekdays)), (a4, .inl (E.2 0, 10, .inl s_wide))] := hV17.sub [2, 3, 4, 0, 1] rfl rfl
    clear hV8
    refine lv_aload_n hx hb dX12_isThere_23 rfl (lv_at hl 0 rfl) ?_
    refine kget X hV17 (ci := 12) inlX12 rfl 0 rfl 45 (by decide) mw_159 rfl dX12_isThere_24 ?_
    refine lv_iload_n hx hb dX12_isThere_27 rfl (lv_at hl 1 rfl) ?_
    obtain ⟨hi20, v28_19, e21, h22⟩ := rdI_s h16
    clear h16
    refine kiald X hV17 4 rfl hi20 e21 dX12_isThere_28 ?_
    clear hi20 e21
    refine lv_icmp_gt (tgt := 36) hx hb dX12_isThere_29 (by decide) (fun c23 => ?_) (fun c23 => ?_)
    · have h24 := itS c23 h22
      clear h22 c23
      refine lv_iconst (v := 0) hx hb dX12_isThere_36 (by decide) ?_
      have q26 := tup1_s h24
      clear h24
      exact hret _ () _ _ _ _ q26 rfl hV17 dX12_isThere_37
    · have h25 := ieS c23 h22
      clear h22 c23
      refine lv_iconst (v := 1) hx hb dX12_isThere_32 (by decide) ?_
      refine lv_goto (tgt := 37) hx hb dX12_isThere_33 (by decide) ?_
      have q27 := tup1_s h25
      clear h25
      exact hret _ () _ _ _ _ q27 rfl hV17 dX12_isThere_37
abbrev r_X12_luckOf : Room := { frames := 0, cells := 0, slots := 0, locals := 0 }
set_option maxHeartbeats 4000000 in
set_option maxRecDepth 100000 in
theorem c_X12_luckOf (l : Launch) (E : kE) (sz : Nat) (a0 : Nat) (w0_0 w0_1 w0_2 w0_4 w0_5 w0_6 w0_7 w0_8 w0_9 w0_10 w0_11 w0_12 w0_13 w0_14 w0_15 w0_16 w0_17 w0_18 w0_19 w0_20 w0_21 w0_22 w0_23 w0_24 w0_25 w0_26 w0_27 w0_28 w0_29 w0_30 w0_31 w0_32 w0_33 w0_34 w0_35 w0_36 w0_37 w0_38 w0_39 w0_40 w0_41 w0_42 w0_43 w0_44 w0_45 w0_46 w0_47 w0_48 w0_49 w0_50 w0_51 w0_52 w0_53 w0_54 w0_55 w0_56 w0_57 w0_58 w0_59 w0_60 w0_61 w0_62 w0_63 w0_64 w0_65 w0_66 : Value) (s_seed : Int32) (p1 : Int32) (p2 : Int32) (p3 : Int32) (r : Int32) (h : f_X12_luckOf s_seed p1 p2 p3 = some (r)) : kMi l yX12_luckOf cX12_luckOf 4 (some .int) r_X12_luckOf [.ref a0, .int p1, .int p2, .int p3] E [(a0, .inr (12, [w0_0, w0_1, w0_2, .int s_seed, w0_4, w0_5, w0_6, w0_7, w0_8, w0_9, w0_10, w0_11, w0_12, w0_13, w0_14, w0_15, w0_16, w0_17, w0_18, w0_19, w0_20, w0_21, w0_22, w0_23, w0_24, w0_25, w0_26, w0_27, w0_28, w0_29, w0_30, w0_31, w0_32, w0_33, w0_34, w0_35, w0_36, w0_37, w0_38, w0_39, w0_40, w0_41, w0_42, w0_43, w0_44, w0_45, w0_46, w0_47, w0_48, w0_49, w0_50, w0_51, w0_52, w0_53, w0_54, w0_55, w0_56, w0_57, w0_58, w0_59, w0_60, w0_61, w0_62, w0_63, w0_64, w0_65, w0_66]))] sz 0 0 (fun x (_ : Unit) => x = r) (fun _ => [(a0, .inr (12, [w0_0, w0_1, w0_2, .int s_seed, w0_4, w0_5, w0_6, w0_7, w0_8, w0_9, w0_10, w0_11, w0_12, w0_13, w0_14, w0_15, w0_16, w0_17, w0_18, w0_19, w0_20, w0_21, w0_22, w0_23, w0_24, w0_25, w0_26, w0_27, w0_28, w0_29, w0_30, w0_31, w0_32, w0_33, w0_34, w0_35, w0_36, w0_37, w0_38, w0_39, w0_40, w0_41, w0_42, w0_43, w0_44, w0_45, w0_46, w0_47, w0_48, w0_49, w0_50, w0_51, w0_52, w0_53, w0_54, w0_55, w0_56, w0_57, w0_58, w0_59, w0_60, w0_61, w0_62, w0_63, w0_64, w0_65, w0_66]))]) := by
  refine kmeti rfl (Nat.le_of_ble_eq_true rfl) ?_
  intro p e s m args below meth c ls A Q X hV hret hl
  have X : kC p s m c cX12_luckOf 4 RX12 args E A := X
  have hx := X.1
  have hb := X.2.1
  have hl : lv_has ls 4 [(0, .ref a0), (1, .int p1), (2, .int p2), (3, .int p3)] := hl
  rw [f_X12_luckOf] at h
  refine lv_ldc2 (v := 25173) hx hb X.2.2.2.1 (X.2.2.2.2.1 _ mw_735) dX12_luckOf_0 ?_
  refine lv_aload_n hx hb dX12_luckOf_3 rfl (lv_at hl 0 rfl) ?_
  refine kget X hV (ci := 12) inlX12 rfl 0 rfl 3 (by decide) mw_237 rfl dX12_luckOf_4 ?_
  refine lv_sipush (v := 1009) hx hb dX12_luckOf_7 (by decide) ?_
  refine lv_iload_n hx hb dX12_luckOf_10 rfl (lv_at hl 2 rfl) ?_
  refine lv_imul hx hb dX12_luckOf_11 ?_
  refine lv_iadd hx hb dX12_luckOf_12 ?_
  refine lv_sipush (v := 9176) hx hb dX12_luckOf_13 (by decide) ?_
  refine lv_iload_n hx hb dX12_luckOf_16 rfl (lv_at hl 3 rfl) ?_
  refine lv_imul hx hb dX12_luckOf_17 ?_
  refine lv_iadd hx hb dX12_luckOf_18 ?_
  refine lv_bipush (v := 31) hx hb dX12_luckOf_19 (by decide) ?_
  refine lv_iload_n hx hb dX12_luckOf_21 rfl (lv_at hl 1 rfl) ?_
  refine lv_imul hx hb dX12_luckOf_22 ?_
  refine lv_iadd hx hb dX12_luckOf_23 ?_
  refine lv_i2l (v := Int32.toInt64 (((s_seed + (1009 * p2)) + (9176 * p3)) + (31 * p1))) hx hb dX12_luckOf_24 rfl ?_
  refine lv_lmul hx hb dX12_luckOf_25 ?_
  refine lv_ldc2 (v := 13849) hx hb X.2.2.2.1 (X.2.2.2.2.1 _ mw_736) dX12_luckOf_26 ?_
  refine lv_ladd hx hb dX12_luckOf_29 ?_
  refine lv_ldc2 (v := 65536) hx hb X.2.2.2.1 (X.2.2.2.2.1 _ mw_737) dX12_luckOf_30 ?_
  refine lv_lrem hx hb dX12_luckOf_33 (by decide) ?_
  refine lv_l2i (v := Int64.toInt32 (jremL ((25173 * (Int32.toInt64 (((s_seed + (1009 * p2)) + (9176 * p3)) + (31 * p1)))) + 13849) 65536)) hx hb dX12_luckOf_34 rfl ?_
  refine lv_bipush (v := 100) hx hb dX12_luckOf_35 (by decide) ?_
  refine lv_irem hx hb dX12_luckOf_37 (by decide) ?_
  have q1 := tup1_s h
  clear h
  exact hret _ () _ _ _ _ q1 rfl hV dX12_luckOf_38
abbrev r_X12_heightOf : Room := { frames := 4, cells := 0, slots := 0, locals := 90 }
set_option maxHeartbeats 4000000 in
set_option maxRecDepth 100000 in
theorem c_X12_heightOf (l : Launch) (E : kE) (sz : Nat) (a0 a1 a2 a3 a4 a5 a6 a7 a8 a9 a10 a11 a12 : Nat) (w0_0 w0_1 w0_2 w0_4 w0_5 w0_6 w0_13 w0_14 w0_15 w0_16 w0_17 w0_18 w0_19 w0_20 w0_21 w0_22 w0_23 w0_24 w0_25 w0_26 w0_27 w0_46 w0_48 w0_49 w0_50 w0_51 w0_52 w0_53 w0_54 w0_55 w0_56 w0_57 w0_58 w0_59 w0_60 w0_61 w0_62 w0_63 w0_64 w0_65 w0_66 : Value) (s_seed : Int32) (s_atA : Int32) (s_atB : Int32) (s_atD : Int32) (s_atF : Int32) (s_atG : Int32) (s_atH : Int32) (s_atL : Int32) (s_atM : Int32) (s_atN : Int32) (s_atS : Int32) (s_atT : Int32) (s_atU : Int32) (s_atX : Int32) (s_byStar : Nat → Int32) (s_code : Nat → Int32) (s_codeArg : Nat → Int32) (s_codeFrom : Nat → Int32) (s_codeTo : Nat → Int32) (s_isRefused : Nat → Int32) (s_many : Nat → Int32) (s_minuteOf : Nat → Int32) (s_sumFrom : Nat → Int32) (s_weekdays : Nat → Int32) (s_wide : Nat → Int32) (s_worth : Nat → Int32) (p1 : Int32) (p2 : Int32) (p3 : Int32) (r : Int32) (o_atA : Int32) (o_atB : Int32) (o_atD : Int32) (o_atF : Int32) (o_atG : Int32) (o_atH : Int32) (o_atL : Int32) (o_atM : Int32) (o_atN : Int32) (o_atS : Int32) (o_atT : Int32) (o_atU : Int32) (o_atX : Int32) (o_isRefused : Nat → Int32) (o_worth : Nat → Int32) (h : f_X12_heightOf s_seed s_atA s_atB s_atD s_atF s_atG s_atH s_atL s_atM s_atN s_atS s_atT s_atU s_atX s_byStar s_code s_codeArg s_codeFrom s_codeTo s_isRefused s_many s_minuteOf s_sumFrom s_weekdays s_wide s_worth p1 p2 p3 = some (r, o_atA, o_atB, o_atD, o_atF, o_atG, o_atH, o_atL, o_atM, o_atN, o_atS, o_atT, o_atU, o_atX, o_isRefused, o_worth)) : kMi l yX12_heightOf cX12_heightOf 6 (some .int) r_X12_heightOf [.ref a0, .int p1, .int p2, .int p3] E [(a0, .inr (12, [w0_0, w0_1, w0_2, .int s_seed, w0_4, w0_5, w0_6, .ref a7, .ref a9, .ref a4, .ref a5, .ref a2, .ref a3, w0_13, w0_14, w0_15, w0_16, w0_17, w0_18, w0_19, w0_20, w0_21, w0_22, w0_23, w0_24, w0_25, w0_26, w0_27, .int s_atA, .int s_atB, .int s_atD, .int s_atF, .int s_atG, .int s_atH, .int s_atL, .int s_atM, .int s_atN, .int s_atS, .int s_atT, .int s_atU, .int s_atX, .ref a12, .ref a6, .ref a1, .ref a8, .ref a11, w0_46, .ref a10, w0_48, w0_49, w0_50, w0_51, w0_52, w0_53, w0_54, w0_55, w0_56, w0_57, w0_58, w0_59, w0_60, w0_61, w0_62, w0_63, w0_64, w0_65, w0_66])), (a1, .inl (E.2 2, 10, .inl s_byStar)), (a2, .inl (E.2 0, 2400, .inl s_code)), (a3, .inl (E.2 0, 2400, .inl s_codeArg)), (a4, .inl (E.2 0, 240, .inl s_codeFrom)), (a5, .inl (E.2 0, 240, .inl s_codeTo)), (a6, .inl (E.2 2, 200, .inl s_isRefused)), (a7, .inl (E.2 0, 20, .inl s_many)), (a8, .inl (E.2 0, 10, .inl s_minuteOf)), (a9, .inl (E.2 0, 240, .inl s_sumFrom)), (a10, .inl (E.2 0, 10, .inl s_weekdays)), (a11, .inl (E.2 0, 10, .inl s_wide)), (a12, .inl (E.2 0, 200, .inl s_worth))] sz 0 0 (fun x (_ : Unit) => x = r) (fun _ => [(a0, .inr (12, [w0_0, w0_1, w0_2, .int s_seed, w0_4, w0_5, w0_6, .ref a7, .ref a9, .ref a4, .ref a5, .ref a2, .ref a3, w0_13, w0_14, w0_15, w0_16, w0_17, w0_18, w0_19, w0_20, w0_21, w0_22, w0_23, w0_24, w0_25, w0_26, w0_27, .int o_atA, .int o_atB, .int o_atD, .int o_atF, .int o_atG, .int o_atH, .int o_atL, .int o_atM, .int o_atN, .int o_atS, .int o_atT, .int o_atU, .int o_atX, .ref a12, .ref a6, .ref a1, .ref a8, .ref a11, w0_46, .ref a10, w0_48, w0_49, w0_50, w0_51, w0_52, w0_53, w0_54, w0_55, w0_56, w0_57, w0_58, w0_59, w0_60, w0_61, w0_62, w0_63, w0_64, w0_65, w0_66])), (a1, .inl (E.2 2, 10, .inl s_byStar)), (a2, .inl (E.2 0, 2400, .inl s_code)), (a3, .inl (E.2 0, 2400, .inl s_codeArg)), (a4, .inl (E.2 0, 240, .inl s_codeFrom)), (a5, .inl (E.2 0, 240, .inl s_codeTo)), (a6, .inl (E.2 2, 200, .inl o_isRefused)), (a7, .inl (E.2 0, 20, .inl s_many)), (a8, .inl (E.2 0, 10, .inl s_minuteOf)), (a9, .inl (E.2 0, 240, .inl s_sumFrom)), (a10, .inl (E.2 0, 10, .inl s_weekdays)), (a11, .inl (E.2 0, 10, .inl s_wide)), (a12, .inl (E.2 0, 200, .inl o_worth))]) := by
  refine kmeti rfl (Nat.le_of_ble_eq_true rfl) ?_
  intro p e s m args below meth c ls A Q X hV hret hl
  have X : kC p s m c cX12_heightOf 6 RX12 args E A := X
  have hx := X.1
  have hb := X.2.1
  have hl : lv_has ls 6 [(0, .ref a0), (1, .int p1), (2, .int p2), (3, .int p3)] := hl
  rw [f_X12_heightOf] at h
  refine lv_aload_n hx hb dX12_heightOf_0 rfl (lv_at hl 0 rfl) ?_
  refine lv_iload_n hx hb dX12_heightOf_1 rfl (lv_at hl 1 rfl) ?_
  refine lv_iload_n hx hb dX12_heightOf_2 rfl (lv_at hl 2 rfl) ?_
  refine lv_iload_n hx hb dX12_heightOf_3 rfl (lv_at hl 3 rfl) ?_
  obtain ⟨r4_1, hc2, h3⟩ := cb1_s h
  clear h
  refine kgoiE (krunV (rest := []) X hV [0, 1, 8, 10, 11] (c_X12_isThere l E _ a0 a1 a8 a10 a11 (w0_0) (w0_1) (w0_2) (.int s_seed) (w0_4) (w0_5) (w0_6) (.ref a7) (.ref a9) (.ref a4) (.ref a5) (.ref a2) (.ref a3) (w0_13) (w0_14) (w0_15) (w0_16) (w0_17) (w0_18) (w0_19) (w0_20) (w0_21) (w0_22) (w0_23) (w0_24) (w0_25) (w0_26) (w0_27) (.int s_atA) (.int s_atB) (.int s_atD) (.int s_atF) (.int s_atG) (.int s_atH) (.int s_atL) (.int s_atM) (.int s_atN) (.int s_atS) (.int s_atT) (.int s_atU) (.int s_atX) (.ref a12) (.ref a6) (w0_46) (w0_48) (w0_49) (w0_50) (w0_51) (w0_52) (w0_53) (w0_54) (w0_55) (w0_56) (w0_57) (w0_58) (w0_59) (w0_60) (w0_61) (w0_62) (w0_63) (w0_64) (w0_65) (w0_66) s_byStar s_minuteOf s_weekdays s_wide p1 p2 p3 r4_1 hc2) mw_707 kb_X12_isThere (ci := 12) rfl rfl (by decide) rfl rfl hl.1 rfl (Nat.le_of_ble_eq_true rfl) dX12_heightOf_4 (by decide)) X hV [0, 1, 8, 10, 11] [2, 3, 4, 5, 6, 7, 9, 12] rfl rfl rfl (by decide) (fun u H locs hV4 => ?_)
  have hV4 : kV E A s.heap H locs [(a0, .inr (12, [w0_0, w0_1, w0_2, .int s_seed, w0_4, w0_5, w0_6, .ref a7, .ref a9, .ref a4, .ref a5, .ref a2, .ref a3, w0_13, w0_14, w0_15, w0_16, w0_17, w0_18, w0_19, w0_20, w0_21, w0_22, w0_23, w0_24, w0_25, w0_26, w0_27, .int s_atA, .int s_atB, .int s_atD, .int s_atF, .int s_atG, .int s_atH, .int s_atL, .int s_atM, .int s_atN, .int s_atS, .int s_atT, .int s_atU, .int s_atX, .ref a12, .ref a6, .ref a1, .ref a8, .ref a11, w0_46, .ref a10, w0_48, w0_49, w0_50, w0_51, w0_52, w0_53, w0_54, w0_55, w0_56, w0_57, w0_58, w0_59, w0_60, w0_61, w0_62, w0_63, w0_64, w0_65, w0_66])), (a1, .inl (E.2 2, 10, .inl s_byStar)), (a2, .inl (E.2 0, 2400, .inl s_code)), (a3, .inl (E.2 0, 2400, .inl s_codeArg)), (a4, .inl (E.2 0, 240, .inl s_codeFrom)), (a5, .inl (E.2 0, 240, .inl s_codeTo)), (a6, .inl (E.2 2, 200, .inl s_isRefused)), (a7, .inl (E.2 0, 20, .inl s_many)), (a8, .inl (E.2 0, 10, .inl s_minuteOf)), (a9, .inl (E.2 0, 240, .inl s_sumFrom)), (a10, .inl (E.2 0, 10, .inl s_weekdays)), (a11, .inl (E.2 0, 10, .inl s_wide)), (a12, .inl (E.2 0, 200, .inl s_worth))] := hV4.sub [8, 9, 0, 1, 2, 3, 4, 5, 10, 6, 11, 12, 7] rfl rfl
  clear hV
  refine lv_if_ne (tgt := 12) hx hb dX12_heightOf_7 (by decide) (fun c6 => ?_) (fun c6 => ?_)
  · have h7 := ieS c6 h3
    clear h3 c6
    refine lv_aload_n hx hb dX12_heightOf_12 rfl (lv_at hl 0 rfl) ?_
    obtain ⟨o_atA13_9, o_atB13_10, o_atD13_11, o_atF13_12, o_atG13_13, o_atH13_14, o_atL13_15, o_atM13_16, o_atN13_17, o_atS13_18, o_atT13_19, o_atU13_20, o_atX13_21, hc22, h23⟩ := cb13_s h7
    clear h7
    refine kgov (krunV (rest := []) X hV4 [0] (c_X12_clears l E _ a0 (w0_0) (w0_1) (w0_2) (.int s_seed) (w0_4) (w0_5) (w0_6) (.ref a7) (.ref a9) (.ref a4) (.ref a5) (.ref a2) (.ref a3) (w0_13) (w0_14) (w0_15) (w0_16) (w0_17) (w0_18) (w0_19) (w0_20) (w0_21) (w0_22) (w0_23) (w0_24) (w0_25) (w0_26) (w0_27) (.ref a12) (.ref a6) (.ref a1) (.ref a8) (.ref a11) (w0_46) (.ref a10) (w0_48) (w0_49) (w0_50) (w0_51) (w0_52) (w0_53) (w0_54) (w0_55) (w0_56) (w0_57) (w0_58) (w0_59) (w0_60) (w0_61) (w0_62) (w0_63) (w0_64) (w0_65) (w0_66) s_atA s_atB s_atD s_atF s_atG s_atH s_atL s_atM s_atN s_atS s_atT s_atU s_atX o_atA13_9 o_atB13_10 o_atD13_11 o_atF13_12 o_atG13_13 o_atH13_14 o_atL13_15 o_atM13_16 o_atN13_17 o_atS13_18 o_atT13_19 o_atU13_20 o_atX13_21 hc22) mw_721 kb_X12_clears (ci := 12) rfl rfl (by decide) rfl rfl hl.1 rfl (Nat.le_of_ble_eq_true rfl) dX12_heightOf_13 (by decide)) X hV4 [0] [1, 2, 3, 4, 5, 6, 7, 8, 9, 10, 11, 12] rfl rfl rfl (by decide) (fun u H locs hp25 hV24 => ?_)
    have hV24 : kV E A s.heap H locs [(a0, .inr (12, [w0_0, w0_1, w0_2, .int s_seed, w0_4, w0_5, w0_6, .ref a7, .ref a9, .ref a4, .ref a5, .ref a2, .ref a3, w0_13, w0_14, w0_15, w0_16, w0_17, w0_18, w0_19, w0_20, w0_21, w0_22, w0_23, w0_24, w0_25, w0_26, w0_27, .int o_atA13_9, .int o_atB13_10, .int o_atD13_11, .int o_atF13_12, .int o_atG13_13, .int o_atH13_14, .int o_atL13_15, .int o_atM13_16, .int o_atN13_17, .int o_atS13_18, .int o_atT13_19, .int o_atU13_20, .int o_atX13_21, .ref a12, .ref a6, .ref a1, .ref a8, .ref a11, w0_46, .ref a10, w0_48, w0_49, w0_50, w0_51, w0_52, w0_53, w0_54, w0_55, w0_56, w0_57, w0_58, w0_59, w0_60, w0_61, w0_62, w0_63, w0_64, w0_65, w0_66])), (a1, .inl (E.2 2, 10, .inl s_byStar)), (a2, .inl (E.2 0, 2400, .inl s_code)), (a3, .inl (E.2 0, 2400, .inl s_codeArg)), (a4, .inl (E.2 0, 240, .inl s_codeFrom)), (a5, .inl (E.2 0, 240, .inl s_codeTo)), (a6, .inl (E.2 2, 200, .inl s_isRefused)), (a7, .inl (E.2 0, 20, .inl s_many)), (a8, .inl (E.2 0, 10, .inl s_minuteOf)), (a9, .inl (E.2 0, 240, .inl s_sumFrom)), (a10, .inl (E.2 0, 10, .inl s_weekdays)), (a11, .inl (E.2 0, 10, .inl s_wide)), (a12, .inl (E.2 0, 200, .inl s_worth))] := hV24.sub [12, 0, 1, 2, 3, 4, 5, 6, 7, 8, 9, 10, 11] rfl rfl
    clear hV4
    refine lv_aload_n hx hb dX12_heightOf_16 rfl (lv_at hl 0 rfl) ?_
    refine lv_aload_n hx hb dX12_heightOf_17 rfl (lv_at hl 0 rfl) ?_
    refine lv_iload_n hx hb dX12_heightOf_18 rfl (lv_at hl 1 rfl) ?_
    refine lv_iload_n hx hb dX12_heightOf_19 rfl (lv_at hl 2 rfl) ?_
    refine lv_iload_n hx hb dX12_heightOf_20 rfl (lv_at hl 3 rfl) ?_
    obtain ⟨r21_26, hc27, h28⟩ := cb1_s h23
    clear h23
    refine kgoiE (krunV (rest := [.ref a0]) X hV24 [0, 1, 8] (c_X12_awayOf l E _ a0 a1 a8 (w0_0) (w0_1) (w0_2) (.int s_seed) (w0_4) (w0_5) (w0_6) (.ref a7) (.ref a9) (.ref a4) (.ref a5) (.ref a2) (.ref a3) (w0_13) (w0_14) (w0_15) (w0_16) (w0_17) (w0_18) (w0_19) (w0_20) (w0_21) (w0_22) (w0_23) (w0_24) (w0_25) (w0_26) (w0_27) (.int o_atA13_9) (.int o_atB13_10) (.int o_atD13_11) (.int o_atF13_12) (.int o_atG13_13) (.int o_atH13_14) (.int o_atL13_15) (.int o_atM13_16) (.int o_atN13_17) (.int o_atS13_18) (.int o_atT13_19) (.int o_atU13_20) (.int o_atX13_21) (.ref a12) (.ref a6) (.ref a11) (w0_46) (.ref a10) (w0_48) (w0_49) (w0_50) (w0_51) (w0_52) (w0_53) (w0_54) (w0_55) (w0_56) (w0_57) (w0_58) (w0_59) (w0_60) (w0_61) (w0_62) (w0_63) (w0_64) (w0_65) (w0_66) s_byStar s_minuteOf p1 p2 p3 r21_26 hc27) mw_714 kb_X12_awayOf (ci := 12) rfl rfl (by decide) rfl rfl hl.1 rfl (Nat.le_of_ble_eq_true rfl) dX12_heightOf_21 (by decide)) X hV24 [0, 1, 8] [2, 3, 4, 5, 6, 7, 9, 10, 11, 12] rfl rfl rfl (by decide) (fun u H locs hV29 => ?_)
    have hV29 : kV E A s.heap H locs [(a0, .inr (12, [w0_0, w0_1, w0_2, .int s_seed, w0_4, w0_5, w0_6, .ref a7, .ref a9, .ref a4, .ref a5, .ref a2, .ref a3, w0_13, w0_14, w0_15, w0_16, w0_17, w0_18, w0_19, w0_20, w0_21, w0_22, w0_23, w0_24, w0_25, w0_26, w0_27, .int o_atA13_9, .int o_atB13_10, .int o_atD13_11, .int o_atF13_12, .int o_atG13_13, .int o_atH13_14, .int o_atL13_15, .int o_atM13_16, .int o_atN13_17, .int o_atS13_18, .int o_atT13_19, .int o_atU13_20, .int o_atX13_21, .ref a12, .ref a6, .ref a1, .ref a8, .ref a11, w0_46, .ref a10, w0_48, w0_49, w0_50, w0_51, w0_52, w0_53, w0_54, w0_55, w0_56, w0_57, w0_58, w0_59, w0_60, w0_61, w0_62, w0_63, w0_64, w0_65, w0_66])), (a1, .inl (E.2 2, 10, .inl s_byStar)), (a2, .inl (E.2 0, 2400, .inl s_code)), (a3, .inl (E.2 0, 2400, .inl s_codeArg)), (a4, .inl (E.2 0, 240, .inl s_codeFrom)), (a5, .inl (E.2 0, 240, .inl s_codeTo)), (a6, .inl (E.2 2, 200, .inl s_isRefused)), (a7, .inl (E.2 0, 20, .inl s_many)), (a8, .inl (E.2 0, 10, .inl s_minuteOf)), (a9, .inl (E.2 0, 240, .inl s_sumFrom)), (a10, .inl (E.2 0, 10, .inl s_weekdays)), (a11, .inl (E.2 0, 10, .inl s_wide)), (a12, .inl (E.2 0, 200, .inl s_worth))] := hV29.sub [10, 11, 0, 1, 2, 3, 4, 5, 12, 6, 7, 8, 9] rfl rfl
    clear hV24
    refine kput X hV29 (ci := 12) inlX12 rfl tyX12 tyX12_ok nmX12 0 rfl 28 (by decide) mw_700 rfl rfl rfl (Nat.le_of_ble_eq_true rfl) dX12_heightOf_24 (fun H locs hV31 => ?_)
    have hV31 : kV E A s.heap H locs [(a0, .inr (12, [w0_0, w0_1, w0_2, .int s_seed, w0_4, w0_5, w0_6, .ref a7, .ref a9, .ref a4, .ref a5, .ref a2, .ref a3, w0_13, w0_14, w0_15, w0_16, w0_17, w0_18, w0_19, w0_20, w0_21, w0_22, w0_23, w0_24, w0_25, w0_26, w0_27, .int r21_26, .int o_atB13_10, .int o_atD13_11, .int o_atF13_12, .int o_atG13_13, .int o_atH13_14, .int o_atL13_15, .int o_atM13_16, .int o_atN13_17, .int o_atS13_18, .int o_atT13_19, .int o_atU13_20, .int o_atX13_21, .ref a12, .ref a6, .ref a1, .ref a8, .ref a11, w0_46, .ref a10, w0_48, w0_49, w0_50, w0_51, w0_52, w0_53, w0_54, w0_55, w0_56, w0_57, w0_58, w0_59, w0_60, w0_61, w0_62, w0_63, w0_64, w0_65, w0_66])), (a1, .inl (E.2 2, 10, .inl s_byStar)), (a2, .inl (E.2 0, 2400, .inl s_code)), (a3, .inl (E.2 0, 2400, .inl s_codeArg)), (a4, .inl (E.2 0, 240, .inl s_codeFrom)), (a5, .inl (E.2 0, 240, .inl s_codeTo)), (a6, .inl (E.2 2, 200, .inl s_isRefused)), (a7, .inl (E.2 0, 20, .inl s_many)), (a8, .inl (E.2 0, 10, .inl s_minuteOf)), (a9, .inl (E.2 0, 240, .inl s_sumFrom)), (a10, .inl (E.2 0, 10, .inl s_weekdays)), (a11, .inl (E.2 0, 10, .inl s_wide)), (a12, .inl (E.2 0, 200, .inl s_worth))] := hV31
    clear hV29
    refine lv_aload_n hx hb dX12_heightOf_27 rfl (lv_at hl 0 rfl) ?_
    refine lv_iload_n hx hb dX12_heightOf_28 rfl (lv_at hl 2 rfl) ?_
    refine kput X hV31 (ci := 12) inlX12 rfl tyX12 tyX12_ok nmX12 0 rfl 30 (by decide) mw_701 rfl rfl rfl (Nat.le_of_ble_eq_true rfl) dX12_heightOf_29 (fun H locs hV32 => ?_)
    have hV32 : kV E A s.heap H locs [(a0, .inr (12, [w0_0, w0_1, w0_2, .int s_seed, w0_4, w0_5, w0_6, .ref a7, .ref a9, .ref a4, .ref a5, .ref a2, .ref a3, w0_13, w0_14, w0_15, w0_16, w0_17, w0_18, w0_19, w0_20, w0_21, w0_22, w0_23, w0_24, w0_25, w0_26, w0_27, .int r21_26, .int o_atB13_10, .int p2, .int o_atF13_12, .int o_atG13_13, .int o_atH13_14, .int o_atL13_15, .int o_atM13_16, .int o_atN13_17, .int o_atS13_18, .int o_atT13_19, .int o_atU13_20, .int o_atX13_21, .ref a12, .ref a6, .ref a1, .ref a8, .ref a11, w0_46, .ref a10, w0_48, w0_49, w0_50, w0_51, w0_52, w0_53, w0_54, w0_55, w0_56, w0_57, w0_58, w0_59, w0_60, w0_61, w0_62, w0_63, w0_64, w0_65, w0_66])), (a1, .inl (E.2 2, 10, .inl s_byStar)), (a2, .inl (E.2 0, 2400, .inl s_code)), (a3, .inl (E.2 0, 2400, .inl s_codeArg)), (a4, .inl (E.2 0, 240, .inl s_codeFrom)), (a5, .inl (E.2 0, 240, .inl s_codeTo)), (a6, .inl (E.2 2, 200, .inl s_isRefused)), (a7, .inl (E.2 0, 20, .inl s_many)), (a8, .inl (E.2 0, 10, .inl s_minuteOf)), (a9, .inl (E.2 0, 240, .inl s_sumFrom)), (a10, .inl (E.2 0, 10, .inl s_weekdays)), (a11, .inl (E.2 0, 10, .inl s_wide)), (a12, .inl (E.2 0, 200, .inl s_worth))] := hV32
    clear hV31
    refine lv_aload_n hx hb dX12_heightOf_32 rfl (lv_at hl 0 rfl) ?_
    refine lv_iload_n hx hb dX12_heightOf_33 rfl (lv_at hl 2 rfl) ?_
    refine lv_bipush (v := 7) hx hb dX12_heightOf_34 (by decide) ?_
    refine lv_irem hx hb dX12_heightOf_36 (by decide) ?_
    obtain ⟨v37_33, e34, h35⟩ := nmI_s h28
    clear h28
    refine ktopi e34 ?_
    clear e34
    refine kput X hV32 (ci := 12) inlX12 rfl tyX12 tyX12_ok nmX12 0 rfl 31 (by decide) mw_702 rfl rfl rfl (Nat.le_of_ble_eq_true rfl) dX12_heightOf_37 (fun H locs hV36 => ?_)
    have hV36 : kV E A s.heap H locs [(a0, .inr (12, [w0_0, w0_1, w0_2, .int s_seed, w0_4, w0_5, w0_6, .ref a7, .ref a9, .ref a4, .ref a5, .ref a2, .ref a3, w0_13, w0_14, w0_15, w0_16, w0_17, w0_18, w0_19, w0_20, w0_21, w0_22, w0_23, w0_24, w0_25, w0_26, w0_27, .int r21_26, .int o_atB13_10, .int p2, .int v37_33, .int o_atG13_13, .int o_atH13_14, .int o_atL13_15, .int o_atM13_16, .int o_atN13_17, .int o_atS13_18, .int o_atT13_19, .int o_atU13_20, .int o_atX13_21, .ref a12, .ref a6, .ref a1, .ref a8, .ref a11, w0_46, .ref a10, w0_48, w0_49, w0_50, w0_51, w0_52, w0_53, w0_54, w0_55, w0_56, w0_57, w0_58, w0_59, w0_60, w0_61, w0_62, w0_63, w0_64, w0_65, w0_66])), (a1, .inl (E.2 2, 10, .inl s_byStar)), (a2, .inl (E.2 0, 2400, .inl s_code)), (a3, .inl (E.2 0, 2400, .inl s_codeArg)), (a4, .inl (E.2 0, 240, .inl s_codeFrom)), (a5, .inl (E.2 0, 240, .inl s_codeTo)), (a6, .inl (E.2 2, 200, .inl s_isRefused)), (a7, .inl (E.2 0, 20, .inl s_many)), (a8, .inl (E.2 0, 10, .inl s_minuteOf)), (a9, .inl (E.2 0, 240, .inl s_sumFrom)), (a10, .inl (E.2 0, 10, .inl s_weekdays)), (a11, .inl (E.2 0, 10, .inl s_wide)), (a12, .inl (E.2 0, 200, .inl s_worth))] := hV36
    clear hV32
    refine lv_aload_n hx hb dX12_heightOf_40 rfl (lv_at hl 0 rfl) ?_
    refine lv_iload_n hx hb dX12_heightOf_41 rfl (lv_at hl 3 rfl) ?_
    refine kput X hV36 (ci := 12) inlX12 rfl tyX12 tyX12_ok nmX12 0 rfl 35 (by decide) mw_703 rfl rfl rfl (Nat.le_of_ble_eq_true rfl) dX12_heightOf_42 (fun H locs hV37 => ?_)
    have hV37 : kV E A s.heap H locs [(a0, .inr (12, [w0_0, w0_1, w0_2, .int s_seed, w0_4, w0_5, w0_6, .ref a7, .ref a9, .ref a4, .ref a5, .ref a2, .ref a3, w0_13, w0_14, w0_15, w0_16, w0_17, w0_18, w0_19, w0_20, w0_21, w0_22, w0_23, w0_24, w0_25, w0_26, w0_27, .int r21_26, .int o_atB13_10, .int p2, .int v37_33, .int o_atG13_13, .int o_atH13_14, .int o_atL13_15, .int p3, .int o_atN13_17, .int o_atS13_18, .int o_atT13_19, .int o_atU13_20, .int o_atX13_21, .ref a12, .ref a6, .ref a1, .ref a8, .ref a11, w0_46, .ref a10, w0_48, w0_49, w0_50, w0_51, w0_52, w0_53, w0_54, w0_55, w0_56, w0_57, w0_58, w0_59, w0_60, w0_61, w0_62, w0_63, w0_64, w0_65, w0_66])), (a1, .inl (E.2 2, 10, .inl s_byStar)), (a2, .inl (E.2 0, 2400, .inl s_code)), (a3, .inl (E.2 0, 2400, .inl s_codeArg)), (a4, .inl (E.2 0, 240, .inl s_codeFrom)), (a5, .inl (E.2 0, 240, .inl s_codeTo)), (a6, .inl (E.2 2, 200, .inl s_isRefused)), (a7, .inl (E.2 0, 20, .inl s_many)), (a8, .inl (E.2 0, 10, .inl s_minuteOf)), (a9, .inl (E.2 0, 240, .inl s_sumFrom)), (a10, .inl (E.2 0, 10, .inl s_weekdays)), (a11, .inl (E.2 0, 10, .inl s_wide)), (a12, .inl (E.2 0, 200, .inl s_worth))] := hV37
    clear hV36
    refine lv_aload_n hx hb dX12_heightOf_45 rfl (lv_at hl 0 rfl) ?_
    refine lv_iload_n hx hb dX12_heightOf_46 rfl (lv_at hl 2 rfl) ?_
    refine lv_iload_n hx hb dX12_heightOf_47 rfl (lv_at hl 3 rfl) ?_
    obtain ⟨r48_38, hc39, h40⟩ := cb1_s h35
    clear h35
    refine kgoiE (krunS (rest := [.ref a0]) X hV37 [] (c_X12_starAt l E _ p2 p3 r48_38 hc39) mw_636 kb_X12_starAt (by decide) rfl rfl hl.1 rfl (Nat.le_of_ble_eq_true rfl) dX12_heightOf_48 (by decide)) X hV37 [] [0, 1, 2, 3, 4, 5, 6, 7, 8, 9, 10, 11, 12] rfl rfl rfl (by decide) (fun u H locs hV41 => ?_)
    have hV41 : kV E A s.heap H locs [(a0, .inr (12, [w0_0, w0_1, w0_2, .int s_seed, w0_4, w0_5, w0_6, .ref a7, .ref a9, .ref a4, .ref a5, .ref a2, .ref a3, w0_13, w0_14, w0_15, w0_16, w0_17, w0_18, w0_19, w0_20, w0_21, w0_22, w0_23, w0_24, w0_25, w0_26, w0_27, .int r21_26, .int o_atB13_10, .int p2, .int v37_33, .int o_atG13_13, .int o_atH13_14, .int o_atL13_15, .int p3, .int o_atN13_17, .int o_atS13_18, .int o_atT13_19, .int o_atU13_20, .int o_atX13_21, .ref a12, .ref a6, .ref a1, .ref a8, .ref a11, w0_46, .ref a10, w0_48, w0_49, w0_50, w0_51, w0_52, w0_53, w0_54, w0_55, w0_56, w0_57, w0_58, w0_59, w0_60, w0_61, w0_62, w0_63, w0_64, w0_65, w0_66])), (a1, .inl (E.2 2, 10, .inl s_byStar)), (a2, .inl (E.2 0, 2400, .inl s_code)), (a3, .inl (E.2 0, 2400, .inl s_codeArg)), (a4, .inl (E.2 0, 240, .inl s_codeFrom)), (a5, .inl (E.2 0, 240, .inl s_codeTo)), (a6, .inl (E.2 2, 200, .inl s_isRefused)), (a7, .inl (E.2 0, 20, .inl s_many)), (a8, .inl (E.2 0, 10, .inl s_minuteOf)), (a9, .inl (E.2 0, 240, .inl s_sumFrom)), (a10, .inl (E.2 0, 10, .inl s_weekdays)), (a11, .inl (E.2 0, 10, .inl s_wide)), (a12, .inl (E.2 0, 200, .inl s_worth))] := hV41.sub [0, 1, 2, 3, 4, 5, 6, 7, 8, 9, 10, 11, 12] rfl rfl
    clear hV37
    refine kput X hV41 (ci := 12) inlX12 rfl tyX12 tyX12_ok nmX12 0 rfl 37 (by decide) mw_704 rfl rfl rfl (Nat.le_of_ble_eq_true rfl) dX12_heightOf_51 (fun H locs hV43 => ?_)
    have hV43 : kV E A s.heap H locs [(a0, .inr (12, [w0_0, w0_1, w0_2, .int s_seed, w0_4, w0_5, w0_6, .ref a7, .ref a9, .ref a4, .ref a5, .ref a2, .ref a3, w0_13, w0_14, w0_15, w0_16, w0_17, w0_18, w0_19, w0_20, w0_21, w0_22, w0_23, w0_24, w0_25, w0_26, w0_27, .int r21_26, .int o_atB13_10, .int p2, .int v37_33, .int o_atG13_13, .int o_atH13_14, .int o_atL13_15, .int p3, .int o_atN13_17, .int r48_38, .int o_atT13_19, .int o_atU13_20, .int o_atX13_21, .ref a12, .ref a6, .ref a1, .ref a8, .ref a11, w0_46, .ref a10, w0_48, w0_49, w0_50, w0_51, w0_52, w0_53, w0_54, w0_55, w0_56, w0_57, w0_58, w0_59, w0_60, w0_61, w0_62, w0_63, w0_64, w0_65, w0_66])), (a1, .inl (E.2 2, 10, .inl s_byStar)), (a2, .inl (E.2 0, 2400, .inl s_code)), (a3, .inl (E.2 0, 2400, .inl s_codeArg)), (a4, .inl (E.2 0, 240, .inl s_codeFrom)), (a5, .inl (E.2 0, 240, .inl s_codeTo)), (a6, .inl (E.2 2, 200, .inl s_isRefused)), (a7, .inl (E.2 0, 20, .inl s_many)), (a8, .inl (E.2 0, 10, .inl s_minuteOf)), (a9, .inl (E.2 0, 240, .inl s_sumFrom)), (a10, .inl (E.2 0, 10, .inl s_weekdays)), (a11, .inl (E.2 0, 10, .inl s_wide)), (a12, .inl (E.2 0, 200, .inl s_worth))] := hV43
    clear hV41
    refine lv_aload_n hx hb dX12_heightOf_54 rfl (lv_at hl 0 rfl) ?_
    refine lv_aload_n hx hb dX12_heightOf_55 rfl (lv_at hl 0 rfl) ?_
    refine kget X hV43 (ci := 12) inlX12 rfl 0 rfl 37 (by decide) mw_704 rfl dX12_heightOf_56 ?_
    refine lv_sipush (v := 720) hx hb dX12_heightOf_59 (by decide) ?_
    refine lv_iconst (v := 4) hx hb dX12_heightOf_62 (by decide) ?_
    refine lv_iload_n hx hb dX12_heightOf_63 rfl (lv_at hl 2 rfl) ?_
    refine lv_imul hx hb dX12_heightOf_64 ?_
    refine lv_iadd hx hb dX12_heightOf_65 ?_
    refine lv_sipush (v := 1440) hx hb dX12_heightOf_66 (by decide) ?_
    refine lv_irem hx hb dX12_heightOf_69 (by decide) ?_
    obtain ⟨r70_44, hc45, h46⟩ := cb1_s h40
    clear h40
    refine kgoiE (krunS (rest := [.ref a0]) X hV43 [] (c_X12_farOf l E _ r48_38 (jrem (720 + (4 * p2)) 1440) r70_44 hc45) mw_718 kb_X12_farOf (by decide) rfl rfl hl.1 rfl (Nat.le_of_ble_eq_true rfl) dX12_heightOf_70 (by decide)) X hV43 [] [0, 1, 2, 3, 4, 5, 6, 7, 8, 9, 10, 11, 12] rfl rfl rfl (by decide) (fun u H locs hV47 => ?_)
    have hV47 : kV E A s.heap H locs [(a0, .inr (12, [w0_0, w0_1, w0_2, .int s_seed, w0_4, w0_5, w0_6, .ref a7, .ref a9, .ref a4, .ref a5, .ref a2, .ref a3, w0_13, w0_14, w0_15, w0_16, w0_17, w0_18, w0_19, w0_20, w0_21, w0_22, w0_23, w0_24, w0_25, w0_26, w0_27, .int r21_26, .int o_atB13_10, .int p2, .int v37_33, .int o_atG13_13, .int o_atH13_14, .int o_atL13_15, .int p3, .int o_atN13_17, .int r48_38, .int o_atT13_19, .int o_atU13_20, .int o_atX13_21, .ref a12, .ref a6, .ref a1, .ref a8, .ref a11, w0_46, .ref a10, w0_48, w0_49, w0_50, w0_51, w0_52, w0_53, w0_54, w0_55, w0_56, w0_57, w0_58, w0_59, w0_60, w0_61, w0_62, w0_63, w0_64, w0_65, w0_66])), (a1, .inl (E.2 2, 10, .inl s_byStar)), (a2, .inl (E.2 0, 2400, .inl s_code)), (a3, .inl (E.2 0, 2400, .inl s_codeArg)), (a4, .inl (E.2 0, 240, .inl s_codeFrom)), (a5, .inl (E.2 0, 240, .inl s_codeTo)), (a6, .inl (E.2 2, 200, .inl s_isRefused)), (a7, .inl (E.2 0, 20, .inl s_many)), (a8, .inl (E.2 0, 10, .inl s_minuteOf)), (a9, .inl (E.2 0, 240, .inl s_sumFrom)), (a10, .inl (E.2 0, 10, .inl s_weekdays)), (a11, .inl (E.2 0, 10, .inl s_wide)), (a12, .inl (E.2 0, 200, .inl s_worth))] := hV47.sub [0, 1, 2, 3, 4, 5, 6, 7, 8, 9, 10, 11, 12] rfl rfl
    clear hV43
    refine kput X hV47 (ci := 12) inlX12 rfl tyX12 tyX12_ok nmX12 0 rfl 39 (by decide) mw_705 rfl rfl rfl (Nat.le_of_ble_eq_true rfl) dX12_heightOf_73 (fun H locs hV49 => ?_)
    have hV49 : kV E A s.heap H locs [(a0, .inr (12, [w0_0, w0_1, w0_2, .int s_seed, w0_4, w0_5, w0_6, .ref a7, .ref a9, .ref a4, .ref a5, .ref a2, .ref a3, w0_13, w0_14, w0_15, w0_16, w0_17, w0_18, w0_19, w0_20, w0_21, w0_22, w0_23, w0_24, w0_25, w0_26, w0_27, .int r21_26, .int o_atB13_10, .int p2, .int v37_33, .int o_atG13_13, .int o_atH13_14, .int o_atL13_15, .int p3, .int o_atN13_17, .int r48_38, .int o_atT13_19, .int r70_44, .int o_atX13_21, .ref a12, .ref a6, .ref a1, .ref a8, .ref a11, w0_46, .ref a10, w0_48, w0_49, w0_50, w0_51, w0_52, w0_53, w0_54, w0_55, w0_56, w0_57, w0_58, w0_59, w0_60, w0_61, w0_62, w0_63, w0_64, w0_65, w0_66])), (a1, .inl (E.2 2, 10, .inl s_byStar)), (a2, .inl (E.2 0, 2400, .inl s_code)), (a3, .inl (E.2 0, 2400, .inl s_codeArg)), (a4, .inl (E.2 0, 240, .inl s_codeFrom)), (a5, .inl (E.2 0, 240, .inl s_codeTo)), (a6, .inl (E.2 2, 200, .inl s_isRefused)), (a7, .inl (E.2 0, 20, .inl s_many)), (a8, .inl (E.2 0, 10, .inl s_minuteOf)), (a9, .inl (E.2 0, 240, .inl s_sumFrom)), (a10, .inl (E.2 0, 10, .inl s_weekdays)), (a11, .inl (E.2 0, 10, .inl s_wide)), (a12, .inl (E.2 0, 200, .inl s_worth))] := hV49
    clear hV47
    refine lv_aload_n hx hb dX12_heightOf_76 rfl (lv_at hl 0 rfl) ?_
    refine lv_aload_n hx hb dX12_heightOf_77 rfl (lv_at hl 0 rfl) ?_
    refine lv_iload_n hx hb dX12_heightOf_78 rfl (lv_at hl 1 rfl) ?_
    refine lv_iload_n hx hb dX12_heightOf_79 rfl (lv_at hl 2 rfl) ?_
    refine lv_iload_n hx hb dX12_heightOf_80 rfl (lv_at hl 3 rfl) ?_
    obtain ⟨r81_50, hc51, h52⟩ := cb1_s h46
    clear h46
    refine kgoiE (krunV (rest := [.ref a0]) X hV49 [0] (c_X12_luckOf l E _ a0 (w0_0) (w0_1) (w0_2) (w0_4) (w0_5) (w0_6) (.ref a7) (.ref a9) (.ref a4) (.ref a5) (.ref a2) (.ref a3) (w0_13) (w0_14) (w0_15) (w0_16) (w0_17) (w0_18) (w0_19) (w0_20) (w0_21) (w0_22) (w0_23) (w0_24) (w0_25) (w0_26) (w0_27) (.int r21_26) (.int o_atB13_10) (.int p2) (.int v37_33) (.int o_atG13_13) (.int o_atH13_14) (.int o_atL13_15) (.int p3) (.int o_atN13_17) (.int r48_38) (.int o_atT13_19) (.int r70_44) (.int o_atX13_21) (.ref a12) (.ref a6) (.ref a1) (.ref a8) (.ref a11) (w0_46) (.ref a10) (w0_48) (w0_49) (w0_50) (w0_51) (w0_52) (w0_53) (w0_54) (w0_55) (w0_56) (w0_57) (w0_58) (w0_59) (w0_60) (w0_61) (w0_62) (w0_63) (w0_64) (w0_65) (w0_66) s_seed p1 p2 p3 r81_50 hc51) mw_731 kb_X12_luckOf (ci := 12) rfl rfl (by decide) rfl rfl hl.1 rfl (Nat.le_of_ble_eq_true rfl) dX12_heightOf_81 (by decide)) X hV49 [0] [1, 2, 3, 4, 5, 6, 7, 8, 9, 10, 11, 12] rfl rfl rfl (by decide) (fun u H locs hV53 => ?_)
    have hV53 : kV E A s.heap H locs [(a0, .inr (12, [w0_0, w0_1, w0_2, .int s_seed, w0_4, w0_5, w0_6, .ref a7, .ref a9, .ref a4, .ref a5, .ref a2, .ref a3, w0_13, w0_14, w0_15, w0_16, w0_17, w0_18, w0_19, w0_20, w0_21, w0_22, w0_23, w0_24, w0_25, w0_26, w0_27, .int r21_26, .int o_atB13_10, .int p2, .int v37_33, .int o_atG13_13, .int o_atH13_14, .int o_atL13_15, .int p3, .int o_atN13_17, .int r48_38, .int o_atT13_19, .int r70_44, .int o_atX13_21, .ref a12, .ref a6, .ref a1, .ref a8, .ref a11, w0_46, .ref a10, w0_48, w0_49, w0_50, w0_51, w0_52, w0_53, w0_54, w0_55, w0_56, w0_57, w0_58, w0_59, w0_60, w0_61, w0_62, w0_63, w0_64, w0_65, w0_66])), (a1, .inl (E.2 2, 10, .inl s_byStar)), (a2, .inl (E.2 0, 2400, .inl s_code)), (a3, .inl (E.2 0, 2400, .inl s_codeArg)), (a4, .inl (E.2 0, 240, .inl s_codeFrom)), (a5, .inl (E.2 0, 240, .inl s_codeTo)), (a6, .inl (E.2 2, 200, .inl s_isRefused)), (a7, .inl (E.2 0, 20, .inl s_many)), (a8, .inl (E.2 0, 10, .inl s_minuteOf)), (a9, .inl (E.2 0, 240, .inl s_sumFrom)), (a10, .inl (E.2 0, 10, .inl s_weekdays)), (a11, .inl (E.2 0, 10, .inl s_wide)), (a12, .inl (E.2 0, 200, .inl s_worth))] := hV53.sub [12, 0, 1, 2, 3, 4, 5, 6, 7, 8, 9, 10, 11] rfl rfl
    clear hV49
    refine kput X hV53 (ci := 12) inlX12 rfl tyX12 tyX12_ok nmX12 0 rfl 40 (by decide) mw_706 rfl rfl rfl (Nat.le_of_ble_eq_true rfl) dX12_heightOf_84 (fun H locs hV55 => ?_)
    have hV55 : kV E A s.heap H locs [(a0, .inr (12, [w0_0, w0_1, w0_2, .int s_seed, w0_4, w0_5, w0_6, .ref a7, .ref a9, .ref a4, .ref a5, .ref a2, .ref a3, w0_13, w0_14, w0_15, w0_16, w0_17, w0_18, w0_19, w0_20, w0_21, w0_22, w0_23, w0_24, w0_25, w0_26, w0_27, .int r21_26, .int o_atB13_10, .int p2, .int v37_33, .int o_atG13_13, .int o_atH13_14, .int o_atL13_15, .int p3, .int o_atN13_17, .int r48_38, .int o_atT13_19, .int r70_44, .int r81_50, .ref a12, .ref a6, .ref a1, .ref a8, .ref a11, w0_46, .ref a10, w0_48, w0_49, w0_50, w0_51, w0_52, w0_53, w0_54, w0_55, w0_56, w0_57, w0_58, w0_59, w0_60, w0_61, w0_62, w0_63, w0_64, w0_65, w0_66])), (a1, .inl (E.2 2, 10, .inl s_byStar)), (a2, .inl (E.2 0, 2400, .inl s_code)), (a3, .inl (E.2 0, 2400, .inl s_codeArg)), (a4, .inl (E.2 0, 240, .inl s_codeFrom)), (a5, .inl (E.2 0, 240, .inl s_codeTo)), (a6, .inl (E.2 2, 200, .inl s_isRefused)), (a7, .inl (E.2 0, 20, .inl s_many)), (a8, .inl (E.2 0, 10, .inl s_minuteOf)), (a9, .inl (E.2 0, 240, .inl s_sumFrom)), (a10, .inl (E.2 0, 10, .inl s_weekdays)), (a11, .inl (E.2 0, 10, .inl s_wide)), (a12, .inl (E.2 0, 200, .inl s_worth))] := hV55
    clear hV53
    refine lv_bipush (v := 12) hx hb dX12_heightOf_87 (by decide) ?_
    refine lv_iconst (v := 0) hx hb dX12_heightOf_89 (by decide) ?_
    refine lv_iload_n hx hb dX12_heightOf_90 rfl (lv_at hl 1 rfl) ?_
    refine lv_iadd hx hb dX12_heightOf_91 ?_
    refine lv_imul hx hb dX12_heightOf_92 ?_
    obtain ⟨v93_56, e57, h58⟩ := nmI_s h52
    clear h52
    refine ktopi e57 ?_
    clear e57
    refine lv_istore (lv' := [(4, .int v93_56), (0, .ref a0), (1, .int p1), (2, .int p2), (3, .int p3)]) hx hb dX12_heightOf_93 hl (by decide) rfl (fun ls hl59 => ?_)
    clear hl
    have J127 : ∀ (x4_60 : Int32) (isRefused__61 : Nat → Int32) (worth__62 : Nat → Int32) (H : Heap) (locs : List Loc) (ls : Array Slot), (f_X12_heightOf_J127 s_code s_codeArg s_codeFrom s_sumFrom p2 p3 o_atB13_10 o_atG13_13 o_atH13_14 o_atL13_15 o_atN13_17 o_atT13_19 r21_26 v37_33 r48_38 r70_44 r81_50 ) x4_60 isRefused__61 worth__62 = some (r, o_atA, o_atB, o_atD, o_atF, o_atG, o_atH, o_atL, o_atM, o_atN, o_atS, o_atT, o_atU, o_atX, o_isRefused, o_worth) → kV E A s.heap H locs [(a0, .inr (12, [w0_0, w0_1, w0_2, .int s_seed, w0_4, w0_5, w0_6, .ref a7, .ref a9, .ref a4, .ref a5, .ref a2, .ref a3, w0_13, w0_14, w0_15, w0_16, w0_17, w0_18, w0_19, w0_20, w0_21, w0_22, w0_23, w0_24, w0_25, w0_26, w0_27, .int r21_26, .int o_atB13_10, .int p2, .int v37_33, .int o_atG13_13, .int o_atH13_14, .int o_atL13_15, .int p3, .int o_atN13_17, .int r48_38, .int o_atT13_19, .int r70_44, .int r81_50, .ref a12, .ref a6, .ref a1, .ref a8, .ref a11, w0_46, .ref a10, w0_48, w0_49, w0_50, w0_51, w0_52, w0_53, w0_54, w0_55, w0_56, w0_57, w0_58, w0_59, w0_60, w0_61, w0_62, w0_63, w0_64, w0_65, w0_66])), (a1, .inl (E.2 2, 10, .inl s_byStar)), (a2, .inl (E.2 0, 2400, .inl s_code)), (a3, .inl (E.2 0, 2400, .inl s_codeArg)), (a4, .inl (E.2 0, 240, .inl s_codeFrom)), (a5, .inl (E.2 0, 240, .inl s_codeTo)), (a6, .inl (E.2 2, 200, .inl isRefused__61)), (a7, .inl (E.2 0, 20, .inl s_many)), (a8, .inl (E.2 0, 10, .inl s_minuteOf)), (a9, .inl (E.2 0, 240, .inl s_sumFrom)), (a10, .inl (E.2 0, 10, .inl s_weekdays)), (a11, .inl (E.2 0, 10, .inl s_wide)), (a12, .inl (E.2 0, 200, .inl worth__62))] → lv_has ls 6 [(0, .ref a0), (4, .int x4_60)] → W p l e r_X12_heightOf s m args below meth c H locs 0 0 Q (F0 m 127 ls []) := by
      intro x4_60 isRefused__61 worth__62 H locs ls hB127 hVB127 hlB127
      rw [f_X12_heightOf_J127] at hB127
      refine lv_aload_n hx hb dX12_heightOf_127 rfl (lv_at hlB127 0 rfl) ?_
      refine lv_iload hx hb dX12_heightOf_128 (lv_at hlB127 1 rfl) ?_
      obtain ⟨r130_63, o_isRefused130_64, o_worth130_65, hc66, h67⟩ := cb3_s hB127
      clear hB127
      refine kgoiE (krunV (rest := []) X hVB127 [0, 2, 3, 4, 6, 9, 12] (c_X12_sumOf l E _ a0 a2 a3 a4 a6 a9 a12 (w0_0) (w0_1) (w0_2) (.int s_seed) (w0_4) (w0_5) (w0_6) (.ref a7) (.ref a5) (w0_13) (w0_14) (w0_15) (w0_16) (w0_17) (w0_18) (w0_19) (w0_20) (w0_21) (w0_22) (w0_23) (w0_24) (w0_25) (w0_26) (w0_27) (.ref a1) (.ref a8) (.ref a11) (w0_46) (.ref a10) (w0_48) (w0_49) (w0_50) (w0_51) (w0_52) (w0_53) (w0_54) (w0_55) (w0_56) (w0_57) (w0_58) (w0_59) (w0_60) (w0_61) (w0_62) (w0_63) (w0_64) (w0_65) (w0_66) r21_26 o_atB13_10 p2 v37_33 o_atG13_13 o_atH13_14 o_atL13_15 p3 o_atN13_17 r48_38 o_atT13_19 r70_44 r81_50 s_code s_codeArg s_codeFrom isRefused__61 s_sumFrom worth__62 x4_60 r130_63 o_isRefused130_64 o_worth130_65 hc66) mw_757 kb_X12_sumOf (ci := 12) rfl rfl (by decide) rfl rfl hlB127.1 rfl (Nat.le_of_ble_eq_true rfl) dX12_heightOf_130 (by decide)) X hVB127 [0, 2, 3, 4, 6, 9, 12] [1, 5, 7, 8, 10, 11] rfl rfl rfl (by decide) (fun u H locs hV68 => ?_)
      have hV68 : kV E A s.heap H locs [(a0, .inr (12, [w0_0, w0_1, w0_2, .int s_seed, w0_4, w0_5, w0_6, .ref a7, .ref a9, .ref a4, .ref a5, .ref a2, .ref a3, w0_13, w0_14, w0_15, w0_16, w0_17, w0_18, w0_19, w0_20, w0_21, w0_22, w0_23, w0_24, w0_25, w0_26, w0_27, .int r21_26, .int o_atB13_10, .int p2, .int v37_33, .int o_atG13_13, .int o_atH13_14, .int o_atL13_15, .int p3, .int o_atN13_17, .int r48_38, .int o_atT13_19, .int r70_44, .int r81_50, .ref a12, .ref a6, .ref a1, .ref a8, .ref a11, w0_46, .ref a10, w0_48, w0_49, w0_50, w0_51, w0_52, w0_53, w0_54, w0_55, w0_56, w0_57, w0_58, w0_59, w0_60, w0_61, w0_62, w0_63, w0_64, w0_65, w0_66])), (a1, .inl (E.2 2, 10, .inl s_byStar)), (a2, .inl (E.2 0, 2400, .inl s_code)), (a3, .inl (E.2 0, 2400, .inl s_codeArg)), (a4, .inl (E.2 0, 240, .inl s_codeFrom)), (a5, .inl (E.2 0, 240, .inl s_codeTo)), (a6, .inl (E.2 2, 200, .inl o_isRefused130_64)), (a7, .inl (E.2 0, 20, .inl s_many)), (a8, .inl (E.2 0, 10, .inl s_minuteOf)), (a9, .inl (E.2 0, 240, .inl s_sumFrom)), (a10, .inl (E.2 0, 10, .inl s_weekdays)), (a11, .inl (E.2 0, 10, .inl s_wide)), (a12, .inl (E.2 0, 200, .inl o_worth130_65))] := hV68.sub [6, 0, 7, 8, 9, 1, 10, 2, 3, 11, 4, 5, 12] rfl rfl
      clear hVB127
      refine lv_istore (lv' := [(5, .int r130_63), (0, .ref a0), (4, .int x4_60)]) hx hb dX12_heightOf_133 hlB127 (by decide) rfl (fun ls hl70 => ?_)
      clear hlB127
      refine lv_iload hx hb dX12_heightOf_135 (lv_at hl70 0 rfl) ?_
      refine lv_if_ge (tgt := 144) hx hb dX12_heightOf_137 (by decide) (fun c71 => ?_) (fun c71 => ?_)
      · have h72 := itS c71 h67
        clear h67 c71
        refine lv_iload hx hb dX12_heightOf_144 (lv_at hl70 0 rfl) ?_
        refine lv_sipush (v := 1000) hx hb dX12_heightOf_146 (by decide) ?_
        refine lv_icmp_le (tgt := 158) hx hb dX12_heightOf_149 (by decide) (fun c74 => ?_) (fun c74 => ?_)
        · have h75 := itS c74 h72
          clear h72 c74
          refine lv_iload hx hb dX12_heightOf_158 (lv_at hl70 0 rfl) ?_
          obtain ⟨q77, q78, q79, q80, q81, q82, q83, q84, q85, q86, q87, q88, q89, q90, q91, q92⟩ := tup16_s h75
          clear h75
          exact hret _ () _ _ _ _ q77 rfl (by rw [← q78, ← q79, ← q80, ← q81, ← q82, ← q83, ← q84, ← q85, ← q86, ← q87, ← q88, ← q89, ← q90, ← q91, ← q92]; exact hV68) dX12_heightOf_160
        · have h76 := ieS c74 h72
          clear h72 c74
          refine lv_sipush (v := 1000) hx hb dX12_heightOf_152 (by decide) ?_
          refine lv_goto (tgt := 160) hx hb dX12_heightOf_155 (by decide) ?_
          obtain ⟨q93, q94, q95, q96, q97, q98, q99, q100, q101, q102, q103, q104, q105, q106, q107, q108⟩ := tup16_s h76
          clear h76
          exact hret _ () _ _ _ _ q93 rfl (by rw [← q94, ← q95, ← q96, ← q97, ← q98, ← q99, ← q100, ← q101, ← q102, ← q103, ← q104, ← q105, ← q106, ← q107, ← q108]; exact hV68) dX12_heightOf_160
      · have h73 := ieS c71 h67
        clear h67 c71
        refine lv_iconst (v := 0) hx hb dX12_heightOf_140 (by decide) ?_
        refine lv_goto (tgt := 160) hx hb dX12_heightOf_141 (by decide) ?_
        obtain ⟨q109, q110, q111, q112, q113, q114, q115, q116, q117, q118, q119, q120, q121, q122, q123, q124⟩ := tup16_s h73
        clear h73
        exact hret _ () _ _ _ _ q109 rfl (by rw [← q110, ← q111, ← q112, ← q113, ← q114, ← q115, ← q116, ← q117, ← q118, ← q119, ← q120, ← q121, ← q122, ← q123, ← q124]; exact hV68) dX12_heightOf_160
    have L95 : ∀ (n95 : Nat) (x4_125 : Int32) (isRefused__126 : Nat → Int32) (worth__127 : Nat → Int32) (H : Heap) (locs : List Loc) (ls : Array Slot), (f_X12_heightOf_L95 s_code s_codeArg s_codeFrom s_codeTo s_many p1 p2 p3 o_atB13_10 o_atG13_13 o_atH13_14 o_atL13_15 o_atN13_17 o_atT13_19 r21_26 v37_33 r48_38 r70_44 r81_50 (f_X12_heightOf_J127 s_code s_codeArg s_codeFrom s_sumFrom p2 p3 o_atB13_10 o_atG13_13 o_atH13_14 o_atL13_15 o_atN13_17 o_atT13_19 r21_26 v37_33 r48_38 r70_44 r81_50 ) n95) x4_125 isRefused__126 worth__127 = some (r, o_atA, o_atB, o_atD, o_atF, o_atG, o_atH, o_atL, o_atM, o_atN, o_atS, o_atT, o_atU, o_atX, o_isRefused, o_worth) → kV E A s.heap H locs [(a0, .inr (12, [w0_0, w0_1, w0_2, .int s_seed, w0_4, w0_5, w0_6, .ref a7, .ref a9, .ref a4, .ref a5, .ref a2, .ref a3, w0_13, w0_14, w0_15, w0_16, w0_17, w0_18, w0_19, w0_20, w0_21, w0_22, w0_23, w0_24, w0_25, w0_26, w0_27, .int r21_26, .int o_atB13_10, .int p2, .int v37_33, .int o_atG13_13, .int o_atH13_14, .int o_atL13_15, .int p3, .int o_atN13_17, .int r48_38, .int o_atT13_19, .int r70_44, .int r81_50, .ref a12, .ref a6, .ref a1, .ref a8, .ref a11, w0_46, .ref a10, w0_48, w0_49, w0_50, w0_51, w0_52, w0_53, w0_54, w0_55, w0_56, w0_57, w0_58, w0_59, w0_60, w0_61, w0_62, w0_63, w0_64, w0_65, w0_66])), (a1, .inl (E.2 2, 10, .inl s_byStar)), (a2, .inl (E.2 0, 2400, .inl s_code)), (a3, .inl (E.2 0, 2400, .inl s_codeArg)), (a4, .inl (E.2 0, 240, .inl s_codeFrom)), (a5, .inl (E.2 0, 240, .inl s_codeTo)), (a6, .inl (E.2 2, 200, .inl isRefused__126)), (a7, .inl (E.2 0, 20, .inl s_many)), (a8, .inl (E.2 0, 10, .inl s_minuteOf)), (a9, .inl (E.2 0, 240, .inl s_sumFrom)), (a10, .inl (E.2 0, 10, .inl s_weekdays)), (a11, .inl (E.2 0, 10, .inl s_wide)), (a12, .inl (E.2 0, 200, .inl worth__127))] → lv_has ls 6 [(0, .ref a0), (1, .int p1), (4, .int x4_125)] → W p l e r_X12_heightOf s m args below meth c H locs 0 0 Q (F0 m 95 ls []) := by
      intro n95
      induction n95 with
      | zero =>
        intro x4_125 isRefused__126 worth__127 H locs ls hB95 hVB95 hlB95
        rw [f_X12_heightOf_L95] at hB95
        exact nomatch hB95
      | succ n95 ih95 =>
        intro x4_125 isRefused__126 worth__127 H locs ls hB95 hVB95 hlB95
        rw [f_X12_heightOf_L95] at hB95
        refine lv_iload hx hb dX12_heightOf_95 (lv_at hlB95 2 rfl) ?_
        refine lv_bipush (v := 12) hx hb dX12_heightOf_97 (by decide) ?_
        refine lv_iconst (v := 0) hx hb dX12_heightOf_99 (by decide) ?_
        refine lv_iload_n hx hb dX12_heightOf_100 rfl (lv_at hlB95 1 rfl) ?_
        refine lv_iadd hx hb dX12_heightOf_101 ?_
        refine lv_imul hx hb dX12_heightOf_102 ?_
        refine lv_aload_n hx hb dX12_heightOf_103 rfl (lv_at hlB95 0 rfl) ?_
        refine kget X hVB95 (ci := 12) inlX12 rfl 0 rfl 7 (by decide) mw_142 rfl dX12_heightOf_104 ?_
        refine lv_iconst (v := 0) hx hb dX12_heightOf_107 (by decide) ?_
        refine lv_iload_n hx hb dX12_heightOf_108 rfl (lv_at hlB95 1 rfl) ?_
        refine lv_iadd hx hb dX12_heightOf_109 ?_
        obtain ⟨hi129, v110_128, e130, h131⟩ := rdI_s hB95
        clear hB95
        refine kiald X hVB95 7 rfl hi129 e130 dX12_heightOf_110 ?_
        clear hi129 e130
        refine lv_iadd hx hb dX12_heightOf_111 ?_
        refine lv_icmp_ge (tgt := 167) hx hb dX12_heightOf_112 (by decide) (fun c132 => ?_) (fun c132 => ?_)
        · have h133 := itS c132 h131
          clear h131 c132
          refine lv_iconst (v := 0) hx hb dX12_heightOf_167 (by decide) ?_
          obtain ⟨q135, q136, q137, q138, q139, q140, q141, q142, q143, q144, q145, q146, q147, q148, q149, q150⟩ := tup16_s h133
          clear h133
          exact hret _ () _ _ _ _ q135 rfl (by rw [← q136, ← q137, ← q138, ← q139, ← q140, ← q141, ← q142, ← q143, ← q144, ← q145, ← q146, ← q147, ← q148, ← q149, ← q150]; exact hVB95) dX12_heightOf_168
        · have h134 := ieS c132 h131
          clear h131 c132
          refine lv_aload_n hx hb dX12_heightOf_115 rfl (lv_at hlB95 0 rfl) ?_
          refine lv_iload hx hb dX12_heightOf_116 (lv_at hlB95 2 rfl) ?_
          obtain ⟨r118_151, o_isRefused118_152, o_worth118_153, hc154, h155⟩ := cb3_s h134
          clear h134
          refine kgoiE (krunV (rest := []) X hVB95 [0, 2, 3, 4, 5, 6, 12] (c_X12_holds l E _ a0 a2 a3 a4 a5 a6 a12 (w0_0) (w0_1) (w0_2) (.int s_seed) (w0_4) (w0_5) (w0_6) (.ref a7) (.ref a9) (w0_13) (w0_14) (w0_15) (w0_16) (w0_17) (w0_18) (w0_19) (w0_20) (w0_21) (w0_22) (w0_23) (w0_24) (w0_25) (w0_26) (w0_27) (.ref a1) (.ref a8) (.ref a11) (w0_46) (.ref a10) (w0_48) (w0_49) (w0_50) (w0_51) (w0_52) (w0_53) (w0_54) (w0_55) (w0_56) (w0_57) (w0_58) (w0_59) (w0_60) (w0_61) (w0_62) (w0_63) (w0_64) (w0_65) (w0_66) r21_26 o_atB13_10 p2 v37_33 o_atG13_13 o_atH13_14 o_atL13_15 p3 o_atN13_17 r48_38 o_atT13_19 r70_44 r81_50 s_code s_codeArg s_codeFrom s_codeTo isRefused__126 worth__127 x4_125 r118_151 o_isRefused118_152 o_worth118_153 hc154) mw_738 kb_X12_holds (ci := 12) rfl rfl (by decide) rfl rfl hlB95.1 rfl (Nat.le_of_ble_eq_true rfl) dX12_heightOf_118 (by decide)) X hVB95 [0, 2, 3, 4, 5, 6, 12] [1, 7, 8, 9, 10, 11] rfl rfl rfl (by decide) (fun u H locs hV156 => ?_)
          have hV156 : kV E A s.heap H locs [(a0, .inr (12, [w0_0, w0_1, w0_2, .int s_seed, w0_4, w0_5, w0_6, .ref a7, .ref a9, .ref a4, .ref a5, .ref a2, .ref a3, w0_13, w0_14, w0_15, w0_16, w0_17, w0_18, w0_19, w0_20, w0_21, w0_22, w0_23, w0_24, w0_25, w0_26, w0_27, .int r21_26, .int o_atB13_10, .int p2, .int v37_33, .int o_atG13_13, .int o_atH13_14, .int o_atL13_15, .int p3, .int o_atN13_17, .int r48_38, .int o_atT13_19, .int r70_44, .int r81_50, .ref a12, .ref a6, .ref a1, .ref a8, .ref a11, w0_46, .ref a10, w0_48, w0_49, w0_50, w0_51, w0_52, w0_53, w0_54, w0_55, w0_56, w0_57, w0_58, w0_59, w0_60, w0_61, w0_62, w0_63, w0_64, w0_65, w0_66])), (a1, .inl (E.2 2, 10, .inl s_byStar)), (a2, .inl (E.2 0, 2400, .inl s_code)), (a3, .inl (E.2 0, 2400, .inl s_codeArg)), (a4, .inl (E.2 0, 240, .inl s_codeFrom)), (a5, .inl (E.2 0, 240, .inl s_codeTo)), (a6, .inl (E.2 2, 200, .inl o_isRefused118_152)), (a7, .inl (E.2 0, 20, .inl s_many)), (a8, .inl (E.2 0, 10, .inl s_minuteOf)), (a9, .inl (E.2 0, 240, .inl s_sumFrom)), (a10, .inl (E.2 0, 10, .inl s_weekdays)), (a11, .inl (E.2 0, 10, .inl s_wide)), (a12, .inl (E.2 0, 200, .inl o_worth118_153))] := hV156.sub [6, 0, 7, 8, 9, 10, 11, 1, 2, 3, 4, 5, 12] rfl rfl
          clear hVB95
          refine lv_if_ne (tgt := 127) hx hb dX12_heightOf_121 (by decide) (fun c158 => ?_) (fun c158 => ?_)
          · have h159 := ieS c158 h155
            clear h155 c158
            exact J127 x4_125 o_isRefused118_152 o_worth118_153 _ _ _ h159 hV156 (lv_sub hlB95 [0, 2] rfl)
          · have h160 := itS c158 h155
            clear h155 c158
            refine lv_goto (tgt := 161) hx hb dX12_heightOf_124 (by decide) ?_
            obtain ⟨v161_161, e162, h163⟩ := nmI_s h160
            clear h160
            refine lv_iinc (v := v161_161) (lv' := [(4, .int v161_161), (0, .ref a0), (1, .int p1)]) hx hb dX12_heightOf_161 hlB95 (k := 2) rfl (by rw [e162]; rfl) (by decide) rfl (fun ls hl164 => ?_)
            clear hlB95 e162
            refine lv_goto (tgt := 95) hx hb dX12_heightOf_164 (by decide) ?_
            exact ih95 v161_161 o_isRefused118_152 o_worth118_153 _ _ _ h163 hV156 (lv_sub hl164 [1, 2, 0] rfl)
    exact L95 FU v93_56 s_isRefused s_worth _ _ _ h58 hV55 (lv_sub hl59 [1, 2, 0] rfl)
  · have h8 := itS c6 h3
    clear h3 c6
    refine lv_iconst (v := 0) hx hb dX12_heightOf_10 (by decide) ?_
    obtain ⟨q165, q166, q167, q168, q169, q170, q171, q172, q173, q174, q175, q176, q177, q178, q179, q180⟩ := tup16_s h8
    clear h8
    exact hret _ () _ _ _ _ q165 rfl (by rw [← q166, ← q167, ← q168, ← q169, ← q170, ← q171, ← q172, ← q173, ← q174, ← q175, ← q176, ← q177, ← q178, ← q179, ← q180]; exact hV4) dX12_heightOf_11
