noncomputable def f_X6_clauseStands_J25 (s_length : Int32) (n_this_bytes : Nat) (s_bytes : Nat → Int32) (s_middles : Nat → Int32) (s_starts : Nat → Int32) (p2 : Int32)  (at__18 : Int32) (fault__19 : Int32) (used__20 : Int32) (code__21 : Nat → Int32) : Option (Int32 × Int32 × Int32 × Int32 × (Nat → Int32) × (Nat → Int32) × (Nat → Int32)) :=
    wrI s_middles 12 p2 used__20 fun g34_22 =>
    cb3 (f_X6_signStands n_this_bytes s_length at__18 fault__19 s_bytes 40) fun r38_27 o_at38_28 o_fault38_29 =>
    if r38_27 = 0 then
    (some (0, o_at38_28, used__20, o_fault38_29, code__21, g34_22, s_starts))
    else
    (cb5 (f_X6_rowStands n_this_bytes s_length o_at38_28 used__20 o_fault38_29 s_bytes code__21 0 1) fun r47_44 o_at47_45 o_used47_46 o_fault47_47 o_code47_48 =>
      if r47_44 = 0 then
      (some (0, o_at47_45, o_used47_46, o_fault47_47, o_code47_48, g34_22, s_starts))
      else
      (cb3 (f_X6_signStands n_this_bytes s_length o_at47_45 o_fault47_47 s_bytes 41) fun r56_63 o_at56_64 o_fault56_65 =>
        if r56_63 = 0 then
        (some (0, o_at56_64, o_used47_46, o_fault56_65, o_code47_48, g34_22, s_starts))
        else
        (wrI s_starts 13 (p2 + 1) o_used47_46 fun g75_73 =>
          some (1, o_at56_64, o_used47_46, o_fault56_65, o_code47_48, g34_22, g75_73))))
noncomputable def f_X6_clauseStands (n_this_bytes : Nat) (s_length : Int32) (s_at : Int32) (s_used : Int32) (s_fault : Int32) (s_bytes : Nat → Int32) (s_code : Nat → Int32) (s_middles : Nat → Int32) (s_starts : Nat → Int32) (p1 : Int32) (p2 : Int32) : Option (Int32 × Int32 × Int32 × Int32 × (Nat → Int32) × (Nat → Int32) × (Nat → Int32)) :=
    cb3 (f_X6_signStands n_this_bytes s_length s_at s_fault s_bytes p1) fun r2_1 o_at2_2 o_fault2_3 =>
    if r2_1 = 0 then
    (some (0, o_at2_2, s_used, o_fault2_3, s_code, s_middles, s_starts))
    else
    (if p1 = 104 then
      (cb5 (f_X6_rowStands n_this_bytes s_length o_at2_2 s_used o_fault2_3 s_bytes s_code 2 0) fun r17_95 o_at17_96 o_used17_97 o_fault17_98 o_code17_99 =>
        if r17_95 = 0 then
        (some (0, o_at17_96, o_used17_97, o_fault17_98, o_code17_99, s_middles, s_starts))
        else
        ((f_X6_clauseStands_J25 s_length n_this_bytes s_bytes s_middles s_starts p2 ) o_at17_96 o_fault17_98 o_used17_97 o_code17_99))
      else
      ((f_X6_clauseStands_J25 s_length n_this_bytes s_bytes s_middles s_starts p2 ) o_at2_2 o_fault2_3 s_used s_code))
abbrev r_X6_clauseStands : Room := { frames := 111, cells := 0, slots := 0, locals := 7026 }
set_option maxHeartbeats 4000000 in
set_option maxRecDepth 100000 in
theorem c_X6_clauseStands (l : Launch) (E : kE) (sz : Nat) (a0 a1 a2 a3 a4 : Nat) (n_this_bytes : Nat) (s_length : Int32) (s_at : Int32) (s_used : Int32) (s_fault : Int32) (s_bytes : Nat → Int32) (s_code : Nat → Int32) (s_middles : Nat → Int32) (s_starts : Nat → Int32) (p1 : Int32) (p2 : Int32) (r : Int32) (o_at : Int32) (o_used : Int32) (o_fault : Int32) (o_code : Nat → Int32) (o_middles : Nat → Int32) (o_starts : Nat → Int32) (h : f_X6_clauseStands n_this_bytes s_length s_at s_used s_fault s_bytes s_code s_middles s_starts p1 p2 = some (r, o_at, o_used, o_fault, o_code, o_middles, o_starts)) : kMi l yX6_clauseStands cX6_clauseStands 3 (some .boolean) r_X6_clauseStands [.ref a0, .int p1, .int p2] E [(a0, .inr (6, [.ref a2, .ref a4, .ref a3, .ref a1, .int s_length, .int s_at, .int s_used, .int s_fault])), (a1, .inl (E.2 0, n_this_bytes, .inl s_bytes)), (a2, .inl (E.2 0, 120, .inl s_code)), (a3, .inl (E.2 0, 12, .inl s_middles)), (a4, .inl (E.2 0, 13, .inl s_starts))] sz 0 0 (fun x (_ : Unit) => x = r) (fun _ => [(a0, .inr (6, [.ref a2, .ref a4, .ref a3, .ref a1, .int s_length, .int o_at, .int o_used, .int o_fault])), (a1, .inl (E.2 0, n_this_bytes, .inl s_bytes)), (a2, .inl (E.2 0, 120, .inl o_code)), (a3, .inl (E.2 0, 12, .inl o_middles)), (a4, .inl (E.2 0, 13, .inl o_starts))]) := by
  refine kmeti rfl (Nat.le_of_ble_eq_true rfl) ?_
  intro p e s m args below meth c ls A Q X hV hret hl
  have X : kC p s m c cX6_clauseStands 3 RX6 args E A := X
  have hx := X.1
  have hb := X.2.1
  have hl : lv_has ls 3 [(0, .ref a0), (1, .int p1), (2, .int p2)] := hl
  rw [f_X6_clauseStands] at h
  refine lv_aload_n hx hb dX6_clauseStands_0 rfl (lv_at hl 0 rfl) ?_
  refine lv_iload_n hx hb dX6_clauseStands_1 rfl (lv_at hl 1 rfl) ?_
  obtain ⟨r2_1, o_at2_2, o_fault2_3, hc4, h5⟩ := cb3_s h
  clear h
  refine kgoiE (krunV (rest := []) X hV [0, 1] (c_X6_signStands l E _ a0 a1 (.ref a2) (.ref a4) (.ref a3) (.int s_used) n_this_bytes s_length s_at s_fault s_bytes p1 r2_1 o_at2_2 o_fault2_3 hc4) mw_287 kb_X6_signStands (ci := 6) rfl rfl (by decide) rfl rfl hl.1 rfl (Nat.le_of_ble_eq_true rfl) dX6_clauseStands_2 (by decide)) X hV [0, 1] [2, 3, 4] rfl rfl rfl (by decide) (fun u H locs hV6 => ?_)
  have hV6 : kV E A s.heap H locs [(a0, .inr (6, [.ref a2, .ref a4, .ref a3, .ref a1, .int s_length, .int o_at2_2, .int s_used, .int o_fault2_3])), (a1, .inl (E.2 0, n_this_bytes, .inl s_bytes)), (a2, .inl (E.2 0, 120, .inl s_code)), (a3, .inl (E.2 0, 12, .inl s_middles)), (a4, .inl (E.2 0, 13, .inl s_starts))] := hV6.sub [3, 4, 0, 1, 2] rfl rfl
  clear hV
  refine lv_if_eq (tgt := 23) hx hb dX6_clauseStands_5 (by decide) (fun c8 => ?_) (fun c8 => ?_)
  · have h9 := itS c8 h5
    clear h5 c8
    refine lv_iconst (v := 0) hx hb dX6_clauseStands_23 (by decide) ?_
    obtain ⟨q11, q12, q13, q14, q15, q16, q17⟩ := tup7_s h9
    clear h9
    exact hret _ () _ _ _ _ q11 rfl (by rw [← q12, ← q13, ← q14, ← q15, ← q16, ← q17]; exact hV6) dX6_clauseStands_24
  · have h10 := ieS c8 h5
    clear h5 c8
    refine lv_iload_n hx hb dX6_clauseStands_8 rfl (lv_at hl 1 rfl) ?_
    refine lv_bipush (v := 104) hx hb dX6_clauseStands_9 (by decide) ?_
    have J25 : ∀ (at__18 : Int32) (fault__19 : Int32) (used__20 : Int32) (code__21 : Nat → Int32) (H : Heap) (locs : List Loc) (ls : Array Slot), (f_X6_clauseStands_J25 s_length n_this_bytes s_bytes s_middles s_starts p2 ) at__18 fault__19 used__20 code__21 = some (r, o_at, o_used, o_fault, o_code, o_middles, o_starts) → kV E A s.heap H locs [(a0, .inr (6, [.ref a2, .ref a4, .ref a3, .ref a1, .int s_length, .int at__18, .int used__20, .int fault__19])), (a1, .inl (E.2 0, n_this_bytes, .inl s_bytes)), (a2, .inl (E.2 0, 120, .inl code__21)), (a3, .inl (E.2 0, 12, .inl s_middles)), (a4, .inl (E.2 0, 13, .inl s_starts))] → lv_has ls 3 [(0, .ref a0), (2, .int p2)] → W p l e r_X6_clauseStands s m args below meth c H locs 0 0 Q (F0 m 25 ls []) := by
      intro at__18 fault__19 used__20 code__21 H locs ls hB25 hVB25 hlB25
      rw [f_X6_clauseStands_J25] at hB25
      refine lv_aload_n hx hb dX6_clauseStands_25 rfl (lv_at hlB25 0 rfl) ?_
      refine kget X hVB25 (ci := 6) inlX6 rfl 0 rfl 2 (by decide) mw_59 rfl dX6_clauseStands_26 ?_
      refine lv_iload_n hx hb dX6_clauseStands_29 rfl (lv_at hlB25 1 rfl) ?_
      refine lv_aload_n hx hb dX6_clauseStands_30 rfl (lv_at hlB25 0 rfl) ?_
      refine kget X hVB25 (ci := 6) inlX6 rfl 0 rfl 6 (by decide) mw_63 rfl dX6_clauseStands_31 ?_
      obtain ⟨hi23, g34_22, e24, h25⟩ := wrI_s hB25
      clear hB25
      refine kiast X hVB25 3 rfl hi23 e24 dX6_clauseStands_34 (fun H locs hV26 => ?_)
      have hV26 : kV E A s.heap H locs [(a0, .inr (6, [.ref a2, .ref a4, .ref a3, .ref a1, .int s_length, .int at__18, .int used__20, .int fault__19])), (a1, .inl (E.2 0, n_this_bytes, .inl s_bytes)), (a2, .inl (E.2 0, 120, .inl code__21)), (a3, .inl (E.2 0, 12, .inl g34_22)), (a4, .inl (E.2 0, 13, .inl s_starts))] := hV26
      clear hVB25 hi23 e24
      refine lv_aload_n hx hb dX6_clauseStands_35 rfl (lv_at hlB25 0 rfl) ?_
      refine lv_bipush (v := 40) hx hb dX6_clauseStands_36 (by decide) ?_
      obtain ⟨r38_27, o_at38_28, o_fault38_29, hc30, h31⟩ := cb3_s h25
      clear h25
      refine kgoiE (krunV (rest := []) X hV26 [0, 1] (c_X6_signStands l E _ a0 a1 (.ref a2) (.ref a4) (.ref a3) (.int used__20) n_this_bytes s_length at__18 fault__19 s_bytes 40 r38_27 o_at38_28 o_fault38_29 hc30) mw_287 kb_X6_signStands (ci := 6) rfl rfl (by decide) rfl rfl hlB25.1 rfl (Nat.le_of_ble_eq_true rfl) dX6_clauseStands_38 (by decide)) X hV26 [0, 1] [2, 3, 4] rfl rfl rfl (by decide) (fun u H locs hV32 => ?_)
      have hV32 : kV E A s.heap H locs [(a0, .inr (6, [.ref a2, .ref a4, .ref a3, .ref a1, .int s_length, .int o_at38_28, .int used__20, .int o_fault38_29])), (a1, .inl (E.2 0, n_this_bytes, .inl s_bytes)), (a2, .inl (E.2 0, 120, .inl code__21)), (a3, .inl (E.2 0, 12, .inl g34_22)), (a4, .inl (E.2 0, 13, .inl s_starts))] := hV32.sub [3, 4, 0, 1, 2] rfl rfl
      clear hV26
      refine lv_if_eq (tgt := 62) hx hb dX6_clauseStands_41 (by decide) (fun c34 => ?_) (fun c34 => ?_)
      · have h35 := itS c34 h31
        clear h31 c34
        refine lv_iconst (v := 0) hx hb dX6_clauseStands_62 (by decide) ?_
        obtain ⟨q37, q38, q39, q40, q41, q42, q43⟩ := tup7_s h35
        clear h35
        exact hret _ () _ _ _ _ q37 rfl (by rw [← q38, ← q39, ← q40, ← q41, ← q42, ← q43]; exact hV32) dX6_clauseStands_63
      · have h36 := ieS c34 h31
        clear h31 c34
        refine lv_aload_n hx hb dX6_clauseStands_44 rfl (lv_at hlB25 0 rfl) ?_
        refine lv_iconst (v := 0) hx hb dX6_clauseStands_45 (by decide) ?_
        refine lv_iconst (v := 1) hx hb dX6_clauseStands_46 (by decide) ?_
        obtain ⟨r47_44, o_at47_45, o_used47_46, o_fault47_47, o_code47_48, hc49, h50⟩ := cb5_s h36
        clear h36
        refine kgoiE (krunV (rest := []) X hV32 [0, 1, 2] (c_X6_rowStands l E _ a0 a1 a2 (.ref a4) (.ref a3) n_this_bytes s_length o_at38_28 used__20 o_fault38_29 s_bytes code__21 0 1 r47_44 o_at47_45 o_used47_46 o_fault47_47 o_code47_48 hc49) mw_299 kb_X6_rowStands (ci := 6) rfl rfl (by decide) rfl rfl hlB25.1 rfl (Nat.le_of_ble_eq_true rfl) dX6_clauseStands_47 (by decide)) X hV32 [0, 1, 2] [3, 4] rfl rfl rfl (by decide) (fun u H locs hV51 => ?_)
        have hV51 : kV E A s.heap H locs [(a0, .inr (6, [.ref a2, .ref a4, .ref a3, .ref a1, .int s_length, .int o_at47_45, .int o_used47_46, .int o_fault47_47])), (a1, .inl (E.2 0, n_this_bytes, .inl s_bytes)), (a2, .inl (E.2 0, 120, .inl o_code47_48)), (a3, .inl (E.2 0, 12, .inl g34_22)), (a4, .inl (E.2 0, 13, .inl s_starts))] := hV51.sub [2, 3, 4, 0, 1] rfl rfl
        clear hV32
        refine lv_if_eq (tgt := 62) hx hb dX6_clauseStands_50 (by decide) (fun c53 => ?_) (fun c53 => ?_)
        · have h54 := itS c53 h50
          clear h50 c53
          refine lv_iconst (v := 0) hx hb dX6_clauseStands_62 (by decide) ?_
          obtain ⟨q56, q57, q58, q59, q60, q61, q62⟩ := tup7_s h54
          clear h54
          exact hret _ () _ _ _ _ q56 rfl (by rw [← q57, ← q58, ← q59, ← q60, ← q61, ← q62]; exact hV51) dX6_clauseStands_63
        · have h55 := ieS c53 h50
          clear h50 c53
          refine lv_aload_n hx hb dX6_clauseStands_53 rfl (lv_at hlB25 0 rfl) ?_
          refine lv_bipush (v := 41) hx hb dX6_clauseStands_54 (by decide) ?_
          obtain ⟨r56_63, o_at56_64, o_fault56_65, hc66, h67⟩ := cb3_s h55
          clear h55
          refine kgoiE (krunV (rest := []) X hV51 [0, 1] (c_X6_signStands l E _ a0 a1 (.ref a2) (.ref a4) (.ref a3) (.int o_used47_46) n_this_bytes s_length o_at47_45 o_fault47_47 s_bytes 41 r56_63 o_at56_64 o_fault56_65 hc66) mw_287 kb_X6_signStands (ci := 6) rfl rfl (by decide) rfl rfl hlB25.1 rfl (Nat.le_of_ble_eq_true rfl) dX6_clauseStands_56 (by decide)) X hV51 [0, 1] [2, 3, 4] rfl rfl rfl (by decide) (fun u H locs hV68 => ?_)
          have hV68 : kV E A s.heap H locs [(a0, .inr (6, [.ref a2, .ref a4, .ref a3, .ref a1, .int s_length, .int o_at56_64, .int o_used47_46, .int o_fault56_65])), (a1, .inl (E.2 0, n_this_bytes, .inl s_bytes)), (a2, .inl (E.2 0, 120, .inl o_code47_48)), (a3, .inl (E.2 0, 12, .inl g34_22)), (a4, .inl (E.2 0, 13, .inl s_starts))] := hV68.sub [3, 4, 0, 1, 2] rfl rfl
          clear hV51
          refine lv_if_ne (tgt := 64) hx hb dX6_clauseStands_59 (by decide) (fun c70 => ?_) (fun c70 => ?_)
          · have h71 := ieS c70 h67
            clear h67 c70
            refine lv_aload_n hx hb dX6_clauseStands_64 rfl (lv_at hlB25 0 rfl) ?_
            refine kget X hV68 (ci := 6) inlX6 rfl 0 rfl 1 (by decide) mw_58 rfl dX6_clauseStands_65 ?_
            refine lv_iload_n hx hb dX6_clauseStands_68 rfl (lv_at hlB25 1 rfl) ?_
            refine lv_iconst (v := 1) hx hb dX6_clauseStands_69 (by decide) ?_
            refine lv_iadd hx hb dX6_clauseStands_70 ?_
            refine lv_aload_n hx hb dX6_clauseStands_71 rfl (lv_at hlB25 0 rfl) ?_
            refine kget X hV68 (ci := 6) inlX6 rfl 0 rfl 6 (by decide) mw_63 rfl dX6_clauseStands_72 ?_
            obtain ⟨hi74, g75_73, e75, h76⟩ := wrI_s h71
            clear h71
            refine kiast X hV68 4 rfl hi74 e75 dX6_clauseStands_75 (fun H locs hV77 => ?_)
            have hV77 : kV E A s.heap H locs [(a0, .inr (6, [.ref a2, .ref a4, .ref a3, .ref a1, .int s_length, .int o_at56_64, .int o_used47_46, .int o_fault56_65])), (a1, .inl (E.2 0, n_this_bytes, .inl s_bytes)), (a2, .inl (E.2 0, 120, .inl o_code47_48)), (a3, .inl (E.2 0, 12, .inl g34_22)), (a4, .inl (E.2 0, 13, .inl g75_73))] := hV77
            clear hV68 hi74 e75
            refine lv_iconst (v := 1) hx hb dX6_clauseStands_76 (by decide) ?_
            obtain ⟨q78, q79, q80, q81, q82, q83, q84⟩ := tup7_s h76
            clear h76
            exact hret _ () _ _ _ _ q78 rfl (by rw [← q79, ← q80, ← q81, ← q82, ← q83, ← q84]; exact hV77) dX6_clauseStands_77
          · have h72 := itS c70 h67
            clear h67 c70
            refine lv_iconst (v := 0) hx hb dX6_clauseStands_62 (by decide) ?_
            obtain ⟨q85, q86, q87, q88, q89, q90, q91⟩ := tup7_s h72
            clear h72
            exact hret _ () _ _ _ _ q85 rfl (by rw [← q86, ← q87, ← q88, ← q89, ← q90, ← q91]; exact hV68) dX6_clauseStands_63
    refine lv_icmp_ne (tgt := 25) hx hb dX6_clauseStands_11 (by decide) (fun c92 => ?_) (fun c92 => ?_)
    · have h93 := ieS c92 h10
      clear h10 c92
      exact J25 o_at2_2 o_fault2_3 s_used s_code _ _ _ h93 hV6 (lv_sub hl [0, 2] rfl)
    · have h94 := itS c92 h10
      clear h10 c92
      refine lv_aload_n hx hb dX6_clauseStands_14 rfl (lv_at hl 0 rfl) ?_
      refine lv_iconst (v := 2) hx hb dX6_clauseStands_15 (by decide) ?_
      refine lv_iconst (v := 0) hx hb dX6_clauseStands_16 (by decide) ?_
      obtain ⟨r17_95, o_at17_96, o_used17_97, o_fault17_98, o_code17_99, hc100, h101⟩ := cb5_s h94
      clear h94
      refine kgoiE (krunV (rest := []) X hV6 [0, 1, 2] (c_X6_rowStands l E _ a0 a1 a2 (.ref a4) (.ref a3) n_this_bytes s_length o_at2_2 s_used o_fault2_3 s_bytes s_code 2 0 r17_95 o_at17_96 o_used17_97 o_fault17_98 o_code17_99 hc100) mw_299 kb_X6_rowStands (ci := 6) rfl rfl (by decide) rfl rfl hl.1 rfl (Nat.le_of_ble_eq_true rfl) dX6_clauseStands_17 (by decide)) X hV6 [0, 1, 2] [3, 4] rfl rfl rfl (by decide) (fun u H locs hV102 => ?_)
      have hV102 : kV E A s.heap H locs [(a0, .inr (6, [.ref a2, .ref a4, .ref a3, .ref a1, .int s_length, .int o_at17_96, .int o_used17_97, .int o_fault17_98])), (a1, .inl (E.2 0, n_this_bytes, .inl s_bytes)), (a2, .inl (E.2 0, 120, .inl o_code17_99)), (a3, .inl (E.2 0, 12, .inl s_middles)), (a4, .inl (E.2 0, 13, .inl s_starts))] := hV102.sub [2, 3, 4, 0, 1] rfl rfl
      clear hV6
      refine lv_if_ne (tgt := 25) hx hb dX6_clauseStands_20 (by decide) (fun c104 => ?_) (fun c104 => ?_)
      · have h105 := ieS c104 h101
        clear h101 c104
        exact J25 o_at17_96 o_fault17_98 o_used17_97 o_code17_99 _ _ _ h105 hV102 (lv_sub hl [0, 2] rfl)
      · have h106 := itS c104 h101
        clear h101 c104
        refine lv_iconst (v := 0) hx hb dX6_clauseStands_23 (by decide) ?_
        obtain ⟨q107, q108, q109, q110, q111, q112, q113⟩ := tup7_s h106
        clear h106
        exact hret _ () _ _ _ _ q107 rfl (by rw [← q108, ← q109, ← q110, ← q111, ← q112, ← q113]; exact hV102) dX6_clauseStands_24
noncomputable def f_X5_isDivision (p1 : Int32) : Option (Int32) :=
    if p1 = 47 then
    (some (1))
    else
    (if p1 = 37 then
      (some (1))
      else
      (some (0)))
abbrev r_X5_isDivision : Room := { frames := 0, cells := 0, slots := 0, locals := 0 }
set_option maxHeartbeats 4000000 in
set_option maxRecDepth 100000 in
theorem c_X5_isDivision (l : Launch) (E : kE) (sz : Nat) (p1 : Int32) (r : Int32) (h : f_X5_isDivision p1 = some (r)) : kMi l yX5_isDivision cX5_isDivision 1 (some .boolean) r_X5_isDivision [.int p1] E [] sz 0 0 (fun x (_ : Unit) => x = r) (fun _ => []) := by
  refine kmeti rfl (Nat.le_of_ble_eq_true rfl) ?_
  intro p e s m args below meth c ls A Q X hV hret hl
  have X : kC p s m c cX5_isDivision 1 RX5 args E A := X
  have hx := X.1
  have hb := X.2.1
  have hl : lv_has ls 1 [(0, .int p1)] := hl
  rw [f_X5_isDivision] at h
  refine lv_iload_n hx hb dX5_isDivision_0 rfl (lv_at hl 0 rfl) ?_
  refine lv_bipush (v := 47) hx hb dX5_isDivision_1 (by decide) ?_
  refine lv_icmp_eq (tgt := 12) hx hb dX5_isDivision_3 (by decide) (fun c1 => ?_) (fun c1 => ?_)
  · have h2 := itS c1 h
    clear h c1
    refine lv_iconst (v := 1) hx hb dX5_isDivision_12 (by decide) ?_
    refine lv_goto (tgt := 17) hx hb dX5_isDivision_13 (by decide) ?_
    have q4 := tup1_s h2
    clear h2
    exact hret _ () _ _ _ _ q4 rfl hV dX5_isDivision_17
  · have h3 := ieS c1 h
    clear h c1
    refine lv_iload_n hx hb dX5_isDivision_6 rfl (lv_at hl 0 rfl) ?_
    refine lv_bipush (v := 37) hx hb dX5_isDivision_7 (by decide) ?_
    refine lv_icmp_ne (tgt := 16) hx hb dX5_isDivision_9 (by decide) (fun c5 => ?_) (fun c5 => ?_)
    · have h6 := ieS c5 h3
      clear h3 c5
      refine lv_iconst (v := 0) hx hb dX5_isDivision_16 (by decide) ?_
      have q8 := tup1_s h6
      clear h6
      exact hret _ () _ _ _ _ q8 rfl hV dX5_isDivision_17
    · have h7 := itS c5 h3
      clear h3 c5
      refine lv_iconst (v := 1) hx hb dX5_isDivision_12 (by decide) ?_
      refine lv_goto (tgt := 17) hx hb dX5_isDivision_13 (by decide) ?_
      have q9 := tup1_s h7
      clear h7
      exact hret _ () _ _ _ _ q9 rfl hV dX5_isDivision_17
noncomputable def f_X5_joined (p1 : Int32) (p2 : Int32) (p3 : Int32) : Option (Int32) :=
    if p1 = 37 then (if p3 = 0 then
      (some (0))
      else
      (dvI p3 <|
        some ((jrem p2 p3))))
    else if p1 = 42 then (some ((p2 * p3)))
    else if p1 = 43 then (some ((p2 + p3)))
    else if p1 = 45 then (some ((p2 - p3)))
    else if p1 = 47 then (if p3 = 0 then
      (some (0))
      else
      (dvI p3 <|
        some ((p2 / p3))))
    else if p1 = 60 then (if p3 ≤ p2 then
      (some (0))
      else
      (some (1)))
    else if p1 = 62 then (if p2 ≤ p3 then
      (some (0))
      else
      (some (1)))
    else (if p2 = p3 then
      (some (1))
      else
      (some (0)))
abbrev r_X5_joined : Room := { frames := 0, cells := 0, slots := 0, locals := 0 }
set_option maxHeartbeats 4000000 in
set_option maxRecDepth 100000 in
theorem c_X5_joined (l : Launch) (E : kE) (sz : Nat) (p1 : Int32) (p2 : Int32) (p3 : Int32) (r : Int32) (h : f_X5_joined p1 p2 p3 = some (r)) : kMi l yX5_joined cX5_joined 3 (some .int) r_X5_joined [.int p1, .int p2, .int p3] E [] sz 0 0 (fun x (_ : Unit) => x = r) (fun _ => []) := by
  refine kmeti rfl (Nat.le_of_ble_eq_true rfl) ?_
  intro p e s m args below meth c ls A Q X hV hret hl
  have X : kC p s m c cX5_joined 3 RX5 args E A := X
  have hx := X.1
  have hb := X.2.1
  have hl : lv_has ls 3 [(0, .int p1), (1, .int p2), (2, .int p3)] := hl
  rw [f_X5_joined] at h
  refine lv_iload_n hx hb dX5_joined_0 rfl (lv_at hl 0 rfl) ?_
  by_cases c1 : p1 = 37
  · have h2 := itS c1 h
    refine lv_lookup (tgt := 92) (off := 91) hx hb dX5_joined_1 (by decide) (by rw [c1]; decide) (by decide) ?_
    clear h
    refine lv_iload_n hx hb dX5_joined_92 rfl (lv_at hl 2 rfl) ?_
    refine lv_if_ne (tgt := 100) hx hb dX5_joined_93 (by decide) (fun c3 => ?_) (fun c3 => ?_)
    · have h4 := ieS c3 h2
      clear h2 c3
      refine lv_iload_n hx hb dX5_joined_100 rfl (lv_at hl 1 rfl) ?_
      refine lv_iload_n hx hb dX5_joined_101 rfl (lv_at hl 2 rfl) ?_
      obtain ⟨hn6, h7⟩ := dvI_s h4
      clear h4
      refine lv_irem hx hb dX5_joined_102 hn6 ?_
      have q8 := tup1_s h7
      clear h7
      exact hret _ () _ _ _ _ q8 rfl hV dX5_joined_103
    · have h5 := itS c3 h2
      clear h2 c3
      refine lv_iconst (v := 0) hx hb dX5_joined_96 (by decide) ?_
      refine lv_goto (tgt := 103) hx hb dX5_joined_97 (by decide) ?_
      have q9 := tup1_s h5
      clear h5
      exact hret _ () _ _ _ _ q9 rfl hV dX5_joined_103
  · have h10 := ieS c1 h
    clear h
    by_cases c11 : p1 = 42
    · have h12 := itS c11 h10
      refine lv_lookup (tgt := 76) (off := 75) hx hb dX5_joined_1 (by decide) (by rw [c11]; decide) (by decide) ?_
      clear h10
      refine lv_iload_n hx hb dX5_joined_76 rfl (lv_at hl 1 rfl) ?_
      refine lv_iload_n hx hb dX5_joined_77 rfl (lv_at hl 2 rfl) ?_
      refine lv_imul hx hb dX5_joined_78 ?_
      have q13 := tup1_s h12
      clear h12
      exact hret _ () _ _ _ _ q13 rfl hV dX5_joined_79
    · have h14 := ieS c11 h10
      clear h10
      by_cases c15 : p1 = 43
      · have h16 := itS c15 h14
        refine lv_lookup (tgt := 68) (off := 67) hx hb dX5_joined_1 (by decide) (by rw [c15]; decide) (by decide) ?_
        clear h14
        refine lv_iload_n hx hb dX5_joined_68 rfl (lv_at hl 1 rfl) ?_
        refine lv_iload_n hx hb dX5_joined_69 rfl (lv_at hl 2 rfl) ?_
        refine lv_iadd hx hb dX5_joined_70 ?_
        have q17 := tup1_s h16
        clear h16
        exact hret _ () _ _ _ _ q17 rfl hV dX5_joined_71
      · have h18 := ieS c15 h14
        clear h14
        by_cases c19 : p1 = 45
        · have h20 := itS c19 h18
          refine lv_lookup (tgt := 72) (off := 71) hx hb dX5_joined_1 (by decide) (by rw [c19]; decide) (by decide) ?_
          clear h18
          refine lv_iload_n hx hb dX5_joined_72 rfl (lv_at hl 1 rfl) ?_
          refine lv_iload_n hx hb dX5_joined_73 rfl (lv_at hl 2 rfl) ?_
          refine lv_isub hx hb dX5_joined_74 ?_
          have q21 := tup1_s h20
          clear h20
          exact hret _ () _ _ _ _ q21 rfl hV dX5_joined_75
        · have h22 := ieS c19 h18
          clear h18
          by_cases c23 : p1 = 47
          · have h24 := itS c23 h22
            refine lv_lookup (tgt := 80) (off := 79) hx hb dX5_joined_1 (by decide) (by rw [c23]; decide) (by decide) ?_
            clear h22
            refine lv_iload_n hx hb dX5_joined_80 rfl (lv_at hl 2 rfl) ?_
            refine lv_if_ne (tgt := 88) hx hb dX5_joined_81 (by decide) (fun c25 => ?_) (fun c25 => ?_)
            · have h26 := ieS c25 h24
              clear h24 c25
              refine lv_iload_n hx hb dX5_joined_88 rfl (lv_at hl 1 rfl) ?_
              refine lv_iload_n hx hb dX5_joined_89 rfl (lv_at hl 2 rfl) ?_
              obtain ⟨hn28, h29⟩ := dvI_s h26
              clear h26
              refine lv_idiv hx hb dX5_joined_90 hn28 ?_
              have q30 := tup1_s h29
              clear h29
              exact hret _ () _ _ _ _ q30 rfl hV dX5_joined_91
            · have h27 := itS c25 h24
              clear h24 c25
              refine lv_iconst (v := 0) hx hb dX5_joined_84 (by decide) ?_
              refine lv_goto (tgt := 91) hx hb dX5_joined_85 (by decide) ?_
              have q31 := tup1_s h27
              clear h27
              exact hret _ () _ _ _ _ q31 rfl hV dX5_joined_91
          · have h32 := ieS c23 h22
            clear h22
            by_cases c33 : p1 = 60
            · have h34 := itS c33 h32
              refine lv_lookup (tgt := 104) (off := 103) hx hb dX5_joined_1 (by decide) (by rw [c33]; decide) (by decide) ?_
              clear h32
              refine lv_iload_n hx hb dX5_joined_104 rfl (lv_at hl 1 rfl) ?_
              refine lv_iload_n hx hb dX5_joined_105 rfl (lv_at hl 2 rfl) ?_
              refine lv_icmp_ge (tgt := 113) hx hb dX5_joined_106 (by decide) (fun c35 => ?_) (fun c35 => ?_)
              · have h36 := itS c35 h34
                clear h34 c35
                refine lv_iconst (v := 0) hx hb dX5_joined_113 (by decide) ?_
                have q38 := tup1_s h36
                clear h36
                exact hret _ () _ _ _ _ q38 rfl hV dX5_joined_114
              · have h37 := ieS c35 h34
                clear h34 c35
                refine lv_iconst (v := 1) hx hb dX5_joined_109 (by decide) ?_
                refine lv_goto (tgt := 114) hx hb dX5_joined_110 (by decide) ?_
                have q39 := tup1_s h37
                clear h37
                exact hret _ () _ _ _ _ q39 rfl hV dX5_joined_114
            · have h40 := ieS c33 h32
              clear h32
              by_cases c41 : p1 = 62
              · have h42 := itS c41 h40
                refine lv_lookup (tgt := 115) (off := 114) hx hb dX5_joined_1 (by decide) (by rw [c41]; decide) (by decide) ?_
                clear h40
                refine lv_iload_n hx hb dX5_joined_115 rfl (lv_at hl 1 rfl) ?_
                refine lv_iload_n hx hb dX5_joined_116 rfl (lv_at hl 2 rfl) ?_
                refine lv_icmp_le (tgt := 124) hx hb dX5_joined_117 (by decide) (fun c43 => ?_) (fun c43 => ?_)
                · have h44 := itS c43 h42
                  clear h42 c43
                  refine lv_iconst (v := 0) hx hb dX5_joined_124 (by decide) ?_
                  have q46 := tup1_s h44
                  clear h44
                  exact hret _ () _ _ _ _ q46 rfl hV dX5_joined_125
                · have h45 := ieS c43 h42
                  clear h42 c43
                  refine lv_iconst (v := 1) hx hb dX5_joined_120 (by decide) ?_
                  refine lv_goto (tgt := 125) hx hb dX5_joined_121 (by decide) ?_
                  have q47 := tup1_s h45
                  clear h45
                  exact hret _ () _ _ _ _ q47 rfl hV dX5_joined_125
              · have h48 := ieS c41 h40
                clear h40
                refine lv_lookup (tgt := 126) (off := 125) hx hb dX5_joined_1 (by decide) (by refine (lv_osw c1 (by decide)).trans ?_; refine (lv_osw c11 (by decide)).trans ?_; refine (lv_osw c15 (by decide)).trans ?_; refine (lv_osw c19 (by decide)).trans ?_; refine (lv_osw c23 (by decide)).trans ?_; refine (lv_osw c33 (by decide)).trans ?_; refine (lv_osw c41 (by decide)).trans ?_; rfl) (by decide) ?_
                refine lv_iload_n hx hb dX5_joined_126 rfl (lv_at hl 1 rfl) ?_
                refine lv_iload_n hx hb dX5_joined_127 rfl (lv_at hl 2 rfl) ?_
                refine lv_icmp_ne (tgt := 135) hx hb dX5_joined_128 (by decide) (fun c49 => ?_) (fun c49 => ?_)
                · have h50 := ieS c49 h48
                  clear h48 c49
                  refine lv_iconst (v := 0) hx hb dX5_joined_135 (by decide) ?_
                  have q52 := tup1_s h50
                  clear h50
                  exact hret _ () _ _ _ _ q52 rfl hV dX5_joined_136
                · have h51 := itS c49 h48
                  clear h48 c49
                  refine lv_iconst (v := 1) hx hb dX5_joined_131 (by decide) ?_
                  refine lv_goto (tgt := 136) hx hb dX5_joined_132 (by decide) ?_
                  have q53 := tup1_s h51
                  clear h51
                  exact hret _ () _ _ _ _ q53 rfl hV dX5_joined_136
noncomputable def f_X5_reckon_J273   (x4_4 : Int32) (values__5 : Nat → Int32) : Option (Int32 × (Nat → Int32)) :=
    if x4_4 = 1 then
    (rdI values__5 32 0 fun v284_11 =>
      some (v284_11, values__5))
    else
    (some (0, values__5))
noncomputable def f_X5_reckon_J102 (x4_46 : Int32) (x5_47 : Int32) (x6_48 : Int32) (values__49 : Nat → Int32) (K9 : Int32 → Int32 → Int32 → (Nat → Int32) → Option (Int32 × (Nat → Int32))) (t2_53 : Int32) : Option (Int32 × (Nat → Int32)) :=
    wrI values__49 32 x4_46 t2_53 fun g102_54 =>
    nmI (x4_46 + 1) fun v103_59 =>
    nmI (x6_48 + 1) fun v267_63 =>
    K9 v103_59 x5_47 v267_63 g102_54
noncomputable def f_X5_reckon_J65 (s_letters : Nat → Int32) (v40_34 : Int32) (v49_42 : Int32) (K9 : Int32 → Int32 → Int32 → (Nat → Int32) → Option (Int32 × (Nat → Int32))) (x4_46 : Int32) (x5_47 : Int32) (x6_48 : Int32) (values__49 : Nat → Int32) : Option (Int32 × (Nat → Int32)) :=
    if x4_46 < 32 then
    (if v40_34 = 48 then
      ((f_X5_reckon_J102 x4_46 x5_47 x6_48 values__49 K9) v49_42)
      else
      (rdI s_letters 128 (v49_42 &&& 127) fun v101_70 =>
        (f_X5_reckon_J102 x4_46 x5_47 x6_48 values__49 K9) v101_70))
    else
    (some (0, values__49))
noncomputable def f_X5_reckon_J190 (x5_18 : Int32) (v49_42 : Int32) (x4_88 : Int32) (x6_89 : Int32) (values__90 : Nat → Int32) (t0_95 : Int32) (K9 : Int32 → Int32 → Int32 → (Nat → Int32) → Option (Int32 × (Nat → Int32))) (t1_96 : Int32) : Option (Int32 × (Nat → Int32)) :=
    if t0_95 = t1_96 then
    (nmI (x6_89 + 1) fun v267_109 =>
      K9 x4_88 v49_42 v267_109 values__90)
    else
    (nmI (x4_88 + (-1)) fun v200_100 =>
      nmI (x6_89 + 1) fun v267_104 =>
      K9 v200_100 x5_18 v267_104 values__90)
noncomputable def f_X5_reckon_J178 (x5_18 : Int32) (v40_34 : Int32) (v49_42 : Int32) (x4_88 : Int32) (x6_89 : Int32) (values__90 : Nat → Int32) (K9 : Int32 → Int32 → Int32 → (Nat → Int32) → Option (Int32 × (Nat → Int32))) (t0_95 : Int32) : Option (Int32 × (Nat → Int32)) :=
    if v40_34 = 124 then
    ((f_X5_reckon_J190 x5_18 v49_42 x4_88 x6_89 values__90 t0_95 K9) 1)
    else
    ((f_X5_reckon_J190 x5_18 v49_42 x4_88 x6_89 values__90 t0_95 K9) 0)
noncomputable def f_X5_reckon_J161 (x5_18 : Int32) (v40_34 : Int32) (v49_42 : Int32) (K9 : Int32 → Int32 → Int32 → (Nat → Int32) → Option (Int32 × (Nat → Int32))) (x4_88 : Int32) (x6_89 : Int32) (values__90 : Nat → Int32) : Option (Int32 × (Nat → Int32)) :=
    rdI values__90 32 (x4_88 - 1) fun v169_91 =>
    if v169_91 = 0 then
    ((f_X5_reckon_J178 x5_18 v40_34 v49_42 x4_88 x6_89 values__90 K9) 0)
    else
    ((f_X5_reckon_J178 x5_18 v40_34 v49_42 x4_88 x6_89 values__90 K9) 1)
noncomputable def f_X5_reckon_J234 (x4_17 : Int32) (x5_18 : Int32) (x6_19 : Int32) (values__20 : Nat → Int32) (v40_34 : Int32) (K9 : Int32 → Int32 → Int32 → (Nat → Int32) → Option (Int32 × (Nat → Int32)))  : Option (Int32 × (Nat → Int32)) :=
    nmI (x4_17 + (-1)) fun v234_135 =>
    rdI values__20 32 (v234_135 - 1) fun v255_139 =>
    rdI values__20 32 v234_135 fun v262_143 =>
    cb1 (f_X5_joined v40_34 v255_139 v262_143) fun r263_147 =>
    wrI values__20 32 (v234_135 - 1) r263_147 fun g266_152 =>
    nmI (x6_19 + 1) fun v267_157 =>
    K9 v234_135 x5_18 v267_157 g266_152
noncomputable def f_X5_reckon_L9 (n_p1 : Nat) (s_p1 : Nat → Int32) (s_letters : Nat → Int32) (p3 : Int32) (K273 : Int32 → (Nat → Int32) → Option (Int32 × (Nat → Int32))) : Nat → Int32 → Int32 → Int32 → (Nat → Int32) → Option (Int32 × (Nat → Int32))
  | 0, _, _, _, _ => none
  | n9 + 1, x4_17, x5_18, x6_19, values__20 =>
    if p3 ≤ x6_19 then
    (K273 x4_17 values__20)
    else
    (if (Int32.ofNat n_p1) ≤ x6_19 then
      (K273 x4_17 values__20)
      else
      (if x5_18 ≤ x6_19 then
        (rdI s_p1 n_p1 x6_19 fun v35_30 =>
          nmI (v35_30 &&& 255) fun v40_34 =>
          rdI s_p1 n_p1 x6_19 fun v45_38 =>
          nmI (jushr v45_38 8) fun v49_42 =>
          if v40_34 = 48 then
          ((f_X5_reckon_J65 s_letters v40_34 v49_42 (f_X5_reckon_L9 n_p1 s_p1 s_letters p3 K273 n9)) x4_17 x5_18 x6_19 values__20)
          else
          (if v40_34 = 97 then
            ((f_X5_reckon_J65 s_letters v40_34 v49_42 (f_X5_reckon_L9 n_p1 s_p1 s_letters p3 K273 n9)) x4_17 x5_18 x6_19 values__20)
            else
            (if 1 ≤ x4_17 then
              (if v40_34 = 33 then
                (rdI values__20 32 (x4_17 - 1) fun v141_173 =>
                  nmI (1 - v141_173) fun v143_177 =>
                  wrI values__20 32 (x4_17 - 1) v143_177 fun g143_180 =>
                  nmI (x6_19 + 1) fun v267_185 =>
                  (f_X5_reckon_L9 n_p1 s_p1 s_letters p3 K273 n9) x4_17 x5_18 v267_185 g143_180)
                else
                (if v40_34 = 38 then
                  ((f_X5_reckon_J161 x5_18 v40_34 v49_42 (f_X5_reckon_L9 n_p1 s_p1 s_letters p3 K273 n9)) x4_17 x6_19 values__20)
                  else
                  (if v40_34 = 124 then
                    ((f_X5_reckon_J161 x5_18 v40_34 v49_42 (f_X5_reckon_L9 n_p1 s_p1 s_letters p3 K273 n9)) x4_17 x6_19 values__20)
                    else
                    (if x4_17 < 2 then
                      (some (0, values__20))
                      else
                      (cb1 (f_X5_isDivision v40_34) fun r214_130 =>
                        if r214_130 = 0 then
                        ((f_X5_reckon_J234 x4_17 x5_18 x6_19 values__20 v40_34 (f_X5_reckon_L9 n_p1 s_p1 s_letters p3 K273 n9)))
                        else
                        (rdI values__20 32 (x4_17 - 1) fun v228_164 =>
                          if v228_164 = 0 then
                          (some (0, values__20))
                          else
                          ((f_X5_reckon_J234 x4_17 x5_18 x6_19 values__20 v40_34 (f_X5_reckon_L9 n_p1 s_p1 s_letters p3 K273 n9)))))))))
              else
              (some (0, values__20)))))
        else
        (nmI (x6_19 + 1) fun v267_191 =>
          (f_X5_reckon_L9 n_p1 s_p1 s_letters p3 K273 n9) x4_17 x5_18 v267_191 values__20)))
noncomputable def f_X5_reckon (n_p1 : Nat) (s_p1 : Nat → Int32) (s_letters : Nat → Int32) (s_values : Nat → Int32) (p2 : Int32) (p3 : Int32) : Option (Int32 × (Nat → Int32)) :=
    (f_X5_reckon_L9 n_p1 s_p1 s_letters p3 f_X5_reckon_J273 FU) 0 p2 p2 s_values
abbrev r_X5_reckon : Room := { frames := 1, cells := 0, slots := 0, locals := 22 }
set_option maxHeartbeats 4000000 in
set_option maxRecDepth 100000 in
theorem c_X5_reckon (l : Launch) (E : kE) (sz : Nat) (a0 a1 a2 a3 : Nat) (n_p1 : Nat) (s_p1 : Nat → Int32) (s_letters : Nat → Int32) (s_values : Nat → Int32) (p2 : Int32) (p3 : Int32) (r : Int32) (o_values : Nat → Int32) (h : f_X5_reckon n_p1 s_p1 s_letters s_values p2 p3 = some (r, o_values)) : kMi l yX5_reckon cX5_reckon 9 (some .int) r_X5_reckon [.ref a0, .ref a1, .int p2, .int p3] E [(a0, .inr (5, [.ref a2, .ref a3])), (a1, .inl (E.2 0, n_p1, .inl s_p1)), (a2, .inl (E.2 0, 128, .inl s_letters)), (a3, .inl (E.2 0, 32, .inl s_values))] sz 0 0 (fun x (_ : Unit) => x = r) (fun _ => [(a0, .inr (5, [.ref a2, .ref a3])), (a1, .inl (E.2 0, n_p1, .inl s_p1)), (a2, .inl (E.2 0, 128, .inl s_letters)), (a3, .inl (E.2 0, 32, .inl o_values))]) := by
  refine kmeti rfl (Nat.le_of_ble_eq_true rfl) ?_
  intro p e s m args below meth c ls A Q X hV hret hl
  have X : kC p s m c cX5_reckon 9 RX5 args E A := X
  have hx := X.1
  have hb := X.2.1
  have hl : lv_has ls 9 [(0, .ref a0), (1, .ref a1), (2, .int p2), (3, .int p3)] := hl
  rw [f_X5_reckon] at h
  refine lv_iconst (v := 0) hx hb dX5_reckon_0 (by decide) ?_
  refine lv_istore (lv' := [(4, .int 0), (0, .ref a0), (1, .ref a1), (2, .int p2), (3, .int p3)]) hx hb dX5_reckon_1 hl (by decide) rfl (fun ls hl1 => ?_)
  clear hl
  refine lv_iload_n hx hb dX5_reckon_3 rfl (lv_at hl1 3 rfl) ?_
  refine lv_istore (lv' := [(5, .int p2), (4, .int 0), (0, .ref a0), (1, .ref a1), (2, .int p2), (3, .int p3)]) hx hb dX5_reckon_4 hl1 (by decide) rfl (fun ls hl2 => ?_)
  clear hl1
  refine lv_iload_n hx hb dX5_reckon_6 rfl (lv_at hl2 4 rfl) ?_
  refine lv_istore (lv' := [(6, .int p2), (5, .int p2), (4, .int 0), (0, .ref a0), (1, .ref a1), (2, .int p2), (3, .int p3)]) hx hb dX5_reckon_7 hl2 (by decide) rfl (fun ls hl3 => ?_)
  clear hl2
  have J273 : ∀ (x4_4 : Int32) (values__5 : Nat → Int32) (H : Heap) (locs : List Loc) (ls : Array Slot), (f_X5_reckon_J273  ) x4_4 values__5 = some (r, o_values) → kV E A s.heap H locs [(a0, .inr (5, [.ref a2, .ref a3])), (a1, .inl (E.2 0, n_p1, .inl s_p1)), (a2, .inl (E.2 0, 128, .inl s_letters)), (a3, .inl (E.2 0, 32, .inl values__5))] → lv_has ls 9 [(0, .ref a0), (4, .int x4_4)] → W p l e r_X5_reckon s m args below meth c H locs 0 0 Q (F0 m 273 ls []) := by
    intro x4_4 values__5 H locs ls hB273 hVB273 hlB273
    rw [f_X5_reckon_J273] at hB273
    refine lv_iload hx hb dX5_reckon_273 (lv_at hlB273 1 rfl) ?_
    refine lv_iconst (v := 1) hx hb dX5_reckon_275 (by decide) ?_
    refine lv_icmp_ne (tgt := 288) hx hb dX5_reckon_276 (by decide) (fun c6 => ?_) (fun c6 => ?_)
    · have h7 := ieS c6 hB273
      clear hB273 c6
      refine lv_iconst (v := 0) hx hb dX5_reckon_288 (by decide) ?_
      obtain ⟨q9, q10⟩ := tup2_s h7
      clear h7
      exact hret _ () _ _ _ _ q9 rfl (by rw [← q10]; exact hVB273) dX5_reckon_289
    · have h8 := itS c6 hB273
      clear hB273 c6
      refine lv_aload_n hx hb dX5_reckon_279 rfl (lv_at hlB273 0 rfl) ?_
      refine kget X hVB273 (ci := 5) inlX5 rfl 0 rfl 1 (by decide) mw_82 rfl dX5_reckon_280 ?_
      refine lv_iconst (v := 0) hx hb dX5_reckon_283 (by decide) ?_
      obtain ⟨hi12, v284_11, e13, h14⟩ := rdI_s h8
      clear h8
      refine kiald X hVB273 3 rfl hi12 e13 dX5_reckon_284 ?_
      clear hi12 e13
      refine lv_goto (tgt := 289) hx hb dX5_reckon_285 (by decide) ?_
      obtain ⟨q15, q16⟩ := tup2_s h14
      clear h14
      exact hret _ () _ _ _ _ q15 rfl (by rw [← q16]; exact hVB273) dX5_reckon_289
  have L9 : ∀ (n9 : Nat) (x4_17 : Int32) (x5_18 : Int32) (x6_19 : Int32) (values__20 : Nat → Int32) (H : Heap) (locs : List Loc) (ls : Array Slot), (f_X5_reckon_L9 n_p1 s_p1 s_letters p3 (f_X5_reckon_J273  ) n9) x4_17 x5_18 x6_19 values__20 = some (r, o_values) → kV E A s.heap H locs [(a0, .inr (5, [.ref a2, .ref a3])), (a1, .inl (E.2 0, n_p1, .inl s_p1)), (a2, .inl (E.2 0, 128, .inl s_letters)), (a3, .inl (E.2 0, 32, .inl values__20))] → lv_has ls 9 [(0, .ref a0), (1, .ref a1), (3, .int p3), (4, .int x4_17), (5, .int x5_18), (6, .int x6_19)] → W p l e r_X5_reckon s m args below meth c H locs 0 0 Q (F0 m 9 ls []) := by
    intro n9
    induction n9 with
    | zero =>
      intro x4_17 x5_18 x6_19 values__20 H locs ls hB9 hVB9 hlB9
      rw [f_X5_reckon_L9] at hB9
      exact nomatch hB9
    | succ n9 ih9 =>
      intro x4_17 x5_18 x6_19 values__20 H locs ls hB9 hVB9 hlB9
      rw [f_X5_reckon_L9] at hB9
      refine lv_iload hx hb dX5_reckon_9 (lv_at hlB9 5 rfl) ?_
      refine lv_iload_n hx hb dX5_reckon_11 rfl (lv_at hlB9 2 rfl) ?_
      refine lv_icmp_ge (tgt := 273) hx hb dX5_reckon_12 (by decide) (fun c21 => ?_) (fun c21 => ?_)
      · have h22 := itS c21 hB9
        clear hB9 c21
        exact J273 x4_17 values__20 _ _ _ h22 hVB9 (lv_sub hlB9 [0, 3] rfl)
      · have h23 := ieS c21 hB9
        clear hB9 c21
        refine lv_iload hx hb dX5_reckon_15 (lv_at hlB9 5 rfl) ?_
        refine lv_aload_n hx hb dX5_reckon_17 rfl (lv_at hlB9 1 rfl) ?_
        refine kalen X hVB9 1 0 rfl rfl (v := (Int32.ofNat n_p1)) rfl dX5_reckon_18 ?_
        refine lv_icmp_ge (tgt := 273) hx hb dX5_reckon_19 (by decide) (fun c24 => ?_) (fun c24 => ?_)
        · have h25 := itS c24 h23
          clear h23 c24
          exact J273 x4_17 values__20 _ _ _ h25 hVB9 (lv_sub hlB9 [0, 3] rfl)
        · have h26 := ieS c24 h23
          clear h23 c24
          refine lv_iload hx hb dX5_reckon_22 (lv_at hlB9 5 rfl) ?_
          refine lv_iload hx hb dX5_reckon_24 (lv_at hlB9 4 rfl) ?_
          refine lv_icmp_ge (tgt := 32) hx hb dX5_reckon_26 (by decide) (fun c27 => ?_) (fun c27 => ?_)
          · have h28 := itS c27 h26
            clear h26 c27
            refine lv_aload_n hx hb dX5_reckon_32 rfl (lv_at hlB9 1 rfl) ?_
            refine lv_iload hx hb dX5_reckon_33 (lv_at hlB9 5 rfl) ?_
            obtain ⟨hi31, v35_30, e32, h33⟩ := rdI_s h28
            clear h28
            refine kiald X hVB9 1 rfl hi31 e32 dX5_reckon_35 ?_
            clear hi31 e32
            refine lv_sipush (v := 255) hx hb dX5_reckon_36 (by decide) ?_
            refine lv_iand hx hb dX5_reckon_39 ?_
            obtain ⟨v40_34, e35, h36⟩ := nmI_s h33
            clear h33
            refine ktopi e35 ?_
            clear e35
            refine lv_istore (lv' := [(7, .int v40_34), (0, .ref a0), (1, .ref a1), (3, .int p3), (4, .int x4_17), (5, .int x5_18), (6, .int x6_19)]) hx hb dX5_reckon_40 hlB9 (by decide) rfl (fun ls hl37 => ?_)
            clear hlB9
            refine lv_aload_n hx hb dX5_reckon_42 rfl (lv_at hl37 2 rfl) ?_
            refine lv_iload hx hb dX5_reckon_43 (lv_at hl37 6 rfl) ?_
            obtain ⟨hi39, v45_38, e40, h41⟩ := rdI_s h36
            clear h36
            refine kiald X hVB9 1 rfl hi39 e40 dX5_reckon_45 ?_
            clear hi39 e40
            refine lv_bipush (v := 8) hx hb dX5_reckon_46 (by decide) ?_
            refine lv_iushr (v := jushr v45_38 8) hx hb dX5_reckon_48 rfl ?_
            obtain ⟨v49_42, e43, h44⟩ := nmI_s h41
            clear h41
            refine ktopi e43 ?_
            clear e43
            refine lv_istore (lv' := [(8, .int v49_42), (7, .int v40_34), (0, .ref a0), (1, .ref a1), (3, .int p3), (4, .int x4_17), (5, .int x5_18), (6, .int x6_19)]) hx hb dX5_reckon_49 hl37 (by decide) rfl (fun ls hl45 => ?_)
            clear hl37
            refine lv_iload hx hb dX5_reckon_51 (lv_at hl45 1 rfl) ?_
            refine lv_bipush (v := 48) hx hb dX5_reckon_53 (by decide) ?_
            have J65 : ∀ (x4_46 : Int32) (x5_47 : Int32) (x6_48 : Int32) (values__49 : Nat → Int32) (H : Heap) (locs : List Loc) (ls : Array Slot), (f_X5_reckon_J65 s_letters v40_34 v49_42 (f_X5_reckon_L9 n_p1 s_p1 s_letters p3 (f_X5_reckon_J273  ) n9)) x4_46 x5_47 x6_48 values__49 = some (r, o_values) → kV E A s.heap H locs [(a0, .inr (5, [.ref a2, .ref a3])), (a1, .inl (E.2 0, n_p1, .inl s_p1)), (a2, .inl (E.2 0, 128, .inl s_letters)), (a3, .inl (E.2 0, 32, .inl values__49))] → lv_has ls 9 [(0, .ref a0), (1, .ref a1), (3, .int p3), (4, .int x4_46), (5, .int x5_47), (6, .int x6_48), (7, .int v40_34), (8, .int v49_42)] → W p l e r_X5_reckon s m args below meth c H locs 0 0 Q (F0 m 65 ls []) := by
              intro x4_46 x5_47 x6_48 values__49 H locs ls hB65 hVB65 hlB65
              rw [f_X5_reckon_J65] at hB65
              refine lv_iload hx hb dX5_reckon_65 (lv_at hlB65 3 rfl) ?_
              refine lv_bipush (v := 32) hx hb dX5_reckon_67 (by decide) ?_
              refine lv_icmp_lt (tgt := 74) hx hb dX5_reckon_69 (by decide) (fun c50 => ?_) (fun c50 => ?_)
              · have h51 := itS c50 hB65
                clear hB65 c50
                refine lv_aload_n hx hb dX5_reckon_74 rfl (lv_at hlB65 0 rfl) ?_
                refine kget X hVB65 (ci := 5) inlX5 rfl 0 rfl 1 (by decide) mw_82 rfl dX5_reckon_75 ?_
                refine lv_iload hx hb dX5_reckon_78 (lv_at hlB65 3 rfl) ?_
                refine lv_iload hx hb dX5_reckon_80 (lv_at hlB65 6 rfl) ?_
                refine lv_bipush (v := 48) hx hb dX5_reckon_82 (by decide) ?_
                have J102 : ∀ (t2_53 : Int32) (H : Heap) (locs : List Loc) (ls : Array Slot), (f_X5_reckon_J102 x4_46 x5_47 x6_48 values__49 (f_X5_reckon_L9 n_p1 s_p1 s_letters p3 (f_X5_reckon_J273  ) n9)) t2_53 = some (r, o_values) → kV E A s.heap H locs [(a0, .inr (5, [.ref a2, .ref a3])), (a1, .inl (E.2 0, n_p1, .inl s_p1)), (a2, .inl (E.2 0, 128, .inl s_letters)), (a3, .inl (E.2 0, 32, .inl values__49))] → lv_has ls 9 [(0, .ref a0), (1, .ref a1), (3, .int p3), (4, .int x4_46), (5, .int x5_47), (6, .int x6_48)] → W p l e r_X5_reckon s m args below meth c H locs 0 0 Q (F0 m 102 ls [.int t2_53, .int x4_46, .ref a3]) := by
                  intro t2_53 H locs ls hB102 hVB102 hlB102
                  rw [f_X5_reckon_J102] at hB102
                  obtain ⟨hi55, g102_54, e56, h57⟩ := wrI_s hB102
                  clear hB102
                  refine kiast X hVB102 3 rfl hi55 e56 dX5_reckon_102 (fun H locs hV58 => ?_)
                  have hV58 : kV E A s.heap H locs [(a0, .inr (5, [.ref a2, .ref a3])), (a1, .inl (E.2 0, n_p1, .inl s_p1)), (a2, .inl (E.2 0, 128, .inl s_letters)), (a3, .inl (E.2 0, 32, .inl g102_54))] := hV58
                  clear hVB102 hi55 e56
                  obtain ⟨v103_59, e60, h61⟩ := nmI_s h57
                  clear h57
                  refine lv_iinc (v := v103_59) (lv' := [(4, .int v103_59), (0, .ref a0), (1, .ref a1), (3, .int p3), (5, .int x5_47), (6, .int x6_48)]) hx hb dX5_reckon_103 hlB102 (k := 3) rfl (by rw [e60]; rfl) (by decide) rfl (fun ls hl62 => ?_)
                  clear hlB102 e60
                  refine lv_goto (tgt := 267) hx hb dX5_reckon_106 (by decide) ?_
                  obtain ⟨v267_63, e64, h65⟩ := nmI_s h61
                  clear h61
                  refine lv_iinc (v := v267_63) (lv' := [(6, .int v267_63), (4, .int v103_59), (0, .ref a0), (1, .ref a1), (3, .int p3), (5, .int x5_47)]) hx hb dX5_reckon_267 hl62 (k := 5) rfl (by rw [e64]; rfl) (by decide) rfl (fun ls hl66 => ?_)
                  clear hl62 e64
                  refine lv_goto (tgt := 9) hx hb dX5_reckon_270 (by decide) ?_
                  exact ih9 v103_59 x5_47 v267_63 g102_54 _ _ _ h65 hV58 (lv_sub hl66 [2, 3, 4, 1, 5, 0] rfl)
                refine lv_icmp_ne (tgt := 92) hx hb dX5_reckon_84 (by decide) (fun c67 => ?_) (fun c67 => ?_)
                · have h68 := ieS c67 h51
                  clear h51 c67
                  refine lv_aload_n hx hb dX5_reckon_92 rfl (lv_at hlB65 0 rfl) ?_
                  refine kget X hVB65 (ci := 5) inlX5 rfl 0 rfl 0 (by decide) mw_81 rfl dX5_reckon_93 ?_
                  refine lv_iload hx hb dX5_reckon_96 (lv_at hlB65 7 rfl) ?_
                  refine lv_bipush (v := 127) hx hb dX5_reckon_98 (by decide) ?_
                  refine lv_iand hx hb dX5_reckon_100 ?_
                  obtain ⟨hi71, v101_70, e72, h73⟩ := rdI_s h68
                  clear h68
                  refine kiald X hVB65 2 rfl hi71 e72 dX5_reckon_101 ?_
                  clear hi71 e72
                  exact J102 v101_70 _ _ _ h73 hVB65 (lv_sub hlB65 [0, 1, 2, 3, 4, 5] rfl)
                · have h69 := itS c67 h51
                  clear h51 c67
                  refine lv_iload hx hb dX5_reckon_87 (lv_at hlB65 7 rfl) ?_
                  refine lv_goto (tgt := 102) hx hb dX5_reckon_89 (by decide) ?_
                  exact J102 v49_42 _ _ _ h69 hVB65 (lv_sub hlB65 [0, 1, 2, 3, 4, 5] rfl)
              · have h52 := ieS c50 hB65
                clear hB65 c50
                refine lv_iconst (v := 0) hx hb dX5_reckon_72 (by decide) ?_
                obtain ⟨q74, q75⟩ := tup2_s h52
                clear h52
                exact hret _ () _ _ _ _ q74 rfl (by rw [← q75]; exact hVB65) dX5_reckon_73
            refine lv_icmp_eq (tgt := 65) hx hb dX5_reckon_55 (by decide) (fun c76 => ?_) (fun c76 => ?_)
            · have h77 := itS c76 h44
              clear h44 c76
              exact J65 x4_17 x5_18 x6_19 values__20 _ _ _ h77 hVB9 (lv_sub hl45 [2, 3, 4, 5, 6, 7, 1, 0] rfl)
            · have h78 := ieS c76 h44
              clear h44 c76
              refine lv_iload hx hb dX5_reckon_58 (lv_at hl45 1 rfl) ?_
              refine lv_bipush (v := 97) hx hb dX5_reckon_60 (by decide) ?_
              refine lv_icmp_ne (tgt := 109) hx hb dX5_reckon_62 (by decide) (fun c79 => ?_) (fun c79 => ?_)
              · have h80 := ieS c79 h78
                clear h78 c79
                refine lv_iload hx hb dX5_reckon_109 (lv_at hl45 5 rfl) ?_
                refine lv_iconst (v := 1) hx hb dX5_reckon_111 (by decide) ?_
                refine lv_icmp_ge (tgt := 117) hx hb dX5_reckon_112 (by decide) (fun c82 => ?_) (fun c82 => ?_)
                · have h83 := itS c82 h80
                  clear h80 c82
                  refine lv_iload hx hb dX5_reckon_117 (lv_at hl45 1 rfl) ?_
                  refine lv_bipush (v := 33) hx hb dX5_reckon_119 (by decide) ?_
                  refine lv_icmp_ne (tgt := 147) hx hb dX5_reckon_121 (by decide) (fun c85 => ?_) (fun c85 => ?_)
                  · have h86 := ieS c85 h83
                    clear h83 c85
                    refine lv_iload hx hb dX5_reckon_147 (lv_at hl45 1 rfl) ?_
                    refine lv_bipush (v := 38) hx hb dX5_reckon_149 (by decide) ?_
                    have J161 : ∀ (x4_88 : Int32) (x6_89 : Int32) (values__90 : Nat → Int32) (H : Heap) (locs : List Loc) (ls : Array Slot), (f_X5_reckon_J161 x5_18 v40_34 v49_42 (f_X5_reckon_L9 n_p1 s_p1 s_letters p3 (f_X5_reckon_J273  ) n9)) x4_88 x6_89 values__90 = some (r, o_values) → kV E A s.heap H locs [(a0, .inr (5, [.ref a2, .ref a3])), (a1, .inl (E.2 0, n_p1, .inl s_p1)), (a2, .inl (E.2 0, 128, .inl s_letters)), (a3, .inl (E.2 0, 32, .inl values__90))] → lv_has ls 9 [(0, .ref a0), (1, .ref a1), (3, .int p3), (4, .int x4_88), (5, .int x5_18), (6, .int x6_89), (7, .int v40_34), (8, .int v49_42)] → W p l e r_X5_reckon s m args below meth c H locs 0 0 Q (F0 m 161 ls []) := by
                      intro x4_88 x6_89 values__90 H locs ls hB161 hVB161 hlB161
                      rw [f_X5_reckon_J161] at hB161
                      refine lv_aload_n hx hb dX5_reckon_161 rfl (lv_at hlB161 0 rfl) ?_
                      refine kget X hVB161 (ci := 5) inlX5 rfl 0 rfl 1 (by decide) mw_82 rfl dX5_reckon_162 ?_
                      refine lv_iload hx hb dX5_reckon_165 (lv_at hlB161 3 rfl) ?_
                      refine lv_iconst (v := 1) hx hb dX5_reckon_167 (by decide) ?_
                      refine lv_isub hx hb dX5_reckon_168 ?_
                      obtain ⟨hi92, v169_91, e93, h94⟩ := rdI_s hB161
                      clear hB161
                      refine kiald X hVB161 3 rfl hi92 e93 dX5_reckon_169 ?_
                      clear hi92 e93
                      have J178 : ∀ (t0_95 : Int32) (H : Heap) (locs : List Loc) (ls : Array Slot), (f_X5_reckon_J178 x5_18 v40_34 v49_42 x4_88 x6_89 values__90 (f_X5_reckon_L9 n_p1 s_p1 s_letters p3 (f_X5_reckon_J273  ) n9)) t0_95 = some (r, o_values) → kV E A s.heap H locs [(a0, .inr (5, [.ref a2, .ref a3])), (a1, .inl (E.2 0, n_p1, .inl s_p1)), (a2, .inl (E.2 0, 128, .inl s_letters)), (a3, .inl (E.2 0, 32, .inl values__90))] → lv_has ls 9 [(0, .ref a0), (1, .ref a1), (3, .int p3), (4, .int x4_88), (5, .int x5_18), (6, .int x6_89), (7, .int v40_34), (8, .int v49_42)] → W p l e r_X5_reckon s m args below meth c H locs 0 0 Q (F0 m 178 ls [.int t0_95]) := by
                        intro t0_95 H locs ls hB178 hVB178 hlB178
                        rw [f_X5_reckon_J178] at hB178
                        refine lv_iload hx hb dX5_reckon_178 (lv_at hlB178 6 rfl) ?_
                        refine lv_bipush (v := 124) hx hb dX5_reckon_180 (by decide) ?_
                        have J190 : ∀ (t1_96 : Int32) (H : Heap) (locs : List Loc) (ls : Array Slot), (f_X5_reckon_J190 x5_18 v49_42 x4_88 x6_89 values__90 t0_95 (f_X5_reckon_L9 n_p1 s_p1 s_letters p3 (f_X5_reckon_J273  ) n9)) t1_96 = some (r, o_values) → kV E A s.heap H locs [(a0, .inr (5, [.ref a2, .ref a3])), (a1, .inl (E.2 0, n_p1, .inl s_p1)), (a2, .inl (E.2 0, 128, .inl s_letters)), (a3, .inl (E.2 0, 32, .inl values__90))] → lv_has ls 9 [(0, .ref a0), (1, .ref a1), (3, .int p3), (4, .int x4_88), (5, .int x5_18), (6, .int x6_89), (8, .int v49_42)] → W p l e r_X5_reckon s m args below meth c H locs 0 0 Q (F0 m 190 ls [.int t1_96, .int t0_95]) := by
                          intro t1_96 H locs ls hB190 hVB190 hlB190
                          rw [f_X5_reckon_J190] at hB190
                          refine lv_icmp_ne (tgt := 200) hx hb dX5_reckon_190 (by decide) (fun c97 => ?_) (fun c97 => ?_)
                          · have h98 := ieS c97 hB190
                            clear hB190 c97
                            obtain ⟨v200_100, e101, h102⟩ := nmI_s h98
                            clear h98
                            refine lv_iinc (v := v200_100) (lv' := [(4, .int v200_100), (0, .ref a0), (1, .ref a1), (3, .int p3), (5, .int x5_18), (6, .int x6_89), (8, .int v49_42)]) hx hb dX5_reckon_200 hlB190 (k := 3) rfl (by rw [e101]; rfl) (by decide) rfl (fun ls hl103 => ?_)
                            clear hlB190 e101
                            refine lv_goto (tgt := 267) hx hb dX5_reckon_203 (by decide) ?_
                            obtain ⟨v267_104, e105, h106⟩ := nmI_s h102
                            clear h102
                            refine lv_iinc (v := v267_104) (lv' := [(6, .int v267_104), (4, .int v200_100), (0, .ref a0), (1, .ref a1), (3, .int p3), (5, .int x5_18), (8, .int v49_42)]) hx hb dX5_reckon_267 hl103 (k := 5) rfl (by rw [e105]; rfl) (by decide) rfl (fun ls hl107 => ?_)
                            clear hl103 e105
                            refine lv_goto (tgt := 9) hx hb dX5_reckon_270 (by decide) ?_
                            exact ih9 v200_100 x5_18 v267_104 values__90 _ _ _ h106 hVB190 (lv_sub hl107 [2, 3, 4, 1, 5, 0] rfl)
                          · have h99 := itS c97 hB190
                            clear hB190 c97
                            refine lv_iload hx hb dX5_reckon_193 (lv_at hlB190 6 rfl) ?_
                            refine lv_istore (lv' := [(5, .int v49_42), (0, .ref a0), (1, .ref a1), (3, .int p3), (4, .int x4_88), (6, .int x6_89), (8, .int v49_42)]) hx hb dX5_reckon_195 hlB190 (by decide) rfl (fun ls hl108 => ?_)
                            clear hlB190
                            refine lv_goto (tgt := 267) hx hb dX5_reckon_197 (by decide) ?_
                            obtain ⟨v267_109, e110, h111⟩ := nmI_s h99
                            clear h99
                            refine lv_iinc (v := v267_109) (lv' := [(6, .int v267_109), (5, .int v49_42), (0, .ref a0), (1, .ref a1), (3, .int p3), (4, .int x4_88), (8, .int v49_42)]) hx hb dX5_reckon_267 hl108 (k := 5) rfl (by rw [e110]; rfl) (by decide) rfl (fun ls hl112 => ?_)
                            clear hl108 e110
                            refine lv_goto (tgt := 9) hx hb dX5_reckon_270 (by decide) ?_
                            exact ih9 x4_88 v49_42 v267_109 values__90 _ _ _ h111 hVB190 (lv_sub hl112 [2, 3, 4, 5, 1, 0] rfl)
                        refine lv_icmp_ne (tgt := 189) hx hb dX5_reckon_182 (by decide) (fun c113 => ?_) (fun c113 => ?_)
                        · have h114 := ieS c113 hB178
                          clear hB178 c113
                          refine lv_iconst (v := 0) hx hb dX5_reckon_189 (by decide) ?_
                          exact J190 0 _ _ _ h114 hVB178 (lv_sub hlB178 [0, 1, 2, 3, 4, 5, 7] rfl)
                        · have h115 := itS c113 hB178
                          clear hB178 c113
                          refine lv_iconst (v := 1) hx hb dX5_reckon_185 (by decide) ?_
                          refine lv_goto (tgt := 190) hx hb dX5_reckon_186 (by decide) ?_
                          exact J190 1 _ _ _ h115 hVB178 (lv_sub hlB178 [0, 1, 2, 3, 4, 5, 7] rfl)
                      refine lv_if_eq (tgt := 177) hx hb dX5_reckon_170 (by decide) (fun c116 => ?_) (fun c116 => ?_)
                      · have h117 := itS c116 h94
                        clear h94 c116
                        refine lv_iconst (v := 0) hx hb dX5_reckon_177 (by decide) ?_
                        exact J178 0 _ _ _ h117 hVB161 (lv_sub hlB161 [0, 1, 2, 3, 4, 5, 6, 7] rfl)
                      · have h118 := ieS c116 h94
                        clear h94 c116
                        refine lv_iconst (v := 1) hx hb dX5_reckon_173 (by decide) ?_
                        refine lv_goto (tgt := 178) hx hb dX5_reckon_174 (by decide) ?_
                        exact J178 1 _ _ _ h118 hVB161 (lv_sub hlB161 [0, 1, 2, 3, 4, 5, 6, 7] rfl)
                    refine lv_icmp_eq (tgt := 161) hx hb dX5_reckon_151 (by decide) (fun c119 => ?_) (fun c119 => ?_)
                    · have h120 := itS c119 h86
                      clear h86 c119
                      exact J161 x4_17 x6_19 values__20 _ _ _ h120 hVB9 (lv_sub hl45 [2, 3, 4, 5, 6, 7, 1, 0] rfl)
                    · have h121 := ieS c119 h86
                      clear h86 c119
                      refine lv_iload hx hb dX5_reckon_154 (lv_at hl45 1 rfl) ?_
                      refine lv_bipush (v := 124) hx hb dX5_reckon_156 (by decide) ?_
                      refine lv_icmp_ne (tgt := 206) hx hb dX5_reckon_158 (by decide) (fun c122 => ?_) (fun c122 => ?_)
                      · have h123 := ieS c122 h121
                        clear h121 c122
                        refine lv_iload hx hb dX5_reckon_206 (lv_at hl45 5 rfl) ?_
                        refine lv_iconst (v := 2) hx hb dX5_reckon_208 (by decide) ?_
                        refine lv_icmp_lt (tgt := 232) hx hb dX5_reckon_209 (by decide) (fun c125 => ?_) (fun c125 => ?_)
                        · have h126 := itS c125 h123
                          clear h123 c125
                          refine lv_iconst (v := 0) hx hb dX5_reckon_232 (by decide) ?_
                          obtain ⟨q128, q129⟩ := tup2_s h126
                          clear h126
                          exact hret _ () _ _ _ _ q128 rfl (by rw [← q129]; exact hVB9) dX5_reckon_233
                        · have h127 := ieS c125 h123
                          clear h123 c125
                          refine lv_iload hx hb dX5_reckon_212 (lv_at hl45 1 rfl) ?_
                          obtain ⟨r214_130, hc131, h132⟩ := cb1_s h127
                          clear h127
                          refine kgoiE (krunS (rest := []) X hVB9 [] (c_X5_isDivision l E _ v40_34 r214_130 hc131) mw_682 kb_X5_isDivision (by decide) rfl rfl hl45.1 rfl (Nat.le_of_ble_eq_true rfl) dX5_reckon_214 (by decide)) X hVB9 [] [0, 1, 2, 3] rfl rfl rfl (by decide) (fun u H locs hV133 => ?_)
                          have hV133 : kV E A s.heap H locs [(a0, .inr (5, [.ref a2, .ref a3])), (a1, .inl (E.2 0, n_p1, .inl s_p1)), (a2, .inl (E.2 0, 128, .inl s_letters)), (a3, .inl (E.2 0, 32, .inl values__20))] := hV133.sub [0, 1, 2, 3] rfl rfl
                          clear hVB9
                          have J234 : ∀  (H : Heap) (locs : List Loc) (ls : Array Slot), (f_X5_reckon_J234 x4_17 x5_18 x6_19 values__20 v40_34 (f_X5_reckon_L9 n_p1 s_p1 s_letters p3 (f_X5_reckon_J273  ) n9)) = some (r, o_values) → kV E A s.heap H locs [(a0, .inr (5, [.ref a2, .ref a3])), (a1, .inl (E.2 0, n_p1, .inl s_p1)), (a2, .inl (E.2 0, 128, .inl s_letters)), (a3, .inl (E.2 0, 32, .inl values__20))] → lv_has ls 9 [(0, .ref a0), (1, .ref a1), (3, .int p3), (4, .int x4_17), (5, .int x5_18), (6, .int x6_19), (7, .int v40_34)] → W p l e r_X5_reckon s m args below meth c H locs 0 0 Q (F0 m 234 ls []) := by
                            intro  H locs ls hB234 hVB234 hlB234
                            rw [f_X5_reckon_J234] at hB234
                            obtain ⟨v234_135, e136, h137⟩ := nmI_s hB234
                            clear hB234
                            refine lv_iinc (v := v234_135) (lv' := [(4, .int v234_135), (0, .ref a0), (1, .ref a1), (3, .int p3), (5, .int x5_18), (6, .int x6_19), (7, .int v40_34)]) hx hb dX5_reckon_234 hlB234 (k := 3) rfl (by rw [e136]; rfl) (by decide) rfl (fun ls hl138 => ?_)
                            clear hlB234 e136
                            refine lv_aload_n hx hb dX5_reckon_237 rfl (lv_at hl138 1 rfl) ?_
                            refine kget X hVB234 (ci := 5) inlX5 rfl 0 rfl 1 (by decide) mw_82 rfl dX5_reckon_238 ?_
                            refine lv_iload hx hb dX5_reckon_241 (lv_at hl138 0 rfl) ?_
                            refine lv_iconst (v := 1) hx hb dX5_reckon_243 (by decide) ?_
                            refine lv_isub hx hb dX5_reckon_244 ?_
                            refine lv_iload hx hb dX5_reckon_245 (lv_at hl138 6 rfl) ?_
                            refine lv_aload_n hx hb dX5_reckon_247 rfl (lv_at hl138 1 rfl) ?_
                            refine kget X hVB234 (ci := 5) inlX5 rfl 0 rfl 1 (by decide) mw_82 rfl dX5_reckon_248 ?_
                            refine lv_iload hx hb dX5_reckon_251 (lv_at hl138 0 rfl) ?_
                            refine lv_iconst (v := 1) hx hb dX5_reckon_253 (by decide) ?_
                            refine lv_isub hx hb dX5_reckon_254 ?_
                            obtain ⟨hi140, v255_139, e141, h142⟩ := rdI_s h137
                            clear h137
                            refine kiald X hVB234 3 rfl hi140 e141 dX5_reckon_255 ?_
                            clear hi140 e141
                            refine lv_aload_n hx hb dX5_reckon_256 rfl (lv_at hl138 1 rfl) ?_
                            refine kget X hVB234 (ci := 5) inlX5 rfl 0 rfl 1 (by decide) mw_82 rfl dX5_reckon_257 ?_
                            refine lv_iload hx hb dX5_reckon_260 (lv_at hl138 0 rfl) ?_
                            obtain ⟨hi144, v262_143, e145, h146⟩ := rdI_s h142
                            clear h142
                            refine kiald X hVB234 3 rfl hi144 e145 dX5_reckon_262 ?_
                            clear hi144 e145
                            obtain ⟨r263_147, hc148, h149⟩ := cb1_s h146
                            clear h146
                            refine kgoiE (krunS (rest := [.int (v234_135 - 1), .ref a3]) X hVB234 [] (c_X5_joined l E _ v40_34 v255_139 v262_143 r263_147 hc148) mw_685 kb_X5_joined (by decide) rfl rfl hl138.1 rfl (Nat.le_of_ble_eq_true rfl) dX5_reckon_263 (by decide)) X hVB234 [] [0, 1, 2, 3] rfl rfl rfl (by decide) (fun u H locs hV150 => ?_)
                            have hV150 : kV E A s.heap H locs [(a0, .inr (5, [.ref a2, .ref a3])), (a1, .inl (E.2 0, n_p1, .inl s_p1)), (a2, .inl (E.2 0, 128, .inl s_letters)), (a3, .inl (E.2 0, 32, .inl values__20))] := hV150.sub [0, 1, 2, 3] rfl rfl
                            clear hVB234
                            obtain ⟨hi153, g266_152, e154, h155⟩ := wrI_s h149
                            clear h149
                            refine kiast X hV150 3 rfl hi153 e154 dX5_reckon_266 (fun H locs hV156 => ?_)
                            have hV156 : kV E A s.heap H locs [(a0, .inr (5, [.ref a2, .ref a3])), (a1, .inl (E.2 0, n_p1, .inl s_p1)), (a2, .inl (E.2 0, 128, .inl s_letters)), (a3, .inl (E.2 0, 32, .inl g266_152))] := hV156
                            clear hV150 hi153 e154
                            obtain ⟨v267_157, e158, h159⟩ := nmI_s h155
                            clear h155
                            refine lv_iinc (v := v267_157) (lv' := [(6, .int v267_157), (4, .int v234_135), (0, .ref a0), (1, .ref a1), (3, .int p3), (5, .int x5_18), (7, .int v40_34)]) hx hb dX5_reckon_267 hl138 (k := 5) rfl (by rw [e158]; rfl) (by decide) rfl (fun ls hl160 => ?_)
                            clear hl138 e158
                            refine lv_goto (tgt := 9) hx hb dX5_reckon_270 (by decide) ?_
                            exact ih9 v234_135 x5_18 v267_157 g266_152 _ _ _ h159 hV156 (lv_sub hl160 [2, 3, 4, 1, 5, 0] rfl)
                          refine lv_if_eq (tgt := 234) hx hb dX5_reckon_217 (by decide) (fun c161 => ?_) (fun c161 => ?_)
                          · have h162 := itS c161 h132
                            clear h132 c161
                            exact J234  _ _ _ h162 hV133 (lv_sub hl45 [2, 3, 4, 5, 6, 7, 1] rfl)
                          · have h163 := ieS c161 h132
                            clear h132 c161
                            refine lv_aload_n hx hb dX5_reckon_220 rfl (lv_at hl45 2 rfl) ?_
                            refine kget X hV133 (ci := 5) inlX5 rfl 0 rfl 1 (by decide) mw_82 rfl dX5_reckon_221 ?_
                            refine lv_iload hx hb dX5_reckon_224 (lv_at hl45 5 rfl) ?_
                            refine lv_iconst (v := 1) hx hb dX5_reckon_226 (by decide) ?_
                            refine lv_isub hx hb dX5_reckon_227 ?_
                            obtain ⟨hi165, v228_164, e166, h167⟩ := rdI_s h163
                            clear h163
                            refine kiald X hV133 3 rfl hi165 e166 dX5_reckon_228 ?_
                            clear hi165 e166
                            refine lv_if_ne (tgt := 234) hx hb dX5_reckon_229 (by decide) (fun c168 => ?_) (fun c168 => ?_)
                            · have h169 := ieS c168 h167
                              clear h167 c168
                              exact J234  _ _ _ h169 hV133 (lv_sub hl45 [2, 3, 4, 5, 6, 7, 1] rfl)
                            · have h170 := itS c168 h167
                              clear h167 c168
                              refine lv_iconst (v := 0) hx hb dX5_reckon_232 (by decide) ?_
                              obtain ⟨q171, q172⟩ := tup2_s h170
                              clear h170
                              exact hret _ () _ _ _ _ q171 rfl (by rw [← q172]; exact hV133) dX5_reckon_233
                      · have h124 := itS c122 h121
                        clear h121 c122
                        exact J161 x4_17 x6_19 values__20 _ _ _ h124 hVB9 (lv_sub hl45 [2, 3, 4, 5, 6, 7, 1, 0] rfl)
                  · have h87 := itS c85 h83
                    clear h83 c85
                    refine lv_aload_n hx hb dX5_reckon_124 rfl (lv_at hl45 2 rfl) ?_
                    refine kget X hVB9 (ci := 5) inlX5 rfl 0 rfl 1 (by decide) mw_82 rfl dX5_reckon_125 ?_
                    refine lv_iload hx hb dX5_reckon_128 (lv_at hl45 5 rfl) ?_
                    refine lv_iconst (v := 1) hx hb dX5_reckon_130 (by decide) ?_
                    refine lv_isub hx hb dX5_reckon_131 ?_
                    refine lv_iconst (v := 1) hx hb dX5_reckon_132 (by decide) ?_
                    refine lv_aload_n hx hb dX5_reckon_133 rfl (lv_at hl45 2 rfl) ?_
                    refine kget X hVB9 (ci := 5) inlX5 rfl 0 rfl 1 (by decide) mw_82 rfl dX5_reckon_134 ?_
                    refine lv_iload hx hb dX5_reckon_137 (lv_at hl45 5 rfl) ?_
                    refine lv_iconst (v := 1) hx hb dX5_reckon_139 (by decide) ?_
                    refine lv_isub hx hb dX5_reckon_140 ?_
                    obtain ⟨hi174, v141_173, e175, h176⟩ := rdI_s h87
                    clear h87
                    refine kiald X hVB9 3 rfl hi174 e175 dX5_reckon_141 ?_
                    clear hi174 e175
                    refine lv_isub hx hb dX5_reckon_142 ?_
                    obtain ⟨v143_177, e178, h179⟩ := nmI_s h176
                    clear h176
                    refine ktopi e178 ?_
                    clear e178
                    obtain ⟨hi181, g143_180, e182, h183⟩ := wrI_s h179
                    clear h179
                    refine kiast X hVB9 3 rfl hi181 e182 dX5_reckon_143 (fun H locs hV184 => ?_)
                    have hV184 : kV E A s.heap H locs [(a0, .inr (5, [.ref a2, .ref a3])), (a1, .inl (E.2 0, n_p1, .inl s_p1)), (a2, .inl (E.2 0, 128, .inl s_letters)), (a3, .inl (E.2 0, 32, .inl g143_180))] := hV184
                    clear hVB9 hi181 e182
                    refine lv_goto (tgt := 267) hx hb dX5_reckon_144 (by decide) ?_
                    obtain ⟨v267_185, e186, h187⟩ := nmI_s h183
                    clear h183
                    refine lv_iinc (v := v267_185) (lv' := [(6, .int v267_185), (8, .int v49_42), (7, .int v40_34), (0, .ref a0), (1, .ref a1), (3, .int p3), (4, .int x4_17), (5, .int x5_18)]) hx hb dX5_reckon_267 hl45 (k := 7) rfl (by rw [e186]; rfl) (by decide) rfl (fun ls hl188 => ?_)
                    clear hl45 e186
                    refine lv_goto (tgt := 9) hx hb dX5_reckon_270 (by decide) ?_
                    exact ih9 x4_17 x5_18 v267_185 g143_180 _ _ _ h187 hV184 (lv_sub hl188 [3, 4, 5, 6, 7, 0] rfl)
                · have h84 := ieS c82 h80
                  clear h80 c82
                  refine lv_iconst (v := 0) hx hb dX5_reckon_115 (by decide) ?_
                  obtain ⟨q189, q190⟩ := tup2_s h84
                  clear h84
                  exact hret _ () _ _ _ _ q189 rfl (by rw [← q190]; exact hVB9) dX5_reckon_116
              · have h81 := itS c79 h78
                clear h78 c79
                exact J65 x4_17 x5_18 x6_19 values__20 _ _ _ h81 hVB9 (lv_sub hl45 [2, 3, 4, 5, 6, 7, 1, 0] rfl)
          · have h29 := ieS c27 h26
            clear h26 c27
            refine lv_goto (tgt := 267) hx hb dX5_reckon_29 (by decide) ?_
            obtain ⟨v267_191, e192, h193⟩ := nmI_s h29
            clear h29
            refine lv_iinc (v := v267_191) (lv' := [(6, .int v267_191), (0, .ref a0), (1, .ref a1), (3, .int p3), (4, .int x4_17), (5, .int x5_18)]) hx hb dX5_reckon_267 hlB9 (k := 5) rfl (by rw [e192]; rfl) (by decide) rfl (fun ls hl194 => ?_)
            clear hlB9 e192
            refine lv_goto (tgt := 9) hx hb dX5_reckon_270 (by decide) ?_
            exact ih9 x4_17 x5_18 v267_191 values__20 _ _ _ h193 hVB9 (lv_sub hl194 [1, 2, 3, 4, 5, 0] rfl)
  exact L9 FU 0 p2 p2 s_values _ _ _ h hV (lv_sub hl3 [3, 4, 6, 2, 1, 0] rfl)
noncomputable def f_X5_firstThatHolds_L2 (s_p1_clauses : Int32) (n_p1_code : Nat) (s_p1_code : Nat → Int32) (n_p1_middles : Nat) (s_p1_middles : Nat → Int32) (n_p1_starts : Nat) (s_p1_starts : Nat → Int32) (s_letters : Nat → Int32)  : Nat → Int32 → (Nat → Int32) → Option (Int32 × (Nat → Int32))
  | 0, _, _ => none
  | n2 + 1, x2_2, values__3 =>
    if s_p1_clauses ≤ x2_2 then
    (some ((-1), values__3))
    else
    (rdI s_p1_middles n_p1_middles x2_2 fun v20_9 =>
      rdI s_p1_starts n_p1_starts (x2_2 + 1) fun v28_13 =>
      cb2 (f_X5_reckon n_p1_code s_p1_code s_letters values__3 v20_9 v28_13) fun r29_17 o_values29_18 =>
      if r29_17 = 0 then
      (nmI (x2_2 + 1) fun v37_26 =>
        (f_X5_firstThatHolds_L2 s_p1_clauses n_p1_code s_p1_code n_p1_middles s_p1_middles n_p1_starts s_p1_starts s_letters  n2) v37_26 o_values29_18)
      else
      (some (x2_2, o_values29_18)))
noncomputable def f_X5_firstThatHolds (n_p1_code : Nat) (n_p1_middles : Nat) (n_p1_starts : Nat) (s_p1_clauses : Int32) (s_p1_code : Nat → Int32) (s_p1_middles : Nat → Int32) (s_p1_starts : Nat → Int32) (s_letters : Nat → Int32) (s_values : Nat → Int32) : Option (Int32 × (Nat → Int32)) :=
    (f_X5_firstThatHolds_L2 s_p1_clauses n_p1_code s_p1_code n_p1_middles s_p1_middles n_p1_starts s_p1_starts s_letters  FU) 0 s_values
abbrev r_X5_firstThatHolds : Room := { frames := 2, cells := 0, slots := 0, locals := 50 }
set_option maxHeartbeats 4000000 in
set_option maxRecDepth 100000 in
theorem c_X5_firstThatHolds (l : Launch) (E : kE) (sz : Nat) (a0 a1 a2 a3 a4 a5 a6 : Nat) (n_p1_code n_p1_middles n_p1_starts : Nat) (s_p1_clauses : Int32) (s_p1_code : Nat → Int32) (s_p1_middles : Nat → Int32) (s_p1_starts : Nat → Int32) (s_letters : Nat → Int32) (s_values : Nat → Int32) (r : Int32) (o_values : Nat → Int32) (h : f_X5_firstThatHolds n_p1_code n_p1_middles n_p1_starts s_p1_clauses s_p1_code s_p1_middles s_p1_starts s_letters s_values = some (r, o_values)) : kMi l yX5_firstThatHolds cX5_firstThatHolds 3 (some .int) r_X5_firstThatHolds [.ref a0, .ref a1] E [(a0, .inr (5, [.ref a5, .ref a6])), (a1, .inr (10, [.int s_p1_clauses, .ref a2, .ref a4, .ref a3])), (a2, .inl (E.2 0, n_p1_code, .inl s_p1_code)), (a3, .inl (E.2 0, n_p1_middles, .inl s_p1_middles)), (a4, .inl (E.2 0, n_p1_starts, .inl s_p1_starts)), (a5, .inl (E.2 0, 128, .inl s_letters)), (a6, .inl (E.2 0, 32, .inl s_values))] sz 0 0 (fun x (_ : Unit) => x = r) (fun _ => [(a0, .inr (5, [.ref a5, .ref a6])), (a1, .inr (10, [.int s_p1_clauses, .ref a2, .ref a4, .ref a3])), (a2, .inl (E.2 0, n_p1_code, .inl s_p1_code)), (a3, .inl (E.2 0, n_p1_middles, .inl s_p1_middles)), (a4, .inl (E.2 0, n_p1_starts, .inl s_p1_starts)), (a5, .inl (E.2 0, 128, .inl s_letters)), (a6, .inl (E.2 0, 32, .inl o_values))]) := by
  refine kmeti rfl (Nat.le_of_ble_eq_true rfl) ?_
  intro p e s m args below meth c ls A Q X hV hret hl
  have X : kC p s m c cX5_firstThatHolds 3 RX5 args E A := X
  have hx := X.1
  have hb := X.2.1
  have hl : lv_has ls 3 [(0, .ref a0), (1, .ref a1)] := hl
  rw [f_X5_firstThatHolds] at h
  refine lv_iconst (v := 0) hx hb dX5_firstThatHolds_0 (by decide) ?_
  refine lv_istore_n (lv' := [(2, .int 0), (0, .ref a0), (1, .ref a1)]) hx hb dX5_firstThatHolds_1 rfl hl (by decide) rfl (fun ls hl1 => ?_)
  clear hl
  have L2 : ∀ (n2 : Nat) (x2_2 : Int32) (values__3 : Nat → Int32) (H : Heap) (locs : List Loc) (ls : Array Slot), (f_X5_firstThatHolds_L2 s_p1_clauses n_p1_code s_p1_code n_p1_middles s_p1_middles n_p1_starts s_p1_starts s_letters  n2) x2_2 values__3 = some (r, o_values) → kV E A s.heap H locs [(a0, .inr (5, [.ref a5, .ref a6])), (a1, .inr (10, [.int s_p1_clauses, .ref a2, .ref a4, .ref a3])), (a2, .inl (E.2 0, n_p1_code, .inl s_p1_code)), (a3, .inl (E.2 0, n_p1_middles, .inl s_p1_middles)), (a4, .inl (E.2 0, n_p1_starts, .inl s_p1_starts)), (a5, .inl (E.2 0, 128, .inl s_letters)), (a6, .inl (E.2 0, 32, .inl values__3))] → lv_has ls 3 [(0, .ref a0), (1, .ref a1), (2, .int x2_2)] → W p l e r_X5_firstThatHolds s m args below meth c H locs 0 0 Q (F0 m 2 ls []) := by
    intro n2
    induction n2 with
    | zero =>
      intro x2_2 values__3 H locs ls hB2 hVB2 hlB2
      rw [f_X5_firstThatHolds_L2] at hB2
      exact nomatch hB2
    | succ n2 ih2 =>
      intro x2_2 values__3 H locs ls hB2 hVB2 hlB2
      rw [f_X5_firstThatHolds_L2] at hB2
      refine lv_iload_n hx hb dX5_firstThatHolds_2 rfl (lv_at hlB2 2 rfl) ?_
      refine lv_aload_n hx hb dX5_firstThatHolds_3 rfl (lv_at hlB2 1 rfl) ?_
      refine kget X hVB2 (ci := 10) inlX10 rfl 1 rfl 0 (by decide) mw_674 rfl dX5_firstThatHolds_4 ?_
      refine lv_icmp_ge (tgt := 43) hx hb dX5_firstThatHolds_7 (by decide) (fun c4 => ?_) (fun c4 => ?_)
      · have h5 := itS c4 hB2
        clear hB2 c4
        refine lv_iconst (v := (-1)) hx hb dX5_firstThatHolds_43 (by decide) ?_
        obtain ⟨q7, q8⟩ := tup2_s h5
        clear h5
        exact hret _ () _ _ _ _ q7 rfl (by rw [← q8]; exact hVB2) dX5_firstThatHolds_44
      · have h6 := ieS c4 hB2
        clear hB2 c4
        refine lv_aload_n hx hb dX5_firstThatHolds_10 rfl (lv_at hlB2 0 rfl) ?_
        refine lv_aload_n hx hb dX5_firstThatHolds_11 rfl (lv_at hlB2 1 rfl) ?_
        refine kget X hVB2 (ci := 10) inlX10 rfl 1 rfl 1 (by decide) mw_675 rfl dX5_firstThatHolds_12 ?_
        refine lv_aload_n hx hb dX5_firstThatHolds_15 rfl (lv_at hlB2 1 rfl) ?_
        refine kget X hVB2 (ci := 10) inlX10 rfl 1 rfl 3 (by decide) mw_676 rfl dX5_firstThatHolds_16 ?_
        refine lv_iload_n hx hb dX5_firstThatHolds_19 rfl (lv_at hlB2 2 rfl) ?_
        obtain ⟨hi10, v20_9, e11, h12⟩ := rdI_s h6
        clear h6
        refine kiald X hVB2 3 rfl hi10 e11 dX5_firstThatHolds_20 ?_
        clear hi10 e11
        refine lv_aload_n hx hb dX5_firstThatHolds_21 rfl (lv_at hlB2 1 rfl) ?_
        refine kget X hVB2 (ci := 10) inlX10 rfl 1 rfl 2 (by decide) mw_677 rfl dX5_firstThatHolds_22 ?_
        refine lv_iload_n hx hb dX5_firstThatHolds_25 rfl (lv_at hlB2 2 rfl) ?_
        refine lv_iconst (v := 1) hx hb dX5_firstThatHolds_26 (by decide) ?_
        refine lv_iadd hx hb dX5_firstThatHolds_27 ?_
        obtain ⟨hi14, v28_13, e15, h16⟩ := rdI_s h12
        clear h12
        refine kiald X hVB2 4 rfl hi14 e15 dX5_firstThatHolds_28 ?_
        clear hi14 e15
        obtain ⟨r29_17, o_values29_18, hc19, h20⟩ := cb2_s h16
        clear h16
        refine kgoiE (krunV (rest := []) X hVB2 [0, 2, 5, 6] (c_X5_reckon l E _ a0 a2 a5 a6 n_p1_code s_p1_code s_letters values__3 v20_9 v28_13 r29_17 o_values29_18 hc19) mw_678 kb_X5_reckon (ci := 5) rfl rfl (by decide) rfl rfl hlB2.1 rfl (Nat.le_of_ble_eq_true rfl) dX5_firstThatHolds_29 (by decide)) X hVB2 [0, 2, 5, 6] [1, 3, 4] rfl rfl rfl (by decide) (fun u H locs hV21 => ?_)
        have hV21 : kV E A s.heap H locs [(a0, .inr (5, [.ref a5, .ref a6])), (a1, .inr (10, [.int s_p1_clauses, .ref a2, .ref a4, .ref a3])), (a2, .inl (E.2 0, n_p1_code, .inl s_p1_code)), (a3, .inl (E.2 0, n_p1_middles, .inl s_p1_middles)), (a4, .inl (E.2 0, n_p1_starts, .inl s_p1_starts)), (a5, .inl (E.2 0, 128, .inl s_letters)), (a6, .inl (E.2 0, 32, .inl o_values29_18))] := hV21.sub [3, 0, 4, 1, 2, 5, 6] rfl rfl
        clear hVB2
        refine lv_if_eq (tgt := 37) hx hb dX5_firstThatHolds_32 (by decide) (fun c23 => ?_) (fun c23 => ?_)
        · have h24 := itS c23 h20
          clear h20 c23
          obtain ⟨v37_26, e27, h28⟩ := nmI_s h24
          clear h24
          refine lv_iinc (v := v37_26) (lv' := [(2, .int v37_26), (0, .ref a0), (1, .ref a1)]) hx hb dX5_firstThatHolds_37 hlB2 (k := 2) rfl (by rw [e27]; rfl) (by decide) rfl (fun ls hl29 => ?_)
          clear hlB2 e27
          refine lv_goto (tgt := 2) hx hb dX5_firstThatHolds_40 (by decide) ?_
          exact ih2 v37_26 o_values29_18 _ _ _ h28 hV21 (lv_sub hl29 [1, 2, 0] rfl)
        · have h25 := ieS c23 h20
          clear h20 c23
          refine lv_iload_n hx hb dX5_firstThatHolds_35 rfl (lv_at hlB2 2 rfl) ?_
          obtain ⟨q30, q31⟩ := tup2_s h25
          clear h25
          exact hret _ () _ _ _ _ q30 rfl (by rw [← q31]; exact hV21) dX5_firstThatHolds_36
  exact L2 FU 0 s_values _ _ _ h hV (lv_sub hl1 [1, 2, 0] rfl)
noncomputable def f_X5_worth (n_p1_code : Nat) (n_p1_middles : Nat) (n_p1_starts : Nat) (s_p1_code : Nat → Int32) (s_p1_middles : Nat → Int32) (s_p1_starts : Nat → Int32) (s_letters : Nat → Int32) (s_values : Nat → Int32) (p2 : Int32) : Option (Int32 × (Nat → Int32)) :=
    rdI s_p1_starts n_p1_starts p2 fun v10_1 =>
    rdI s_p1_middles n_p1_middles p2 fun v16_5 =>
    cb2 (f_X5_reckon n_p1_code s_p1_code s_letters s_values v10_1 v16_5) fun r17_9 o_values17_10 =>
    some (r17_9, o_values17_10)
abbrev r_X5_worth : Room := { frames := 2, cells := 0, slots := 0, locals := 50 }
set_option maxHeartbeats 4000000 in
set_option maxRecDepth 100000 in
theorem c_X5_worth (l : Launch) (E : kE) (sz : Nat) (a0 a1 a2 a3 a4 a5 a6 : Nat) (w1_0 : Value) (n_p1_code n_p1_middles n_p1_starts : Nat) (s_p1_code : Nat → Int32) (s_p1_middles : Nat → Int32) (s_p1_starts : Nat → Int32) (s_letters : Nat → Int32) (s_values : Nat → Int32) (p2 : Int32) (r : Int32) (o_values : Nat → Int32) (h : f_X5_worth n_p1_code n_p1_middles n_p1_starts s_p1_code s_p1_middles s_p1_starts s_letters s_values p2 = some (r, o_values)) : kMi l yX5_worth cX5_worth 3 (some .int) r_X5_worth [.ref a0, .ref a1, .int p2] E [(a0, .inr (5, [.ref a5, .ref a6])), (a1, .inr (10, [w1_0, .ref a2, .ref a4, .ref a3])), (a2, .inl (E.2 0, n_p1_code, .inl s_p1_code)), (a3, .inl (E.2 0, n_p1_middles, .inl s_p1_middles)), (a4, .inl (E.2 0, n_p1_starts, .inl s_p1_starts)), (a5, .inl (E.2 0, 128, .inl s_letters)), (a6, .inl (E.2 0, 32, .inl s_values))] sz 0 0 (fun x (_ : Unit) => x = r) (fun _ => [(a0, .inr (5, [.ref a5, .ref a6])), (a1, .inr (10, [w1_0, .ref a2, .ref a4, .ref a3])), (a2, .inl (E.2 0, n_p1_code, .inl s_p1_code)), (a3, .inl (E.2 0, n_p1_middles, .inl s_p1_middles)), (a4, .inl (E.2 0, n_p1_starts, .inl s_p1_starts)), (a5, .inl (E.2 0, 128, .inl s_letters)), (a6, .inl (E.2 0, 32, .inl o_values))]) := by
  refine kmeti rfl (Nat.le_of_ble_eq_true rfl) ?_
  intro p e s m args below meth c ls A Q X hV hret hl
  have X : kC p s m c cX5_worth 3 RX5 args E A := X
  have hx := X.1
  have hb := X.2.1
  have hl : lv_has ls 3 [(0, .ref a0), (1, .ref a1), (2, .int p2)] := hl
  rw [f_X5_worth] at h
  refine lv_aload_n hx hb dX5_worth_0 rfl (lv_at hl 0 rfl) ?_
  refine lv_aload_n hx hb dX5_worth_1 rfl (lv_at hl 1 rfl) ?_
  refine kget X hV (ci := 10) inlX10 rfl 1 rfl 1 (by decide) mw_675 rfl dX5_worth_2 ?_
  refine lv_aload_n hx hb dX5_worth_5 rfl (lv_at hl 1 rfl) ?_
  refine kget X hV (ci := 10) inlX10 rfl 1 rfl 2 (by decide) mw_677 rfl dX5_worth_6 ?_
  refine lv_iload_n hx hb dX5_worth_9 rfl (lv_at hl 2 rfl) ?_
  obtain ⟨hi2, v10_1, e3, h4⟩ := rdI_s h
  clear h
  refine kiald X hV 4 rfl hi2 e3 dX5_worth_10 ?_
  clear hi2 e3
  refine lv_aload_n hx hb dX5_worth_11 rfl (lv_at hl 1 rfl) ?_
  refine kget X hV (ci := 10) inlX10 rfl 1 rfl 3 (by decide) mw_676 rfl dX5_worth_12 ?_
  refine lv_iload_n hx hb dX5_worth_15 rfl (lv_at hl 2 rfl) ?_
  obtain ⟨hi6, v16_5, e7, h8⟩ := rdI_s h4
  clear h4
  refine kiald X hV 3 rfl hi6 e7 dX5_worth_16 ?_
  clear hi6 e7
  obtain ⟨r17_9, o_values17_10, hc11, h12⟩ := cb2_s h8
  clear h8
  refine kgoiE (krunV (rest := []) X hV [0, 2, 5, 6] (c_X5_reckon l E _ a0 a2 a5 a6 n_p1_code s_p1_code s_letters s_values v10_1 v16_5 r17_9 o_values17_10 hc11) mw_678 kb_X5_reckon (ci := 5) rfl rfl (by decide) rfl rfl hl.1 rfl (Nat.le_of_ble_eq_true rfl) dX5_worth_17 (by decide)) X hV [0, 2, 5, 6] [1, 3, 4] rfl rfl rfl (by decide) (fun u H locs hV13 => ?_)
  have hV13 : kV E A s.heap H locs [(a0, .inr (5, [.ref a5, .ref a6])), (a1, .inr (10, [w1_0, .ref a2, .ref a4, .ref a3])), (a2, .inl (E.2 0, n_p1_code, .inl s_p1_code)), (a3, .inl (E.2 0, n_p1_middles, .inl s_p1_middles)), (a4, .inl (E.2 0, n_p1_starts, .inl s_p1_starts)), (a5, .inl (E.2 0, 128, .inl s_letters)), (a6, .inl (E.2 0, 32, .inl o_values17_10))] := hV13.sub [3, 0, 4, 1, 2, 5, 6] rfl rfl
  clear hV
  obtain ⟨q15, q16⟩ := tup2_s h12
  clear h12
  exact hret _ () _ _ _ _ q15 rfl (by rw [← q16]; exact hV13) dX5_worth_20
noncomputable def f_X8_comesOn (s_weekdays : Int32) (p1 : Int32) : Option (Int32) :=
    if ((jshr s_weekdays (jrem p1 7)) &&& 1) = 1 then
    (some (1))
    else
    (some (0))
abbrev r_X8_comesOn : Room := { frames := 0, cells := 0, slots := 0, locals := 0 }
set_option maxHeartbeats 4000000 in
set_option maxRecDepth 100000 in
theorem c_X8_comesOn (l : Launch) (E : kE) (sz : Nat) (a0 : Nat) (w0_0 w0_1 w0_2 w0_3 w0_4 w0_6 : Value) (s_weekdays : Int32) (p1 : Int32) (r : Int32) (h : f_X8_comesOn s_weekdays p1 = some (r)) : kMi l yX8_comesOn cX8_comesOn 2 (some .boolean) r_X8_comesOn [.ref a0, .int p1] E [(a0, .inr (8, [w0_0, w0_1, w0_2, w0_3, w0_4, .int s_weekdays, w0_6]))] sz 0 0 (fun x (_ : Unit) => x = r) (fun _ => [(a0, .inr (8, [w0_0, w0_1, w0_2, w0_3, w0_4, .int s_weekdays, w0_6]))]) := by
  refine kmeti rfl (Nat.le_of_ble_eq_true rfl) ?_
  intro p e s m args below meth c ls A Q X hV hret hl
  have X : kC p s m c cX8_comesOn 2 RX8 args E A := X
  have hx := X.1
  have hb := X.2.1
  have hl : lv_has ls 2 [(0, .ref a0), (1, .int p1)] := hl
  rw [f_X8_comesOn] at h
  refine lv_aload_n hx hb dX8_comesOn_0 rfl (lv_at hl 0 rfl) ?_
  refine kget X hV (ci := 8) inlX8 rfl 0 rfl 5 (by decide) mw_207 rfl dX8_comesOn_1 ?_
  refine lv_iload_n hx hb dX8_comesOn_4 rfl (lv_at hl 1 rfl) ?_
  refine lv_bipush (v := 7) hx hb dX8_comesOn_5 (by decide) ?_
  refine lv_irem hx hb dX8_comesOn_7 (by decide) ?_
  refine lv_ishr hx hb dX8_comesOn_8 ?_
  refine lv_iconst (v := 1) hx hb dX8_comesOn_9 (by decide) ?_
  refine lv_iand hx hb dX8_comesOn_10 ?_
  refine lv_iconst (v := 1) hx hb dX8_comesOn_11 (by decide) ?_
  refine lv_icmp_ne (tgt := 19) hx hb dX8_comesOn_12 (by decide) (fun c1 => ?_) (fun c1 => ?_)
  · have h2 := ieS c1 h
    clear h c1
    refine lv_iconst (v := 0) hx hb dX8_comesOn_19 (by decide) ?_
    have q4 := tup1_s h2
    clear h2
    exact hret _ () _ _ _ _ q4 rfl hV dX8_comesOn_20
  · have h3 := itS c1 h
    clear h c1
    refine lv_iconst (v := 1) hx hb dX8_comesOn_15 (by decide) ?_
    refine lv_goto (tgt := 20) hx hb dX8_comesOn_16 (by decide) ?_
    have q5 := tup1_s h3
    clear h3
    exact hret _ () _ _ _ _ q5 rfl hV dX8_comesOn_20
noncomputable def f_X11_isDay (p1 : Int32) : Option (Int32) :=
    cb1 (f_X11_isWithin p1 0 399) fun r5_1 =>
    bo r5_1 <|
    some (r5_1)
abbrev r_X11_isDay : Room := { frames := 1, cells := 0, slots := 0, locals := 22 }
set_option maxHeartbeats 4000000 in
set_option maxRecDepth 100000 in
theorem c_X11_isDay (l : Launch) (E : kE) (sz : Nat) (p1 : Int32) (r : Int32) (h : f_X11_isDay p1 = some (r)) : kMi l yX11_isDay cX11_isDay 1 (some .boolean) r_X11_isDay [.int p1] E [] sz 0 0 (fun x (_ : Unit) => x = r) (fun _ => []) := by
  refine kmeti rfl (Nat.le_of_ble_eq_true rfl) ?_
  intro p e s m args below meth c ls A Q X hV hret hl
  have X : kC p s m c cX11_isDay 1 RX11 args E A := X
  have hx := X.1
  have hb := X.2.1
  have hl : lv_has ls 1 [(0, .int p1)] := hl
  rw [f_X11_isDay] at h
  refine lv_iload_n hx hb dX11_isDay_0 rfl (lv_at hl 0 rfl) ?_
  refine lv_iconst (v := 0) hx hb dX11_isDay_1 (by decide) ?_
  refine lv_sipush (v := 399) hx hb dX11_isDay_2 (by decide) ?_
  obtain ⟨r5_1, hc2, h3⟩ := cb1_s h
  clear h
  refine kgoiE (krunS (rest := []) X hV [] (c_X11_isWithin l E _ p1 0 399 r5_1 hc2) mw_187 kb_X11_isWithin (by decide) rfl rfl hl.1 rfl (Nat.le_of_ble_eq_true rfl) dX11_isDay_5 (by decide)) X hV [] [] rfl rfl rfl (by decide) (fun u H locs hV4 => ?_)
  have hV4 : kV E A s.heap H locs [] := hV4.sub [] rfl rfl
  clear hV
  obtain ⟨hb6, h7⟩ := bo_s h3
  clear h3
  have q8 := tup1_s h7
  clear h7
  exact hret _ () _ _ _ _ q8 hb6 hV4 dX11_isDay_8
noncomputable def f_X11_isMinute (p1 : Int32) : Option (Int32) :=
    cb1 (f_X11_isWithin p1 0 1439) fun r5_1 =>
    bo r5_1 <|
    some (r5_1)
abbrev r_X11_isMinute : Room := { frames := 1, cells := 0, slots := 0, locals := 22 }
set_option maxHeartbeats 4000000 in
set_option maxRecDepth 100000 in
theorem c_X11_isMinute (l : Launch) (E : kE) (sz : Nat) (p1 : Int32) (r : Int32) (h : f_X11_isMinute p1 = some (r)) : kMi l yX11_isMinute cX11_isMinute 1 (some .boolean) r_X11_isMinute [.int p1] E [] sz 0 0 (fun x (_ : Unit) => x = r) (fun _ => []) := by
  refine kmeti rfl (Nat.le_of_ble_eq_true rfl) ?_
  intro p e s m args below meth c ls A Q X hV hret hl
  have X : kC p s m c cX11_isMinute 1 RX11 args E A := X
  have hx := X.1
  have hb := X.2.1
  have hl : lv_has ls 1 [(0, .int p1)] := hl
  rw [f_X11_isMinute] at h
  refine lv_iload_n hx hb dX11_isMinute_0 rfl (lv_at hl 0 rfl) ?_
  refine lv_iconst (v := 0) hx hb dX11_isMinute_1 (by decide) ?_
  refine lv_sipush (v := 1439) hx hb dX11_isMinute_2 (by decide) ?_
  obtain ⟨r5_1, hc2, h3⟩ := cb1_s h
  clear h
  refine kgoiE (krunS (rest := []) X hV [] (c_X11_isWithin l E _ p1 0 1439 r5_1 hc2) mw_187 kb_X11_isWithin (by decide) rfl rfl hl.1 rfl (Nat.le_of_ble_eq_true rfl) dX11_isMinute_5 (by decide)) X hV [] [] rfl rfl rfl (by decide) (fun u H locs hV4 => ?_)
  have hV4 : kV E A s.heap H locs [] := hV4.sub [] rfl rfl
  clear hV
  obtain ⟨hb6, h7⟩ := bo_s h3
  clear h3
  have q8 := tup1_s h7
  clear h7
  exact hret _ () _ _ _ _ q8 hb6 hV4 dX11_isMinute_8
noncomputable def f_X11_isShape (p1 : Int32) : Option (Int32) :=
    cb1 (f_X11_isWithin p1 0 3) fun r3_1 =>
    bo r3_1 <|
    some (r3_1)
abbrev r_X11_isShape : Room := { frames := 1, cells := 0, slots := 0, locals := 22 }
set_option maxHeartbeats 4000000 in
set_option maxRecDepth 100000 in
theorem c_X11_isShape (l : Launch) (E : kE) (sz : Nat) (p1 : Int32) (r : Int32) (h : f_X11_isShape p1 = some (r)) : kMi l yX11_isShape cX11_isShape 1 (some .boolean) r_X11_isShape [.int p1] E [] sz 0 0 (fun x (_ : Unit) => x = r) (fun _ => []) := by
  refine kmeti rfl (Nat.le_of_ble_eq_true rfl) ?_
  intro p e s m args below meth c ls A Q X hV hret hl
  have X : kC p s m c cX11_isShape 1 RX11 args E A := X
  have hx := X.1
  have hb := X.2.1
  have hl : lv_has ls 1 [(0, .int p1)] := hl
  rw [f_X11_isShape] at h
  refine lv_iload_n hx hb dX11_isShape_0 rfl (lv_at hl 0 rfl) ?_
  refine lv_iconst (v := 0) hx hb dX11_isShape_1 (by decide) ?_
  refine lv_iconst (v := 3) hx hb dX11_isShape_2 (by decide) ?_
  obtain ⟨r3_1, hc2, h3⟩ := cb1_s h
  clear h
  refine kgoiE (krunS (rest := []) X hV [] (c_X11_isWithin l E _ p1 0 3 r3_1 hc2) mw_187 kb_X11_isWithin (by decide) rfl rfl hl.1 rfl (Nat.le_of_ble_eq_true rfl) dX11_isShape_3 (by decide)) X hV [] [] rfl rfl rfl (by decide) (fun u H locs hV4 => ?_)
  have hV4 : kV E A s.heap H locs [] := hV4.sub [] rfl rfl
  clear hV
  obtain ⟨hb6, h7⟩ := bo_s h3
  clear h3
  have q8 := tup1_s h7
  clear h7
  exact hret _ () _ _ _ _ q8 hb6 hV4 dX11_isShape_6
noncomputable def f_X11_isReader (p1 : Int32) : Option (Int32) :=
    cb1 (f_X11_isWithin p1 0 3) fun r3_1 =>
    bo r3_1 <|
    some (r3_1)
abbrev r_X11_isReader : Room := { frames := 1, cells := 0, slots := 0, locals := 22 }
set_option maxHeartbeats 4000000 in
set_option maxRecDepth 100000 in
theorem c_X11_isReader (l : Launch) (E : kE) (sz : Nat) (p1 : Int32) (r : Int32) (h : f_X11_isReader p1 = some (r)) : kMi l yX11_isReader cX11_isReader 1 (some .boolean) r_X11_isReader [.int p1] E [] sz 0 0 (fun x (_ : Unit) => x = r) (fun _ => []) := by
  refine kmeti rfl (Nat.le_of_ble_eq_true rfl) ?_
  intro p e s m args below meth c ls A Q X hV hret hl
  have X : kC p s m c cX11_isReader 1 RX11 args E A := X
  have hx := X.1
  have hb := X.2.1
  have hl : lv_has ls 1 [(0, .int p1)] := hl
  rw [f_X11_isReader] at h
  refine lv_iload_n hx hb dX11_isReader_0 rfl (lv_at hl 0 rfl) ?_
  refine lv_iconst (v := 0) hx hb dX11_isReader_1 (by decide) ?_
  refine lv_iconst (v := 3) hx hb dX11_isReader_2 (by decide) ?_
  obtain ⟨r3_1, hc2, h3⟩ := cb1_s h
  clear h
  refine kgoiE (krunS (rest := []) X hV [] (c_X11_isWithin l E _ p1 0 3 r3_1 hc2) mw_187 kb_X11_isWithin (by decide) rfl rfl hl.1 rfl (Nat.le_of_ble_eq_true rfl) dX11_isReader_3 (by decide)) X hV [] [] rfl rfl rfl (by decide) (fun u H locs hV4 => ?_)
  have hV4 : kV E A s.heap H locs [] := hV4.sub [] rfl rfl
  clear hV
  obtain ⟨hb6, h7⟩ := bo_s h3
  clear h3
  have q8 := tup1_s h7
  clear h7
  exact hret _ () _ _ _ _ q8 hb6 hV4 dX11_isReader_6
noncomputable def f_X11_isStory (p1 : Int32) : Option (Int32) :=
    cb1 (f_X11_isWithin p1 0 5) fun r3_1 =>
    bo r3_1 <|
    some (r3_1)
abbrev r_X11_isStory : Room := { frames := 1, cells := 0, slots := 0, locals := 22 }
set_option maxHeartbeats 4000000 in
set_option maxRecDepth 100000 in
theorem c_X11_isStory (l : Launch) (E : kE) (sz : Nat) (p1 : Int32) (r : Int32) (h : f_X11_isStory p1 = some (r)) : kMi l yX11_isStory cX11_isStory 1 (some .boolean) r_X11_isStory [.int p1] E [] sz 0 0 (fun x (_ : Unit) => x = r) (fun _ => []) := by
  refine kmeti rfl (Nat.le_of_ble_eq_true rfl) ?_
  intro p e s m args below meth c ls A Q X hV hret hl
  have X : kC p s m c cX11_isStory 1 RX11 args E A := X
  have hx := X.1
  have hb := X.2.1
  have hl : lv_has ls 1 [(0, .int p1)] := hl
  rw [f_X11_isStory] at h
  refine lv_iload_n hx hb dX11_isStory_0 rfl (lv_at hl 0 rfl) ?_
  refine lv_iconst (v := 0) hx hb dX11_isStory_1 (by decide) ?_
  refine lv_iconst (v := 5) hx hb dX11_isStory_2 (by decide) ?_
  obtain ⟨r3_1, hc2, h3⟩ := cb1_s h
  clear h
  refine kgoiE (krunS (rest := []) X hV [] (c_X11_isWithin l E _ p1 0 5 r3_1 hc2) mw_187 kb_X11_isWithin (by decide) rfl rfl hl.1 rfl (Nat.le_of_ble_eq_true rfl) dX11_isStory_3 (by decide)) X hV [] [] rfl rfl rfl (by decide) (fun u H locs hV4 => ?_)
  have hV4 : kV E A s.heap H locs [] := hV4.sub [] rfl rfl
  clear hV
  obtain ⟨hb6, h7⟩ := bo_s h3
  clear h3
  have q8 := tup1_s h7
  clear h7
  exact hret _ () _ _ _ _ q8 hb6 hV4 dX11_isStory_6
noncomputable def f_X11_isBeat (p1 : Int32) : Option (Int32) :=
    cb1 (f_X11_isWithin p1 1 1000000) fun r5_1 =>
    bo r5_1 <|
    some (r5_1)
abbrev r_X11_isBeat : Room := { frames := 1, cells := 0, slots := 0, locals := 22 }
set_option maxHeartbeats 4000000 in
set_option maxRecDepth 100000 in
theorem c_X11_isBeat (l : Launch) (E : kE) (sz : Nat) (p1 : Int32) (r : Int32) (h : f_X11_isBeat p1 = some (r)) : kMi l yX11_isBeat cX11_isBeat 1 (some .boolean) r_X11_isBeat [.int p1] E [] sz 0 0 (fun x (_ : Unit) => x = r) (fun _ => []) := by
  refine kmeti rfl (Nat.le_of_ble_eq_true rfl) ?_
  intro p e s m args below meth c ls A Q X hV hret hl
  have X : kC p s m c cX11_isBeat 1 RX11 args E A := X
  have hx := X.1
  have hb := X.2.1
  have hl : lv_has ls 1 [(0, .int p1)] := hl
  rw [f_X11_isBeat] at h
  refine lv_iload_n hx hb dX11_isBeat_0 rfl (lv_at hl 0 rfl) ?_
  refine lv_iconst (v := 1) hx hb dX11_isBeat_1 (by decide) ?_
  refine lv_ldcw (v := 1000000) hx hb X.2.2.2.1 (X.2.2.2.2.1 _ mw_1001) dX11_isBeat_2 ?_
  obtain ⟨r5_1, hc2, h3⟩ := cb1_s h
  clear h
  refine kgoiE (krunS (rest := []) X hV [] (c_X11_isWithin l E _ p1 1 1000000 r5_1 hc2) mw_187 kb_X11_isWithin (by decide) rfl rfl hl.1 rfl (Nat.le_of_ble_eq_true rfl) dX11_isBeat_5 (by decide)) X hV [] [] rfl rfl rfl (by decide) (fun u H locs hV4 => ?_)
  have hV4 : kV E A s.heap H locs [] := hV4.sub [] rfl rfl
  clear hV
  obtain ⟨hb6, h7⟩ := bo_s h3
  clear h3
  have q8 := tup1_s h7
  clear h7
  exact hret _ () _ _ _ _ q8 hb6 hV4 dX11_isBeat_8
noncomputable def f_X11_isNightError (p1 : Int32) : Option (Int32) :=
    cb1 (f_X11_isWithin p1 0 100000) fun r4_1 =>
    bo r4_1 <|
    some (r4_1)
abbrev r_X11_isNightError : Room := { frames := 1, cells := 0, slots := 0, locals := 22 }
set_option maxHeartbeats 4000000 in
set_option maxRecDepth 100000 in
theorem c_X11_isNightError (l : Launch) (E : kE) (sz : Nat) (p1 : Int32) (r : Int32) (h : f_X11_isNightError p1 = some (r)) : kMi l yX11_isNightError cX11_isNightError 1 (some .boolean) r_X11_isNightError [.int p1] E [] sz 0 0 (fun x (_ : Unit) => x = r) (fun _ => []) := by
  refine kmeti rfl (Nat.le_of_ble_eq_true rfl) ?_
  intro p e s m args below meth c ls A Q X hV hret hl
  have X : kC p s m c cX11_isNightError 1 RX11 args E A := X
  have hx := X.1
  have hb := X.2.1
  have hl : lv_has ls 1 [(0, .int p1)] := hl
  rw [f_X11_isNightError] at h
  refine lv_iload_n hx hb dX11_isNightError_0 rfl (lv_at hl 0 rfl) ?_
  refine lv_iconst (v := 0) hx hb dX11_isNightError_1 (by decide) ?_
  refine lv_ldc (v := 100000) hx hb X.2.2.2.1 (X.2.2.2.2.1 _ mw_1097) dX11_isNightError_2 ?_
  obtain ⟨r4_1, hc2, h3⟩ := cb1_s h
  clear h
  refine kgoiE (krunS (rest := []) X hV [] (c_X11_isWithin l E _ p1 0 100000 r4_1 hc2) mw_187 kb_X11_isWithin (by decide) rfl rfl hl.1 rfl (Nat.le_of_ble_eq_true rfl) dX11_isNightError_4 (by decide)) X hV [] [] rfl rfl rfl (by decide) (fun u H locs hV4 => ?_)
  have hV4 : kV E A s.heap H locs [] := hV4.sub [] rfl rfl
  clear hV
  obtain ⟨hb6, h7⟩ := bo_s h3
  clear h3
  have q8 := tup1_s h7
  clear h7
  exact hret _ () _ _ _ _ q8 hb6 hV4 dX11_isNightError_7
noncomputable def f_X11_isLook (p1 : Int32) (p2 : Int32) (p3 : Int32) : Option (Int32) :=
    cb1 (f_X11_isWithin p1 0 20) fun r4_1 =>
    if r4_1 = 0 then
    (some (0))
    else
    (cb1 (f_X11_isWithin p2 0 20) fun r14_10 =>
      if r14_10 = 0 then
      (some (0))
      else
      (cb1 (f_X11_isWithin p3 0 (jmin p1 p2)) fun r27_19 =>
        if r27_19 = 0 then
        (some (0))
        else
        (some (1))))
abbrev r_X11_isLook : Room := { frames := 1, cells := 0, slots := 0, locals := 23 }
set_option maxHeartbeats 4000000 in
set_option maxRecDepth 100000 in
theorem c_X11_isLook (l : Launch) (E : kE) (sz : Nat) (p1 : Int32) (p2 : Int32) (p3 : Int32) (r : Int32) (h : f_X11_isLook p1 p2 p3 = some (r)) : kMi l yX11_isLook cX11_isLook 3 (some .boolean) r_X11_isLook [.int p1, .int p2, .int p3] E [] sz 0 0 (fun x (_ : Unit) => x = r) (fun _ => []) := by
  refine kmeti rfl (Nat.le_of_ble_eq_true rfl) ?_
  intro p e s m args below meth c ls A Q X hV hret hl
  have X : kC p s m c cX11_isLook 3 RX11 args E A := X
  have hx := X.1
  have hb := X.2.1
  have hl : lv_has ls 3 [(0, .int p1), (1, .int p2), (2, .int p3)] := hl
  rw [f_X11_isLook] at h
  refine lv_iload_n hx hb dX11_isLook_0 rfl (lv_at hl 0 rfl) ?_
  refine lv_iconst (v := 0) hx hb dX11_isLook_1 (by decide) ?_
  refine lv_bipush (v := 20) hx hb dX11_isLook_2 (by decide) ?_
  obtain ⟨r4_1, hc2, h3⟩ := cb1_s h
  clear h
  refine kgoiE (krunS (rest := []) X hV [] (c_X11_isWithin l E _ p1 0 20 r4_1 hc2) mw_187 kb_X11_isWithin (by decide) rfl rfl hl.1 rfl (Nat.le_of_ble_eq_true rfl) dX11_isLook_4 (by decide)) X hV [] [] rfl rfl rfl (by decide) (fun u H locs hV4 => ?_)
  have hV4 : kV E A s.heap H locs [] := hV4.sub [] rfl rfl
  clear hV
  refine lv_if_eq (tgt := 37) hx hb dX11_isLook_7 (by decide) (fun c6 => ?_) (fun c6 => ?_)
  · have h7 := itS c6 h3
    clear h3 c6
    refine lv_iconst (v := 0) hx hb dX11_isLook_37 (by decide) ?_
    have q9 := tup1_s h7
    clear h7
    exact hret _ () _ _ _ _ q9 rfl hV4 dX11_isLook_38
  · have h8 := ieS c6 h3
    clear h3 c6
    refine lv_iload_n hx hb dX11_isLook_10 rfl (lv_at hl 1 rfl) ?_
    refine lv_iconst (v := 0) hx hb dX11_isLook_11 (by decide) ?_
    refine lv_bipush (v := 20) hx hb dX11_isLook_12 (by decide) ?_
    obtain ⟨r14_10, hc11, h12⟩ := cb1_s h8
    clear h8
    refine kgoiE (krunS (rest := []) X hV4 [] (c_X11_isWithin l E _ p2 0 20 r14_10 hc11) mw_187 kb_X11_isWithin (by decide) rfl rfl hl.1 rfl (Nat.le_of_ble_eq_true rfl) dX11_isLook_14 (by decide)) X hV4 [] [] rfl rfl rfl (by decide) (fun u H locs hV13 => ?_)
    have hV13 : kV E A s.heap H locs [] := hV13.sub [] rfl rfl
    clear hV4
    refine lv_if_eq (tgt := 37) hx hb dX11_isLook_17 (by decide) (fun c15 => ?_) (fun c15 => ?_)
    · have h16 := itS c15 h12
      clear h12 c15
      refine lv_iconst (v := 0) hx hb dX11_isLook_37 (by decide) ?_
      have q18 := tup1_s h16
      clear h16
      exact hret _ () _ _ _ _ q18 rfl hV13 dX11_isLook_38
    · have h17 := ieS c15 h12
      clear h12 c15
      refine lv_iload_n hx hb dX11_isLook_20 rfl (lv_at hl 2 rfl) ?_
      refine lv_iconst (v := 0) hx hb dX11_isLook_21 (by decide) ?_
      refine lv_iload_n hx hb dX11_isLook_22 rfl (lv_at hl 0 rfl) ?_
      refine lv_iload_n hx hb dX11_isLook_23 rfl (lv_at hl 1 rfl) ?_
      refine va_mmin hx hb (X.2.2.1.trans hl.1.symm) X.2.2.2.1 (X.2.2.2.2.1 _ mw_660) (X.2.2.2.2.1 _ mw_280) (X.2.2.2.2.1 _ mw_281) (X.2.2.2.2.1 _ mw_282) (by decide) (Nat.le_of_ble_eq_true rfl) (by decide) (by decide) dX11_isLook_24 ?_
      obtain ⟨r27_19, hc20, h21⟩ := cb1_s h17
      clear h17
      refine kgoiE (krunS (rest := []) X hV13 [] (c_X11_isWithin l E _ p3 0 (jmin p1 p2) r27_19 hc20) mw_187 kb_X11_isWithin (by decide) rfl rfl hl.1 rfl (Nat.le_of_ble_eq_true rfl) dX11_isLook_27 (by decide)) X hV13 [] [] rfl rfl rfl (by decide) (fun u H locs hV22 => ?_)
      have hV22 : kV E A s.heap H locs [] := hV22.sub [] rfl rfl
      clear hV13
      refine lv_if_eq (tgt := 37) hx hb dX11_isLook_30 (by decide) (fun c24 => ?_) (fun c24 => ?_)
      · have h25 := itS c24 h21
        clear h21 c24
        refine lv_iconst (v := 0) hx hb dX11_isLook_37 (by decide) ?_
        have q27 := tup1_s h25
        clear h25
        exact hret _ () _ _ _ _ q27 rfl hV22 dX11_isLook_38
      · have h26 := ieS c24 h21
        clear h21 c24
        refine lv_iconst (v := 1) hx hb dX11_isLook_33 (by decide) ?_
        refine lv_goto (tgt := 38) hx hb dX11_isLook_34 (by decide) ?_
        have q28 := tup1_s h26
        clear h26
        exact hret _ () _ _ _ _ q28 rfl hV22 dX11_isLook_38
noncomputable def f_X11_starMinute (p1 : Int32) (p2 : Int32) : Option (Int32) :=
    some ((jrem (p2 + (4 * p1)) 1440))
abbrev r_X11_starMinute : Room := { frames := 0, cells := 0, slots := 0, locals := 0 }
set_option maxHeartbeats 4000000 in
set_option maxRecDepth 100000 in
theorem c_X11_starMinute (l : Launch) (E : kE) (sz : Nat) (p1 : Int32) (p2 : Int32) (r : Int32) (h : f_X11_starMinute p1 p2 = some (r)) : kMi l yX11_starMinute cX11_starMinute 2 (some .int) r_X11_starMinute [.int p1, .int p2] E [] sz 0 0 (fun x (_ : Unit) => x = r) (fun _ => []) := by
  refine kmeti rfl (Nat.le_of_ble_eq_true rfl) ?_
  intro p e s m args below meth c ls A Q X hV hret hl
  have X : kC p s m c cX11_starMinute 2 RX11 args E A := X
  have hx := X.1
  have hb := X.2.1
  have hl : lv_has ls 2 [(0, .int p1), (1, .int p2)] := hl
  rw [f_X11_starMinute] at h
  refine lv_iload_n hx hb dX11_starMinute_0 rfl (lv_at hl 1 rfl) ?_
  refine lv_iconst (v := 4) hx hb dX11_starMinute_1 (by decide) ?_
  refine lv_iload_n hx hb dX11_starMinute_2 rfl (lv_at hl 0 rfl) ?_
  refine lv_imul hx hb dX11_starMinute_3 ?_
  refine lv_iadd hx hb dX11_starMinute_4 ?_
  refine lv_sipush (v := 1440) hx hb dX11_starMinute_5 (by decide) ?_
  refine lv_irem hx hb dX11_starMinute_8 (by decide) ?_
  have q1 := tup1_s h
  clear h
  exact hret _ () _ _ _ _ q1 rfl hV dX11_starMinute_9
noncomputable def f_X11_minutesApart (p1 : Int32) (p2 : Int32) : Option (Int32) :=
    nmI (jabs (p1 - p2)) fun v6_1 =>
    some ((jmin v6_1 (1440 - v6_1)))
abbrev r_X11_minutesApart : Room := { frames := 1, cells := 0, slots := 0, locals := 23 }
set_option maxHeartbeats 4000000 in
set_option maxRecDepth 100000 in
theorem c_X11_minutesApart (l : Launch) (E : kE) (sz : Nat) (p1 : Int32) (p2 : Int32) (r : Int32) (h : f_X11_minutesApart p1 p2 = some (r)) : kMi l yX11_minutesApart cX11_minutesApart 3 (some .int) r_X11_minutesApart [.int p1, .int p2] E [] sz 0 0 (fun x (_ : Unit) => x = r) (fun _ => []) := by
  refine kmeti rfl (Nat.le_of_ble_eq_true rfl) ?_
  intro p e s m args below meth c ls A Q X hV hret hl
  have X : kC p s m c cX11_minutesApart 3 RX11 args E A := X
  have hx := X.1
  have hb := X.2.1
  have hl : lv_has ls 3 [(0, .int p1), (1, .int p2)] := hl
  rw [f_X11_minutesApart] at h
  refine lv_iload_n hx hb dX11_minutesApart_0 rfl (lv_at hl 0 rfl) ?_
  refine lv_iload_n hx hb dX11_minutesApart_1 rfl (lv_at hl 1 rfl) ?_
  refine lv_isub hx hb dX11_minutesApart_2 ?_
  refine va_mabs hx hb (X.2.2.1.trans hl.1.symm) X.2.2.2.1 (X.2.2.2.2.1 _ mw_657) (X.2.2.2.2.1 _ mw_658) (X.2.2.2.2.1 _ mw_281) (X.2.2.2.2.1 _ mw_659) (by decide) (Nat.le_of_ble_eq_true rfl) (by decide) (by decide) dX11_minutesApart_3 ?_
  obtain ⟨v6_1, e2, h3⟩ := nmI_s h
  clear h
  refine ktopi e2 ?_
  clear e2
  refine lv_istore_n (lv' := [(2, .int v6_1), (0, .int p1), (1, .int p2)]) hx hb dX11_minutesApart_6 rfl hl (by decide) rfl (fun ls hl4 => ?_)
  clear hl
  refine lv_iload_n hx hb dX11_minutesApart_7 rfl (lv_at hl4 0 rfl) ?_
  refine lv_sipush (v := 1440) hx hb dX11_minutesApart_8 (by decide) ?_
  refine lv_iload_n hx hb dX11_minutesApart_11 rfl (lv_at hl4 0 rfl) ?_
  refine lv_isub hx hb dX11_minutesApart_12 ?_
  refine va_mmin hx hb (X.2.2.1.trans hl4.1.symm) X.2.2.2.1 (X.2.2.2.2.1 _ mw_660) (X.2.2.2.2.1 _ mw_280) (X.2.2.2.2.1 _ mw_281) (X.2.2.2.2.1 _ mw_282) (by decide) (Nat.le_of_ble_eq_true rfl) (by decide) (by decide) dX11_minutesApart_13 ?_
  have q5 := tup1_s h3
  clear h3
  exact hret _ () _ _ _ _ q5 rfl hV dX11_minutesApart_16
noncomputable def f_X11_lieOnArcFrom_J31 (p5 : Int32) (x5_2 : Int32) (K3 : Int32 → Option (Int32)) (t0_15 : Int32) : Option (Int32) :=
    if t0_15 ≤ p5 then
    (nmI (x5_2 + 1) fun v38_19 =>
      K3 v38_19)
    else
    (some (0))
noncomputable def f_X11_lieOnArcFrom_L3 (n_p2 : Nat) (s_p2 : Nat → Int32) (p1 : Int32) (p3 : Int32) (p4 : Int32) (p5 : Int32)  : Nat → Int32 → Option (Int32)
  | 0, _ => none
  | n3 + 1, x5_2 =>
    if p3 ≤ x5_2 then
    (some (1))
    else
    (rdI s_p2 n_p2 x5_2 fun v12_7 =>
      nmI (v12_7 - p1) fun v15_11 =>
      if 0 ≤ v15_11 then
      ((f_X11_lieOnArcFrom_J31 p5 x5_2 (f_X11_lieOnArcFrom_L3 n_p2 s_p2 p1 p3 p4 p5  n3)) v15_11)
      else
      ((f_X11_lieOnArcFrom_J31 p5 x5_2 (f_X11_lieOnArcFrom_L3 n_p2 s_p2 p1 p3 p4 p5  n3)) (v15_11 + p4)))
noncomputable def f_X11_lieOnArcFrom (n_p2 : Nat) (s_p2 : Nat → Int32) (p1 : Int32) (p3 : Int32) (p4 : Int32) (p5 : Int32) : Option (Int32) :=
    (f_X11_lieOnArcFrom_L3 n_p2 s_p2 p1 p3 p4 p5  FU) 0
abbrev r_X11_lieOnArcFrom : Room := { frames := 0, cells := 0, slots := 0, locals := 0 }
set_option maxHeartbeats 4000000 in
set_option maxRecDepth 100000 in
theorem c_X11_lieOnArcFrom (l : Launch) (E : kE) (sz : Nat) (a0 : Nat) (n_p2 : Nat) (s_p2 : Nat → Int32) (p1 : Int32) (p3 : Int32) (p4 : Int32) (p5 : Int32) (r : Int32) (h : f_X11_lieOnArcFrom n_p2 s_p2 p1 p3 p4 p5 = some (r)) : kMi l yX11_lieOnArcFrom cX11_lieOnArcFrom 7 (some .boolean) r_X11_lieOnArcFrom [.int p1, .ref a0, .int p3, .int p4, .int p5] E [(a0, .inl (E.2 0, n_p2, .inl s_p2))] sz 0 0 (fun x (_ : Unit) => x = r) (fun _ => [(a0, .inl (E.2 0, n_p2, .inl s_p2))]) := by
  refine kmeti rfl (Nat.le_of_ble_eq_true rfl) ?_
  intro p e s m args below meth c ls A Q X hV hret hl
  have X : kC p s m c cX11_lieOnArcFrom 7 RX11 args E A := X
  have hx := X.1
  have hb := X.2.1
  have hl : lv_has ls 7 [(0, .int p1), (1, .ref a0), (2, .int p3), (3, .int p4), (4, .int p5)] := hl
  rw [f_X11_lieOnArcFrom] at h
  refine lv_iconst (v := 0) hx hb dX11_lieOnArcFrom_0 (by decide) ?_
  refine lv_istore (lv' := [(5, .int 0), (0, .int p1), (1, .ref a0), (2, .int p3), (3, .int p4), (4, .int p5)]) hx hb dX11_lieOnArcFrom_1 hl (by decide) rfl (fun ls hl1 => ?_)
  clear hl
  have L3 : ∀ (n3 : Nat) (x5_2 : Int32) (H : Heap) (locs : List Loc) (ls : Array Slot), (f_X11_lieOnArcFrom_L3 n_p2 s_p2 p1 p3 p4 p5  n3) x5_2 = some (r) → kV E A s.heap H locs [(a0, .inl (E.2 0, n_p2, .inl s_p2))] → lv_has ls 7 [(0, .int p1), (1, .ref a0), (2, .int p3), (3, .int p4), (4, .int p5), (5, .int x5_2)] → W p l e r_X11_lieOnArcFrom s m args below meth c H locs 0 0 Q (F0 m 3 ls []) := by
    intro n3
    induction n3 with
    | zero =>
      intro x5_2 H locs ls hB3 hVB3 hlB3
      rw [f_X11_lieOnArcFrom_L3] at hB3
      exact nomatch hB3
    | succ n3 ih3 =>
      intro x5_2 H locs ls hB3 hVB3 hlB3
      rw [f_X11_lieOnArcFrom_L3] at hB3
      refine lv_iload hx hb dX11_lieOnArcFrom_3 (lv_at hlB3 5 rfl) ?_
      refine lv_iload_n hx hb dX11_lieOnArcFrom_5 rfl (lv_at hlB3 2 rfl) ?_
      refine lv_icmp_ge (tgt := 44) hx hb dX11_lieOnArcFrom_6 (by decide) (fun c3 => ?_) (fun c3 => ?_)
      · have h4 := itS c3 hB3
        clear hB3 c3
        refine lv_iconst (v := 1) hx hb dX11_lieOnArcFrom_44 (by decide) ?_
        have q6 := tup1_s h4
        clear h4
        exact hret _ () _ _ _ _ q6 rfl hVB3 dX11_lieOnArcFrom_45
      · have h5 := ieS c3 hB3
        clear hB3 c3
        refine lv_aload_n hx hb dX11_lieOnArcFrom_9 rfl (lv_at hlB3 1 rfl) ?_
        refine lv_iload hx hb dX11_lieOnArcFrom_10 (lv_at hlB3 5 rfl) ?_
        obtain ⟨hi8, v12_7, e9, h10⟩ := rdI_s h5
        clear h5
        refine kiald X hVB3 0 rfl hi8 e9 dX11_lieOnArcFrom_12 ?_
        clear hi8 e9
        refine lv_iload_n hx hb dX11_lieOnArcFrom_13 rfl (lv_at hlB3 0 rfl) ?_
        refine lv_isub hx hb dX11_lieOnArcFrom_14 ?_
        obtain ⟨v15_11, e12, h13⟩ := nmI_s h10
        clear h10
        refine ktopi e12 ?_
        clear e12
        refine lv_istore (lv' := [(6, .int v15_11), (0, .int p1), (1, .ref a0), (2, .int p3), (3, .int p4), (4, .int p5), (5, .int x5_2)]) hx hb dX11_lieOnArcFrom_15 hlB3 (by decide) rfl (fun ls hl14 => ?_)
        clear hlB3
        refine lv_iload hx hb dX11_lieOnArcFrom_17 (lv_at hl14 0 rfl) ?_
        have J31 : ∀ (t0_15 : Int32) (H : Heap) (locs : List Loc) (ls : Array Slot), (f_X11_lieOnArcFrom_J31 p5 x5_2 (f_X11_lieOnArcFrom_L3 n_p2 s_p2 p1 p3 p4 p5  n3)) t0_15 = some (r) → kV E A s.heap H locs [(a0, .inl (E.2 0, n_p2, .inl s_p2))] → lv_has ls 7 [(0, .int p1), (1, .ref a0), (2, .int p3), (3, .int p4), (4, .int p5), (5, .int x5_2)] → W p l e r_X11_lieOnArcFrom s m args below meth c H locs 0 0 Q (F0 m 31 ls [.int t0_15]) := by
          intro t0_15 H locs ls hB31 hVB31 hlB31
          rw [f_X11_lieOnArcFrom_J31] at hB31
          refine lv_iload hx hb dX11_lieOnArcFrom_31 (lv_at hlB31 4 rfl) ?_
          refine lv_icmp_le (tgt := 38) hx hb dX11_lieOnArcFrom_33 (by decide) (fun c16 => ?_) (fun c16 => ?_)
          · have h17 := itS c16 hB31
            clear hB31 c16
            obtain ⟨v38_19, e20, h21⟩ := nmI_s h17
            clear h17
            refine lv_iinc (v := v38_19) (lv' := [(5, .int v38_19), (0, .int p1), (1, .ref a0), (2, .int p3), (3, .int p4), (4, .int p5)]) hx hb dX11_lieOnArcFrom_38 hlB31 (k := 5) rfl (by rw [e20]; rfl) (by decide) rfl (fun ls hl22 => ?_)
            clear hlB31 e20
            refine lv_goto (tgt := 3) hx hb dX11_lieOnArcFrom_41 (by decide) ?_
            exact ih3 v38_19 _ _ _ h21 hVB31 (lv_sub hl22 [1, 2, 3, 4, 5, 0] rfl)
          · have h18 := ieS c16 hB31
            clear hB31 c16
            refine lv_iconst (v := 0) hx hb dX11_lieOnArcFrom_36 (by decide) ?_
            have q23 := tup1_s h18
            clear h18
            exact hret _ () _ _ _ _ q23 rfl hVB31 dX11_lieOnArcFrom_37
        refine lv_if_ge (tgt := 29) hx hb dX11_lieOnArcFrom_19 (by decide) (fun c24 => ?_) (fun c24 => ?_)
        · have h25 := itS c24 h13
          clear h13 c24
          refine lv_iload hx hb dX11_lieOnArcFrom_29 (lv_at hl14 0 rfl) ?_
          exact J31 v15_11 _ _ _ h25 hVB3 (lv_sub hl14 [1, 2, 3, 4, 5, 6] rfl)
        · have h26 := ieS c24 h13
          clear h13 c24
          refine lv_iload hx hb dX11_lieOnArcFrom_22 (lv_at hl14 0 rfl) ?_
          refine lv_iload_n hx hb dX11_lieOnArcFrom_24 rfl (lv_at hl14 4 rfl) ?_
          refine lv_iadd hx hb dX11_lieOnArcFrom_25 ?_
          refine lv_goto (tgt := 31) hx hb dX11_lieOnArcFrom_26 (by decide) ?_
          exact J31 (v15_11 + p4) _ _ _ h26 hVB3 (lv_sub hl14 [1, 2, 3, 4, 5, 6] rfl)
  exact L3 FU 0 _ _ _ h hV (lv_sub hl1 [1, 2, 3, 4, 5, 0] rfl)
noncomputable def f_X11_lieOnArc_L3 (n_p1 : Nat) (s_p1 : Nat → Int32) (p2 : Int32) (p3 : Int32) (p4 : Int32)  : Nat → Int32 → Option (Int32)
  | 0, _ => none
  | n3 + 1, x4_2 =>
    if p2 ≤ x4_2 then
    (some (0))
    else
    (rdI s_p1 n_p1 x4_2 fun v12_7 =>
      cb1 (f_X11_lieOnArcFrom n_p1 s_p1 v12_7 p2 p3 p4) fun r17_11 =>
      if r17_11 = 0 then
      (nmI (x4_2 + 1) fun v25_19 =>
        (f_X11_lieOnArc_L3 n_p1 s_p1 p2 p3 p4  n3) v25_19)
      else
      (some (1)))
noncomputable def f_X11_lieOnArc (n_p1 : Nat) (s_p1 : Nat → Int32) (p2 : Int32) (p3 : Int32) (p4 : Int32) : Option (Int32) :=
    (f_X11_lieOnArc_L3 n_p1 s_p1 p2 p3 p4  FU) 0
abbrev r_X11_lieOnArc : Room := { frames := 1, cells := 0, slots := 0, locals := 26 }
set_option maxHeartbeats 4000000 in
set_option maxRecDepth 100000 in
theorem c_X11_lieOnArc (l : Launch) (E : kE) (sz : Nat) (a0 : Nat) (n_p1 : Nat) (s_p1 : Nat → Int32) (p2 : Int32) (p3 : Int32) (p4 : Int32) (r : Int32) (h : f_X11_lieOnArc n_p1 s_p1 p2 p3 p4 = some (r)) : kMi l yX11_lieOnArc cX11_lieOnArc 5 (some .boolean) r_X11_lieOnArc [.ref a0, .int p2, .int p3, .int p4] E [(a0, .inl (E.2 0, n_p1, .inl s_p1))] sz 0 0 (fun x (_ : Unit) => x = r) (fun _ => [(a0, .inl (E.2 0, n_p1, .inl s_p1))]) := by
  refine kmeti rfl (Nat.le_of_ble_eq_true rfl) ?_
  intro p e s m args below meth c ls A Q X hV hret hl
  have X : kC p s m c cX11_lieOnArc 5 RX11 args E A := X
  have hx := X.1
  have hb := X.2.1
  have hl : lv_has ls 5 [(0, .ref a0), (1, .int p2), (2, .int p3), (3, .int p4)] := hl
  rw [f_X11_lieOnArc] at h
  refine lv_iconst (v := 0) hx hb dX11_lieOnArc_0 (by decide) ?_
  refine lv_istore (lv' := [(4, .int 0), (0, .ref a0), (1, .int p2), (2, .int p3), (3, .int p4)]) hx hb dX11_lieOnArc_1 hl (by decide) rfl (fun ls hl1 => ?_)
  clear hl
  have L3 : ∀ (n3 : Nat) (x4_2 : Int32) (H : Heap) (locs : List Loc) (ls : Array Slot), (f_X11_lieOnArc_L3 n_p1 s_p1 p2 p3 p4  n3) x4_2 = some (r) → kV E A s.heap H locs [(a0, .inl (E.2 0, n_p1, .inl s_p1))] → lv_has ls 5 [(0, .ref a0), (1, .int p2), (2, .int p3), (3, .int p4), (4, .int x4_2)] → W p l e r_X11_lieOnArc s m args below meth c H locs 0 0 Q (F0 m 3 ls []) := by
    intro n3
    induction n3 with
    | zero =>
      intro x4_2 H locs ls hB3 hVB3 hlB3
      rw [f_X11_lieOnArc_L3] at hB3
      exact nomatch hB3
    | succ n3 ih3 =>
      intro x4_2 H locs ls hB3 hVB3 hlB3
      rw [f_X11_lieOnArc_L3] at hB3
      refine lv_iload hx hb dX11_lieOnArc_3 (lv_at hlB3 4 rfl) ?_
      refine lv_iload_n hx hb dX11_lieOnArc_5 rfl (lv_at hlB3 1 rfl) ?_
      refine lv_icmp_ge (tgt := 31) hx hb dX11_lieOnArc_6 (by decide) (fun c3 => ?_) (fun c3 => ?_)
      · have h4 := itS c3 hB3
        clear hB3 c3
        refine lv_iconst (v := 0) hx hb dX11_lieOnArc_31 (by decide) ?_
        have q6 := tup1_s h4
        clear h4
        exact hret _ () _ _ _ _ q6 rfl hVB3 dX11_lieOnArc_32
      · have h5 := ieS c3 hB3
        clear hB3 c3
        refine lv_aload_n hx hb dX11_lieOnArc_9 rfl (lv_at hlB3 0 rfl) ?_
        refine lv_iload hx hb dX11_lieOnArc_10 (lv_at hlB3 4 rfl) ?_
        obtain ⟨hi8, v12_7, e9, h10⟩ := rdI_s h5
        clear h5
        refine kiald X hVB3 0 rfl hi8 e9 dX11_lieOnArc_12 ?_
        clear hi8 e9
        refine lv_aload_n hx hb dX11_lieOnArc_13 rfl (lv_at hlB3 0 rfl) ?_
        refine lv_iload_n hx hb dX11_lieOnArc_14 rfl (lv_at hlB3 1 rfl) ?_
        refine lv_iload_n hx hb dX11_lieOnArc_15 rfl (lv_at hlB3 2 rfl) ?_
        refine lv_iload_n hx hb dX11_lieOnArc_16 rfl (lv_at hlB3 3 rfl) ?_
        obtain ⟨r17_11, hc12, h13⟩ := cb1_s h10
        clear h10
        refine kgoiE (krunS (rest := []) X hVB3 [0] (c_X11_lieOnArcFrom l E _ a0 n_p1 s_p1 v12_7 p2 p3 p4 r17_11 hc12) mw_914 kb_X11_lieOnArcFrom (by decide) rfl rfl hlB3.1 rfl (Nat.le_of_ble_eq_true rfl) dX11_lieOnArc_17 (by decide)) X hVB3 [0] [] rfl rfl rfl (by decide) (fun u H locs hV14 => ?_)
        have hV14 : kV E A s.heap H locs [(a0, .inl (E.2 0, n_p1, .inl s_p1))] := hV14.sub [0] rfl rfl
        clear hVB3
        refine lv_if_eq (tgt := 25) hx hb dX11_lieOnArc_20 (by decide) (fun c16 => ?_) (fun c16 => ?_)
        · have h17 := itS c16 h13
          clear h13 c16
          obtain ⟨v25_19, e20, h21⟩ := nmI_s h17
          clear h17
          refine lv_iinc (v := v25_19) (lv' := [(4, .int v25_19), (0, .ref a0), (1, .int p2), (2, .int p3), (3, .int p4)]) hx hb dX11_lieOnArc_25 hlB3 (k := 4) rfl (by rw [e20]; rfl) (by decide) rfl (fun ls hl22 => ?_)
          clear hlB3 e20
          refine lv_goto (tgt := 3) hx hb dX11_lieOnArc_28 (by decide) ?_
          exact ih3 v25_19 _ _ _ h21 hV14 (lv_sub hl22 [1, 2, 3, 4, 0] rfl)
        · have h18 := ieS c16 h13
          clear h13 c16
          refine lv_iconst (v := 1) hx hb dX11_lieOnArc_23 (by decide) ?_
          have q23 := tup1_s h18
          clear h18
          exact hret _ () _ _ _ _ q23 rfl hV14 dX11_lieOnArc_24
  exact L3 FU 0 _ _ _ h hV (lv_sub hl1 [1, 2, 3, 4, 0] rfl)
noncomputable def f_X11_clausesOf (s_p1_clauses : Int32) : Option (Int32) :=
    some (s_p1_clauses)
abbrev r_X11_clausesOf : Room := { frames := 0, cells := 0, slots := 0, locals := 0 }
set_option maxHeartbeats 4000000 in
set_option maxRecDepth 100000 in
theorem c_X11_clausesOf (l : Launch) (E : kE) (sz : Nat) (a0 : Nat) (w0_1 w0_2 w0_3 : Value) (s_p1_clauses : Int32) (r : Int32) (h : f_X11_clausesOf s_p1_clauses = some (r)) : kMi l yX11_clausesOf cX11_clausesOf 1 (some .int) r_X11_clausesOf [.ref a0] E [(a0, .inr (10, [.int s_p1_clauses, w0_1, w0_2, w0_3]))] sz 0 0 (fun x (_ : Unit) => x = r) (fun _ => [(a0, .inr (10, [.int s_p1_clauses, w0_1, w0_2, w0_3]))]) := by
  refine kmeti rfl (Nat.le_of_ble_eq_true rfl) ?_
  intro p e s m args below meth c ls A Q X hV hret hl
  have X : kC p s m c cX11_clausesOf 1 RX11 args E A := X
  have hx := X.1
  have hb := X.2.1
  have hl : lv_has ls 1 [(0, .ref a0)] := hl
  rw [f_X11_clausesOf] at h
  refine lv_aload_n hx hb dX11_clausesOf_0 rfl (lv_at hl 0 rfl) ?_
  refine lv_ifnonnull (tgt := 8) hx hb dX11_clausesOf_1 (by decide) ?_
  refine lv_aload_n hx hb dX11_clausesOf_8 rfl (lv_at hl 0 rfl) ?_
  refine kget X hV (ci := 10) inlX10 rfl 0 rfl 0 (by decide) mw_262 rfl dX11_clausesOf_9 ?_
  have q1 := tup1_s h
  clear h
  exact hret _ () _ _ _ _ q1 rfl hV dX11_clausesOf_12
noncomputable def f_X11_clausesOf_N  : Option (Int32) :=
    some (0)
abbrev r_X11_clausesOf_N : Room := { frames := 0, cells := 0, slots := 0, locals := 0 }
set_option maxHeartbeats 4000000 in
set_option maxRecDepth 100000 in
theorem c_X11_clausesOf_N (l : Launch) (E : kE) (sz : Nat) (r : Int32) (h : f_X11_clausesOf_N  = some (r)) : kMi l yX11_clausesOf cX11_clausesOf 1 (some .int) r_X11_clausesOf_N [.null] E [] sz 0 0 (fun x (_ : Unit) => x = r) (fun _ => []) := by
  refine kmeti rfl (Nat.le_of_ble_eq_true rfl) ?_
  intro p e s m args below meth c ls A Q X hV hret hl
  have X : kC p s m c cX11_clausesOf 1 RX11 args E A := X
  have hx := X.1
  have hb := X.2.1
  have hl : lv_has ls 1 [(0, .null)] := hl
  rw [f_X11_clausesOf_N] at h
  refine lv_aload_nN hx hb dX11_clausesOf_0 rfl (lv_at hl 0 rfl) ?_
  refine lv_ifnonnullN hx hb dX11_clausesOf_1 ?_
  refine lv_iconst (v := 0) hx hb dX11_clausesOf_4 (by decide) ?_
  refine lv_goto (tgt := 12) hx hb dX11_clausesOf_5 (by decide) ?_
  have q1 := tup1_s h
  clear h
  exact hret _ () _ _ _ _ q1 rfl hV dX11_clausesOf_12
noncomputable def f_X7_luck (s_seed : Int32) (p1 : Int32) (p2 : Int32) (p3 : Int32) : Option (Int32) :=
    nmI (((s_seed + (1009 * p2)) + (9176 * p3)) + (31 * p1)) fun v21_1 =>
    some ((jrem (((v21_1 * 25173) + 13849) &&& 65535) 100))
abbrev r_X7_luck : Room := { frames := 0, cells := 0, slots := 0, locals := 0 }
set_option maxHeartbeats 4000000 in
set_option maxRecDepth 100000 in
theorem c_X7_luck (l : Launch) (E : kE) (sz : Nat) (a0 : Nat) (w0_0 w0_1 w0_2 : Value) (s_seed : Int32) (p1 : Int32) (p2 : Int32) (p3 : Int32) (r : Int32) (h : f_X7_luck s_seed p1 p2 p3 = some (r)) : kMi l yX7_luck cX7_luck 5 (some .int) r_X7_luck [.ref a0, .int p1, .int p2, .int p3] E [(a0, .inr (7, [w0_0, w0_1, w0_2, .int s_seed]))] sz 0 0 (fun x (_ : Unit) => x = r) (fun _ => [(a0, .inr (7, [w0_0, w0_1, w0_2, .int s_seed]))]) := by
  refine kmeti rfl (Nat.le_of_ble_eq_true rfl) ?_
  intro p e s m args below meth c ls A Q X hV hret hl
  have X : kC p s m c cX7_luck 5 RX7 args E A := X
  have hx := X.1
  have hb := X.2.1
  have hl : lv_has ls 5 [(0, .ref a0), (1, .int p1), (2, .int p2), (3, .int p3)] := hl
  rw [f_X7_luck] at h
  refine lv_aload_n hx hb dX7_luck_0 rfl (lv_at hl 0 rfl) ?_
  refine kget X hV (ci := 7) inlX7 rfl 0 rfl 3 (by decide) mw_76 rfl dX7_luck_1 ?_
  refine lv_sipush (v := 1009) hx hb dX7_luck_4 (by decide) ?_
  refine lv_iload_n hx hb dX7_luck_7 rfl (lv_at hl 2 rfl) ?_
  refine lv_imul hx hb dX7_luck_8 ?_
  refine lv_iadd hx hb dX7_luck_9 ?_
  refine lv_sipush (v := 9176) hx hb dX7_luck_10 (by decide) ?_
  refine lv_iload_n hx hb dX7_luck_13 rfl (lv_at hl 3 rfl) ?_
  refine lv_imul hx hb dX7_luck_14 ?_
  refine lv_iadd hx hb dX7_luck_15 ?_
  refine lv_bipush (v := 31) hx hb dX7_luck_16 (by decide) ?_
  refine lv_iload_n hx hb dX7_luck_18 rfl (lv_at hl 1 rfl) ?_
  refine lv_imul hx hb dX7_luck_19 ?_
  refine lv_iadd hx hb dX7_luck_20 ?_
  obtain ⟨v21_1, e2, h3⟩ := nmI_s h
  clear h
  refine ktopi e2 ?_
  clear e2
  refine lv_istore (lv' := [(4, .int v21_1), (0, .ref a0), (1, .int p1), (2, .int p2), (3, .int p3)]) hx hb dX7_luck_21 hl (by decide) rfl (fun ls hl4 => ?_)
  clear hl
  refine lv_iload hx hb dX7_luck_23 (lv_at hl4 0 rfl) ?_
  refine lv_sipush (v := 25173) hx hb dX7_luck_25 (by decide) ?_
  refine lv_imul hx hb dX7_luck_28 ?_
  refine lv_sipush (v := 13849) hx hb dX7_luck_29 (by decide) ?_
  refine lv_iadd hx hb dX7_luck_32 ?_
  refine lv_ldc (v := 65535) hx hb X.2.2.2.1 (X.2.2.2.2.1 _ mw_669) dX7_luck_33 ?_
  refine lv_iand hx hb dX7_luck_35 ?_
  refine lv_bipush (v := 100) hx hb dX7_luck_36 (by decide) ?_
  refine lv_irem hx hb dX7_luck_38 (by decide) ?_
  have q5 := tup1_s h3
  clear h3
  exact hret _ () _ _ _ _ q5 rfl hV dX7_luck_39
noncomputable def f_X7_heightOf_J20 (s_seed : Int32) (s_p1_number : Int32) (s_p1_minute : Int32) (s_p1_wide : Int32) (s_p1_weekdays : Int32) (s_p1_law_clauses : Int32) (n_p1_law_code : Nat) (s_p1_law_code : Nat → Int32) (n_p1_law_middles : Nat) (s_p1_law_middles : Nat → Int32) (n_p1_law_starts : Nat) (s_p1_law_starts : Nat → Int32) (s_reckoner_letters : Nat → Int32) (s_reckoner_values : Nat → Int32) (p2 : Int32) (p3 : Int32) (r2_1 : Int32)  (t0_7 : Int32) : Option (Int32 × (Nat → Int32) × (Nat → Int32)) :=
    cb1 (f_X11_minutesApart t0_7 s_p1_minute) fun r24_8 =>
    if s_p1_wide < r24_8 then
    (some (0, s_reckoner_letters, s_reckoner_values))
    else
    (cb1 (f_X8_comesOn s_p1_weekdays p2) fun r40_20 =>
      if r40_20 = 0 then
      (some (0, s_reckoner_letters, s_reckoner_values))
      else
      (wrI s_reckoner_letters 128 100 p2 fun g69_32 =>
        wrI g69_32 128 109 p3 fun g75_37 =>
        wrI g75_37 128 115 r2_1 fun g82_42 =>
        wrI g82_42 128 97 r24_8 fun g89_47 =>
        cb1 (f_X11_starMinute p2 720) fun r100_52 =>
        cb1 (f_X11_minutesApart r2_1 r100_52) fun r103_57 =>
        wrI g89_47 128 117 r103_57 fun g106_62 =>
        nmI (jrem p2 7) fun v115_67 =>
        wrI g106_62 128 102 v115_67 fun g115_70 =>
        cb1 (f_X7_luck s_seed s_p1_number p2 p3) fun r127_75 =>
        wrI g115_70 128 120 r127_75 fun g130_80 =>
        cb2 (f_X5_firstThatHolds n_p1_law_code n_p1_law_middles n_p1_law_starts s_p1_law_clauses s_p1_law_code s_p1_law_middles s_p1_law_starts g130_80 s_reckoner_values) fun r139_85 o_values139_86 =>
        if r139_85 = (-1) then
        (some (0, g130_80, o_values139_86))
        else
        (cb2 (f_X5_worth n_p1_law_code n_p1_law_middles n_p1_law_starts s_p1_law_code s_p1_law_middles s_p1_law_starts g130_80 o_values139_86 r139_85) fun r168_95 o_values168_96 =>
          some ((jmax 0 (jmin 1000 r168_95)), g130_80, o_values168_96))))
noncomputable def f_X7_heightOf (n_p1_law_code : Nat) (n_p1_law_middles : Nat) (n_p1_law_starts : Nat) (s_seed : Int32) (s_p1_number : Int32) (s_p1_star : Int32) (s_p1_minute : Int32) (s_p1_wide : Int32) (s_p1_weekdays : Int32) (s_p1_law_clauses : Int32) (s_p1_law_code : Nat → Int32) (s_p1_law_middles : Nat → Int32) (s_p1_law_starts : Nat → Int32) (s_reckoner_letters : Nat → Int32) (s_reckoner_values : Nat → Int32) (p2 : Int32) (p3 : Int32) : Option (Int32 × (Nat → Int32) × (Nat → Int32)) :=
    cb1 (f_X11_starMinute p2 p3) fun r2_1 =>
    if s_p1_star = 0 then
    ((f_X7_heightOf_J20 s_seed s_p1_number s_p1_minute s_p1_wide s_p1_weekdays s_p1_law_clauses n_p1_law_code s_p1_law_code n_p1_law_middles s_p1_law_middles n_p1_law_starts s_p1_law_starts s_reckoner_letters s_reckoner_values p2 p3 r2_1 ) p3)
    else
    ((f_X7_heightOf_J20 s_seed s_p1_number s_p1_minute s_p1_wide s_p1_weekdays s_p1_law_clauses n_p1_law_code s_p1_law_code n_p1_law_middles s_p1_law_middles n_p1_law_starts s_p1_law_starts s_reckoner_letters s_reckoner_values p2 p3 r2_1 ) r2_1)
abbrev r_X7_heightOf : Room := { frames := 3, cells := 0, slots := 0, locals := 72 }
set_option maxHeartbeats 4000000 in
set_option maxRecDepth 100000 in
theorem c_X7_heightOf (l : Launch) (E : kE) (sz : Nat) (a0 a1 a2 a3 a4 a5 a6 a7 a8 : Nat) (w0_0 w0_2 w1_4 : Value) (n_p1_law_code n_p1_law_middles n_p1_law_starts : Nat) (s_seed : Int32) (s_p1_number : Int32) (s_p1_star : Int32) (s_p1_minute : Int32) (s_p1_wide : Int32) (s_p1_weekdays : Int32) (s_p1_law_clauses : Int32) (s_p1_law_code : Nat → Int32) (s_p1_law_middles : Nat → Int32) (s_p1_law_starts : Nat → Int32) (s_reckoner_letters : Nat → Int32) (s_reckoner_values : Nat → Int32) (p2 : Int32) (p3 : Int32) (r : Int32) (o_reckoner_letters : Nat → Int32) (o_reckoner_values : Nat → Int32) (h : f_X7_heightOf n_p1_law_code n_p1_law_middles n_p1_law_starts s_seed s_p1_number s_p1_star s_p1_minute s_p1_wide s_p1_weekdays s_p1_law_clauses s_p1_law_code s_p1_law_middles s_p1_law_starts s_reckoner_letters s_reckoner_values p2 p3 = some (r, o_reckoner_letters, o_reckoner_values)) : kMi l yX7_heightOf cX7_heightOf 8 (some .int) r_X7_heightOf [.ref a0, .ref a1, .int p2, .int p3] E [(a0, .inr (7, [w0_0, .ref a3, w0_2, .int s_seed])), (a1, .inr (8, [.int s_p1_number, .int s_p1_star, .int s_p1_minute, .int s_p1_wide, w1_4, .int s_p1_weekdays, .ref a2])), (a2, .inr (10, [.int s_p1_law_clauses, .ref a4, .ref a6, .ref a5])), (a3, .inr (5, [.ref a7, .ref a8])), (a4, .inl (E.2 0, n_p1_law_code, .inl s_p1_law_code)), (a5, .inl (E.2 0, n_p1_law_middles, .inl s_p1_law_middles)), (a6, .inl (E.2 0, n_p1_law_starts, .inl s_p1_law_starts)), (a7, .inl (E.2 0, 128, .inl s_reckoner_letters)), (a8, .inl (E.2 0, 32, .inl s_reckoner_values))] sz 0 0 (fun x (_ : Unit) => x = r) (fun _ => [(a0, .inr (7, [w0_0, .ref a3, w0_2, .int s_seed])), (a1, .inr (8, [.int s_p1_number, .int s_p1_star, .int s_p1_minute, .int s_p1_wide, w1_4, .int s_p1_weekdays, .ref a2])), (a2, .inr (10, [.int s_p1_law_clauses, .ref a4, .ref a6, .ref a5])), (a3, .inr (5, [.ref a7, .ref a8])), (a4, .inl (E.2 0, n_p1_law_code, .inl s_p1_law_code)), (a5, .inl (E.2 0, n_p1_law_middles, .inl s_p1_law_middles)), (a6, .inl (E.2 0, n_p1_law_starts, .inl s_p1_law_starts)), (a7, .inl (E.2 0, 128, .inl o_reckoner_letters)), (a8, .inl (E.2 0, 32, .inl o_reckoner_values))]) := by
  refine kmeti rfl (Nat.le_of_ble_eq_true rfl) ?_
  intro p e s m args below meth c ls A Q X hV hret hl
  have X : kC p s m c cX7_heightOf 8 RX7 args E A := X
  have hx := X.1
  have hb := X.2.1
  have hl : lv_has ls 8 [(0, .ref a0), (1, .ref a1), (2, .int p2), (3, .int p3)] := hl
  rw [f_X7_heightOf] at h
  refine lv_iload_n hx hb dX7_heightOf_0 rfl (lv_at hl 2 rfl) ?_
  refine lv_iload_n hx hb dX7_heightOf_1 rfl (lv_at hl 3 rfl) ?_
  obtain ⟨r2_1, hc2, h3⟩ := cb1_s h
  clear h
  refine kgoiE (krunSN (rest := []) X hV [] (c_X11_starMinute l E _ p2 p3 r2_1 hc2) (List.mem_of_getElem? (i := 1) rfl) kb_X11_starMinute (by decide) rfl rfl hl.1 rfl (Nat.le_of_ble_eq_true rfl) dX7_heightOf_2 (by decide)) X hV [] [0, 1, 2, 3, 4, 5, 6, 7, 8] rfl rfl rfl (by decide) (fun u H locs hV4 => ?_)
  have hV4 : kV E A s.heap H locs [(a0, .inr (7, [w0_0, .ref a3, w0_2, .int s_seed])), (a1, .inr (8, [.int s_p1_number, .int s_p1_star, .int s_p1_minute, .int s_p1_wide, w1_4, .int s_p1_weekdays, .ref a2])), (a2, .inr (10, [.int s_p1_law_clauses, .ref a4, .ref a6, .ref a5])), (a3, .inr (5, [.ref a7, .ref a8])), (a4, .inl (E.2 0, n_p1_law_code, .inl s_p1_law_code)), (a5, .inl (E.2 0, n_p1_law_middles, .inl s_p1_law_middles)), (a6, .inl (E.2 0, n_p1_law_starts, .inl s_p1_law_starts)), (a7, .inl (E.2 0, 128, .inl s_reckoner_letters)), (a8, .inl (E.2 0, 32, .inl s_reckoner_values))] := hV4.sub [0, 1, 2, 3, 4, 5, 6, 7, 8] rfl rfl
  clear hV
  refine lv_istore (lv' := [(4, .int r2_1), (0, .ref a0), (1, .ref a1), (2, .int p2), (3, .int p3)]) hx hb dX7_heightOf_5 hl (by decide) rfl (fun ls hl6 => ?_)
  clear hl
  refine lv_aload_n hx hb dX7_heightOf_7 rfl (lv_at hl6 2 rfl) ?_
  refine kget X hV4 (ci := 8) inlX8 rfl 1 rfl 1 (by decide) mw_647 rfl dX7_heightOf_8 ?_
  have J20 : ∀ (t0_7 : Int32) (H : Heap) (locs : List Loc) (ls : Array Slot), (f_X7_heightOf_J20 s_seed s_p1_number s_p1_minute s_p1_wide s_p1_weekdays s_p1_law_clauses n_p1_law_code s_p1_law_code n_p1_law_middles s_p1_law_middles n_p1_law_starts s_p1_law_starts s_reckoner_letters s_reckoner_values p2 p3 r2_1 ) t0_7 = some (r, o_reckoner_letters, o_reckoner_values) → kV E A s.heap H locs [(a0, .inr (7, [w0_0, .ref a3, w0_2, .int s_seed])), (a1, .inr (8, [.int s_p1_number, .int s_p1_star, .int s_p1_minute, .int s_p1_wide, w1_4, .int s_p1_weekdays, .ref a2])), (a2, .inr (10, [.int s_p1_law_clauses, .ref a4, .ref a6, .ref a5])), (a3, .inr (5, [.ref a7, .ref a8])), (a4, .inl (E.2 0, n_p1_law_code, .inl s_p1_law_code)), (a5, .inl (E.2 0, n_p1_law_middles, .inl s_p1_law_middles)), (a6, .inl (E.2 0, n_p1_law_starts, .inl s_p1_law_starts)), (a7, .inl (E.2 0, 128, .inl s_reckoner_letters)), (a8, .inl (E.2 0, 32, .inl s_reckoner_values))] → lv_has ls 8 [(0, .ref a0), (1, .ref a1), (2, .int p2), (3, .int p3), (4, .int r2_1)] → W p l e r_X7_heightOf s m args below meth c H locs 0 0 Q (F0 m 20 ls [.int t0_7]) := by
    intro t0_7 H locs ls hB20 hVB20 hlB20
    rw [f_X7_heightOf_J20] at hB20
    refine lv_aload_n hx hb dX7_heightOf_20 rfl (lv_at hlB20 1 rfl) ?_
    refine kget X hVB20 (ci := 8) inlX8 rfl 1 rfl 2 (by decide) mw_648 rfl dX7_heightOf_21 ?_
    obtain ⟨r24_8, hc9, h10⟩ := cb1_s hB20
    clear hB20
    refine kgoiE (krunSN (rest := []) X hVB20 [] (c_X11_minutesApart l E _ t0_7 s_p1_minute r24_8 hc9) (List.mem_of_getElem? (i := 0) rfl) kb_X11_minutesApart (by decide) rfl rfl hlB20.1 rfl (Nat.le_of_ble_eq_true rfl) dX7_heightOf_24 (by decide)) X hVB20 [] [0, 1, 2, 3, 4, 5, 6, 7, 8] rfl rfl rfl (by decide) (fun u H locs hV11 => ?_)
    have hV11 : kV E A s.heap H locs [(a0, .inr (7, [w0_0, .ref a3, w0_2, .int s_seed])), (a1, .inr (8, [.int s_p1_number, .int s_p1_star, .int s_p1_minute, .int s_p1_wide, w1_4, .int s_p1_weekdays, .ref a2])), (a2, .inr (10, [.int s_p1_law_clauses, .ref a4, .ref a6, .ref a5])), (a3, .inr (5, [.ref a7, .ref a8])), (a4, .inl (E.2 0, n_p1_law_code, .inl s_p1_law_code)), (a5, .inl (E.2 0, n_p1_law_middles, .inl s_p1_law_middles)), (a6, .inl (E.2 0, n_p1_law_starts, .inl s_p1_law_starts)), (a7, .inl (E.2 0, 128, .inl s_reckoner_letters)), (a8, .inl (E.2 0, 32, .inl s_reckoner_values))] := hV11.sub [0, 1, 2, 3, 4, 5, 6, 7, 8] rfl rfl
    clear hVB20
    refine lv_istore (lv' := [(5, .int r24_8), (0, .ref a0), (1, .ref a1), (2, .int p2), (3, .int p3), (4, .int r2_1)]) hx hb dX7_heightOf_27 hlB20 (by decide) rfl (fun ls hl13 => ?_)
    clear hlB20
    refine lv_iload hx hb dX7_heightOf_29 (lv_at hl13 0 rfl) ?_
    refine lv_aload_n hx hb dX7_heightOf_31 rfl (lv_at hl13 2 rfl) ?_
    refine kget X hV11 (ci := 8) inlX8 rfl 1 rfl 3 (by decide) mw_649 rfl dX7_heightOf_32 ?_
    refine lv_icmp_gt (tgt := 53) hx hb dX7_heightOf_35 (by decide) (fun c14 => ?_) (fun c14 => ?_)
    · have h15 := itS c14 h10
      clear h10 c14
      refine lv_iconst (v := 0) hx hb dX7_heightOf_53 (by decide) ?_
      obtain ⟨q17, q18, q19⟩ := tup3_s h15
      clear h15
      exact hret _ () _ _ _ _ q17 rfl (by rw [← q18, ← q19]; exact hV11) dX7_heightOf_54
    · have h16 := ieS c14 h10
      clear h10 c14
      refine lv_aload_n hx hb dX7_heightOf_38 rfl (lv_at hl13 2 rfl) ?_
      refine lv_iload_n hx hb dX7_heightOf_39 rfl (lv_at hl13 3 rfl) ?_
      obtain ⟨r40_20, hc21, h22⟩ := cb1_s h16
      clear h16
      refine kgoiE (krunV (rest := []) X hV11 [1] (c_X8_comesOn l E _ a1 (.int s_p1_number) (.int s_p1_star) (.int s_p1_minute) (.int s_p1_wide) (w1_4) (.ref a2) s_p1_weekdays p2 r40_20 hc21) mw_661 kb_X8_comesOn (ci := 8) rfl rfl (by decide) rfl rfl hl13.1 rfl (Nat.le_of_ble_eq_true rfl) dX7_heightOf_40 (by decide)) X hV11 [1] [0, 2, 3, 4, 5, 6, 7, 8] rfl rfl rfl (by decide) (fun u H locs hV23 => ?_)
      have hV23 : kV E A s.heap H locs [(a0, .inr (7, [w0_0, .ref a3, w0_2, .int s_seed])), (a1, .inr (8, [.int s_p1_number, .int s_p1_star, .int s_p1_minute, .int s_p1_wide, w1_4, .int s_p1_weekdays, .ref a2])), (a2, .inr (10, [.int s_p1_law_clauses, .ref a4, .ref a6, .ref a5])), (a3, .inr (5, [.ref a7, .ref a8])), (a4, .inl (E.2 0, n_p1_law_code, .inl s_p1_law_code)), (a5, .inl (E.2 0, n_p1_law_middles, .inl s_p1_law_middles)), (a6, .inl (E.2 0, n_p1_law_starts, .inl s_p1_law_starts)), (a7, .inl (E.2 0, 128, .inl s_reckoner_letters)), (a8, .inl (E.2 0, 32, .inl s_reckoner_values))] := hV23.sub [0, 8, 1, 2, 3, 4, 5, 6, 7] rfl rfl
      clear hV11
      refine lv_if_eq (tgt := 53) hx hb dX7_heightOf_43 (by decide) (fun c25 => ?_) (fun c25 => ?_)
      · have h26 := itS c25 h22
        clear h22 c25
        refine lv_iconst (v := 0) hx hb dX7_heightOf_53 (by decide) ?_
        obtain ⟨q28, q29, q30⟩ := tup3_s h26
        clear h26
        exact hret _ () _ _ _ _ q28 rfl (by rw [← q29, ← q30]; exact hV23) dX7_heightOf_54
      · have h27 := ieS c25 h22
        clear h22 c25
        refine lv_aload_n hx hb dX7_heightOf_46 rfl (lv_at hl13 2 rfl) ?_
        refine kget X hV23 (ci := 8) inlX8 rfl 1 rfl 6 (by decide) mw_650 rfl dX7_heightOf_47 ?_
        refine lv_ifnonnull (tgt := 55) hx hb dX7_heightOf_50 (by decide) ?_
        refine lv_aload_n hx hb dX7_heightOf_55 rfl (lv_at hl13 1 rfl) ?_
        refine kget X hV23 (ci := 7) inlX7 rfl 0 rfl 1 (by decide) mw_74 rfl dX7_heightOf_56 ?_
        refine kget X hV23 (ci := 5) inlX5 rfl 3 rfl 0 (by decide) mw_651 rfl dX7_heightOf_59 ?_
        refine lv_astore (lv' := [(6, .ref a7), (5, .int r24_8), (0, .ref a0), (1, .ref a1), (2, .int p2), (3, .int p3), (4, .int r2_1)]) hx hb dX7_heightOf_62 hl13 (by decide) rfl (fun ls hl31 => ?_)
        clear hl13
        refine lv_aload hx hb dX7_heightOf_64 (lv_at hl31 0 rfl) ?_
        refine lv_bipush (v := 100) hx hb dX7_heightOf_66 (by decide) ?_
        refine lv_iload_n hx hb dX7_heightOf_68 rfl (lv_at hl31 4 rfl) ?_
        obtain ⟨hi33, g69_32, e34, h35⟩ := wrI_s h27
        clear h27
        refine kiast X hV23 7 rfl hi33 e34 dX7_heightOf_69 (fun H locs hV36 => ?_)
        have hV36 : kV E A s.heap H locs [(a0, .inr (7, [w0_0, .ref a3, w0_2, .int s_seed])), (a1, .inr (8, [.int s_p1_number, .int s_p1_star, .int s_p1_minute, .int s_p1_wide, w1_4, .int s_p1_weekdays, .ref a2])), (a2, .inr (10, [.int s_p1_law_clauses, .ref a4, .ref a6, .ref a5])), (a3, .inr (5, [.ref a7, .ref a8])), (a4, .inl (E.2 0, n_p1_law_code, .inl s_p1_law_code)), (a5, .inl (E.2 0, n_p1_law_middles, .inl s_p1_law_middles)), (a6, .inl (E.2 0, n_p1_law_starts, .inl s_p1_law_starts)), (a7, .inl (E.2 0, 128, .inl g69_32)), (a8, .inl (E.2 0, 32, .inl s_reckoner_values))] := hV36
        clear hV23 hi33 e34
        refine lv_aload hx hb dX7_heightOf_70 (lv_at hl31 0 rfl) ?_
        refine lv_bipush (v := 109) hx hb dX7_heightOf_72 (by decide) ?_
        refine lv_iload_n hx hb dX7_heightOf_74 rfl (lv_at hl31 5 rfl) ?_
        obtain ⟨hi38, g75_37, e39, h40⟩ := wrI_s h35
        clear h35
        refine kiast X hV36 7 rfl hi38 e39 dX7_heightOf_75 (fun H locs hV41 => ?_)
        have hV41 : kV E A s.heap H locs [(a0, .inr (7, [w0_0, .ref a3, w0_2, .int s_seed])), (a1, .inr (8, [.int s_p1_number, .int s_p1_star, .int s_p1_minute, .int s_p1_wide, w1_4, .int s_p1_weekdays, .ref a2])), (a2, .inr (10, [.int s_p1_law_clauses, .ref a4, .ref a6, .ref a5])), (a3, .inr (5, [.ref a7, .ref a8])), (a4, .inl (E.2 0, n_p1_law_code, .inl s_p1_law_code)), (a5, .inl (E.2 0, n_p1_law_middles, .inl s_p1_law_middles)), (a6, .inl (E.2 0, n_p1_law_starts, .inl s_p1_law_starts)), (a7, .inl (E.2 0, 128, .inl g75_37)), (a8, .inl (E.2 0, 32, .inl s_reckoner_values))] := hV41
        clear hV36 hi38 e39
        refine lv_aload hx hb dX7_heightOf_76 (lv_at hl31 0 rfl) ?_
        refine lv_bipush (v := 115) hx hb dX7_heightOf_78 (by decide) ?_
        refine lv_iload hx hb dX7_heightOf_80 (lv_at hl31 6 rfl) ?_
        obtain ⟨hi43, g82_42, e44, h45⟩ := wrI_s h40
        clear h40
        refine kiast X hV41 7 rfl hi43 e44 dX7_heightOf_82 (fun H locs hV46 => ?_)
        have hV46 : kV E A s.heap H locs [(a0, .inr (7, [w0_0, .ref a3, w0_2, .int s_seed])), (a1, .inr (8, [.int s_p1_number, .int s_p1_star, .int s_p1_minute, .int s_p1_wide, w1_4, .int s_p1_weekdays, .ref a2])), (a2, .inr (10, [.int s_p1_law_clauses, .ref a4, .ref a6, .ref a5])), (a3, .inr (5, [.ref a7, .ref a8])), (a4, .inl (E.2 0, n_p1_law_code, .inl s_p1_law_code)), (a5, .inl (E.2 0, n_p1_law_middles, .inl s_p1_law_middles)), (a6, .inl (E.2 0, n_p1_law_starts, .inl s_p1_law_starts)), (a7, .inl (E.2 0, 128, .inl g82_42)), (a8, .inl (E.2 0, 32, .inl s_reckoner_values))] := hV46
        clear hV41 hi43 e44
        refine lv_aload hx hb dX7_heightOf_83 (lv_at hl31 0 rfl) ?_
        refine lv_bipush (v := 97) hx hb dX7_heightOf_85 (by decide) ?_
        refine lv_iload hx hb dX7_heightOf_87 (lv_at hl31 1 rfl) ?_
        obtain ⟨hi48, g89_47, e49, h50⟩ := wrI_s h45
        clear h45
        refine kiast X hV46 7 rfl hi48 e49 dX7_heightOf_89 (fun H locs hV51 => ?_)
        have hV51 : kV E A s.heap H locs [(a0, .inr (7, [w0_0, .ref a3, w0_2, .int s_seed])), (a1, .inr (8, [.int s_p1_number, .int s_p1_star, .int s_p1_minute, .int s_p1_wide, w1_4, .int s_p1_weekdays, .ref a2])), (a2, .inr (10, [.int s_p1_law_clauses, .ref a4, .ref a6, .ref a5])), (a3, .inr (5, [.ref a7, .ref a8])), (a4, .inl (E.2 0, n_p1_law_code, .inl s_p1_law_code)), (a5, .inl (E.2 0, n_p1_law_middles, .inl s_p1_law_middles)), (a6, .inl (E.2 0, n_p1_law_starts, .inl s_p1_law_starts)), (a7, .inl (E.2 0, 128, .inl g89_47)), (a8, .inl (E.2 0, 32, .inl s_reckoner_values))] := hV51
        clear hV46 hi48 e49
        refine lv_aload hx hb dX7_heightOf_90 (lv_at hl31 0 rfl) ?_
        refine lv_bipush (v := 117) hx hb dX7_heightOf_92 (by decide) ?_
        refine lv_iload hx hb dX7_heightOf_94 (lv_at hl31 6 rfl) ?_
        refine lv_iload_n hx hb dX7_heightOf_96 rfl (lv_at hl31 4 rfl) ?_
        refine lv_sipush (v := 720) hx hb dX7_heightOf_97 (by decide) ?_
        obtain ⟨r100_52, hc53, h54⟩ := cb1_s h50
        clear h50
        refine kgoiE (krunSN (rest := [.int r2_1, .int 117, .ref a7]) X hV51 [] (c_X11_starMinute l E _ p2 720 r100_52 hc53) (List.mem_of_getElem? (i := 1) rfl) kb_X11_starMinute (by decide) rfl rfl hl31.1 rfl (Nat.le_of_ble_eq_true rfl) dX7_heightOf_100 (by decide)) X hV51 [] [0, 1, 2, 3, 4, 5, 6, 7, 8] rfl rfl rfl (by decide) (fun u H locs hV55 => ?_)
        have hV55 : kV E A s.heap H locs [(a0, .inr (7, [w0_0, .ref a3, w0_2, .int s_seed])), (a1, .inr (8, [.int s_p1_number, .int s_p1_star, .int s_p1_minute, .int s_p1_wide, w1_4, .int s_p1_weekdays, .ref a2])), (a2, .inr (10, [.int s_p1_law_clauses, .ref a4, .ref a6, .ref a5])), (a3, .inr (5, [.ref a7, .ref a8])), (a4, .inl (E.2 0, n_p1_law_code, .inl s_p1_law_code)), (a5, .inl (E.2 0, n_p1_law_middles, .inl s_p1_law_middles)), (a6, .inl (E.2 0, n_p1_law_starts, .inl s_p1_law_starts)), (a7, .inl (E.2 0, 128, .inl g89_47)), (a8, .inl (E.2 0, 32, .inl s_reckoner_values))] := hV55.sub [0, 1, 2, 3, 4, 5, 6, 7, 8] rfl rfl
        clear hV51
        obtain ⟨r103_57, hc58, h59⟩ := cb1_s h54
        clear h54
        refine kgoiE (krunSN (rest := [.int 117, .ref a7]) X hV55 [] (c_X11_minutesApart l E _ r2_1 r100_52 r103_57 hc58) (List.mem_of_getElem? (i := 0) rfl) kb_X11_minutesApart (by decide) rfl rfl hl31.1 rfl (Nat.le_of_ble_eq_true rfl) dX7_heightOf_103 (by decide)) X hV55 [] [0, 1, 2, 3, 4, 5, 6, 7, 8] rfl rfl rfl (by decide) (fun u H locs hV60 => ?_)
        have hV60 : kV E A s.heap H locs [(a0, .inr (7, [w0_0, .ref a3, w0_2, .int s_seed])), (a1, .inr (8, [.int s_p1_number, .int s_p1_star, .int s_p1_minute, .int s_p1_wide, w1_4, .int s_p1_weekdays, .ref a2])), (a2, .inr (10, [.int s_p1_law_clauses, .ref a4, .ref a6, .ref a5])), (a3, .inr (5, [.ref a7, .ref a8])), (a4, .inl (E.2 0, n_p1_law_code, .inl s_p1_law_code)), (a5, .inl (E.2 0, n_p1_law_middles, .inl s_p1_law_middles)), (a6, .inl (E.2 0, n_p1_law_starts, .inl s_p1_law_starts)), (a7, .inl (E.2 0, 128, .inl g89_47)), (a8, .inl (E.2 0, 32, .inl s_reckoner_values))] := hV60.sub [0, 1, 2, 3, 4, 5, 6, 7, 8] rfl rfl
        clear hV55
        obtain ⟨hi63, g106_62, e64, h65⟩ := wrI_s h59
        clear h59
        refine kiast X hV60 7 rfl hi63 e64 dX7_heightOf_106 (fun H locs hV66 => ?_)
        have hV66 : kV E A s.heap H locs [(a0, .inr (7, [w0_0, .ref a3, w0_2, .int s_seed])), (a1, .inr (8, [.int s_p1_number, .int s_p1_star, .int s_p1_minute, .int s_p1_wide, w1_4, .int s_p1_weekdays, .ref a2])), (a2, .inr (10, [.int s_p1_law_clauses, .ref a4, .ref a6, .ref a5])), (a3, .inr (5, [.ref a7, .ref a8])), (a4, .inl (E.2 0, n_p1_law_code, .inl s_p1_law_code)), (a5, .inl (E.2 0, n_p1_law_middles, .inl s_p1_law_middles)), (a6, .inl (E.2 0, n_p1_law_starts, .inl s_p1_law_starts)), (a7, .inl (E.2 0, 128, .inl g106_62)), (a8, .inl (E.2 0, 32, .inl s_reckoner_values))] := hV66
        clear hV60 hi63 e64
        refine lv_aload hx hb dX7_heightOf_107 (lv_at hl31 0 rfl) ?_
        refine lv_bipush (v := 102) hx hb dX7_heightOf_109 (by decide) ?_
        refine lv_iload_n hx hb dX7_heightOf_111 rfl (lv_at hl31 4 rfl) ?_
        refine lv_bipush (v := 7) hx hb dX7_heightOf_112 (by decide) ?_
        refine lv_irem hx hb dX7_heightOf_114 (by decide) ?_
        obtain ⟨v115_67, e68, h69⟩ := nmI_s h65
        clear h65
        refine ktopi e68 ?_
        clear e68
        obtain ⟨hi71, g115_70, e72, h73⟩ := wrI_s h69
        clear h69
        refine kiast X hV66 7 rfl hi71 e72 dX7_heightOf_115 (fun H locs hV74 => ?_)
        have hV74 : kV E A s.heap H locs [(a0, .inr (7, [w0_0, .ref a3, w0_2, .int s_seed])), (a1, .inr (8, [.int s_p1_number, .int s_p1_star, .int s_p1_minute, .int s_p1_wide, w1_4, .int s_p1_weekdays, .ref a2])), (a2, .inr (10, [.int s_p1_law_clauses, .ref a4, .ref a6, .ref a5])), (a3, .inr (5, [.ref a7, .ref a8])), (a4, .inl (E.2 0, n_p1_law_code, .inl s_p1_law_code)), (a5, .inl (E.2 0, n_p1_law_middles, .inl s_p1_law_middles)), (a6, .inl (E.2 0, n_p1_law_starts, .inl s_p1_law_starts)), (a7, .inl (E.2 0, 128, .inl g115_70)), (a8, .inl (E.2 0, 32, .inl s_reckoner_values))] := hV74
        clear hV66 hi71 e72
        refine lv_aload hx hb dX7_heightOf_116 (lv_at hl31 0 rfl) ?_
        refine lv_bipush (v := 120) hx hb dX7_heightOf_118 (by decide) ?_
        refine lv_aload_n hx hb dX7_heightOf_120 rfl (lv_at hl31 2 rfl) ?_
        refine lv_aload_n hx hb dX7_heightOf_121 rfl (lv_at hl31 3 rfl) ?_
        refine kget X hV74 (ci := 8) inlX8 rfl 1 rfl 0 (by decide) mw_652 rfl dX7_heightOf_122 ?_
        refine lv_iload_n hx hb dX7_heightOf_125 rfl (lv_at hl31 4 rfl) ?_
        refine lv_iload_n hx hb dX7_heightOf_126 rfl (lv_at hl31 5 rfl) ?_
        obtain ⟨r127_75, hc76, h77⟩ := cb1_s h73
        clear h73
        refine kgoiE (krunV (rest := [.int 120, .ref a7]) X hV74 [0] (c_X7_luck l E _ a0 (w0_0) (.ref a3) (w0_2) s_seed s_p1_number p2 p3 r127_75 hc76) mw_665 kb_X7_luck (ci := 7) rfl rfl (by decide) rfl rfl hl31.1 rfl (Nat.le_of_ble_eq_true rfl) dX7_heightOf_127 (by decide)) X hV74 [0] [1, 2, 3, 4, 5, 6, 7, 8] rfl rfl rfl (by decide) (fun u H locs hV78 => ?_)
        have hV78 : kV E A s.heap H locs [(a0, .inr (7, [w0_0, .ref a3, w0_2, .int s_seed])), (a1, .inr (8, [.int s_p1_number, .int s_p1_star, .int s_p1_minute, .int s_p1_wide, w1_4, .int s_p1_weekdays, .ref a2])), (a2, .inr (10, [.int s_p1_law_clauses, .ref a4, .ref a6, .ref a5])), (a3, .inr (5, [.ref a7, .ref a8])), (a4, .inl (E.2 0, n_p1_law_code, .inl s_p1_law_code)), (a5, .inl (E.2 0, n_p1_law_middles, .inl s_p1_law_middles)), (a6, .inl (E.2 0, n_p1_law_starts, .inl s_p1_law_starts)), (a7, .inl (E.2 0, 128, .inl g115_70)), (a8, .inl (E.2 0, 32, .inl s_reckoner_values))] := hV78.sub [8, 0, 1, 2, 3, 4, 5, 6, 7] rfl rfl
        clear hV74
        obtain ⟨hi81, g130_80, e82, h83⟩ := wrI_s h77
        clear h77
        refine kiast X hV78 7 rfl hi81 e82 dX7_heightOf_130 (fun H locs hV84 => ?_)
        have hV84 : kV E A s.heap H locs [(a0, .inr (7, [w0_0, .ref a3, w0_2, .int s_seed])), (a1, .inr (8, [.int s_p1_number, .int s_p1_star, .int s_p1_minute, .int s_p1_wide, w1_4, .int s_p1_weekdays, .ref a2])), (a2, .inr (10, [.int s_p1_law_clauses, .ref a4, .ref a6, .ref a5])), (a3, .inr (5, [.ref a7, .ref a8])), (a4, .inl (E.2 0, n_p1_law_code, .inl s_p1_law_code)), (a5, .inl (E.2 0, n_p1_law_middles, .inl s_p1_law_middles)), (a6, .inl (E.2 0, n_p1_law_starts, .inl s_p1_law_starts)), (a7, .inl (E.2 0, 128, .inl g130_80)), (a8, .inl (E.2 0, 32, .inl s_reckoner_values))] := hV84
        clear hV78 hi81 e82
        refine lv_aload_n hx hb dX7_heightOf_131 rfl (lv_at hl31 2 rfl) ?_
        refine kget X hV84 (ci := 7) inlX7 rfl 0 rfl 1 (by decide) mw_74 rfl dX7_heightOf_132 ?_
        refine lv_aload_n hx hb dX7_heightOf_135 rfl (lv_at hl31 3 rfl) ?_
        refine kget X hV84 (ci := 8) inlX8 rfl 1 rfl 6 (by decide) mw_650 rfl dX7_heightOf_136 ?_
        obtain ⟨r139_85, o_values139_86, hc87, h88⟩ := cb2_s h83
        clear h83
        refine kgoiE (krunV (rest := []) X hV84 [3, 2, 4, 5, 6, 7, 8] (c_X5_firstThatHolds l E _ a3 a2 a4 a5 a6 a7 a8 n_p1_law_code n_p1_law_middles n_p1_law_starts s_p1_law_clauses s_p1_law_code s_p1_law_middles s_p1_law_starts g130_80 s_reckoner_values r139_85 o_values139_86 hc87) mw_670 kb_X5_firstThatHolds (ci := 5) rfl rfl (by decide) rfl rfl hl31.1 rfl (Nat.le_of_ble_eq_true rfl) dX7_heightOf_139 (by decide)) X hV84 [3, 2, 4, 5, 6, 7, 8] [0, 1] rfl rfl rfl (by decide) (fun u H locs hV89 => ?_)
        have hV89 : kV E A s.heap H locs [(a0, .inr (7, [w0_0, .ref a3, w0_2, .int s_seed])), (a1, .inr (8, [.int s_p1_number, .int s_p1_star, .int s_p1_minute, .int s_p1_wide, w1_4, .int s_p1_weekdays, .ref a2])), (a2, .inr (10, [.int s_p1_law_clauses, .ref a4, .ref a6, .ref a5])), (a3, .inr (5, [.ref a7, .ref a8])), (a4, .inl (E.2 0, n_p1_law_code, .inl s_p1_law_code)), (a5, .inl (E.2 0, n_p1_law_middles, .inl s_p1_law_middles)), (a6, .inl (E.2 0, n_p1_law_starts, .inl s_p1_law_starts)), (a7, .inl (E.2 0, 128, .inl g130_80)), (a8, .inl (E.2 0, 32, .inl o_values139_86))] := hV89.sub [0, 1, 3, 2, 4, 5, 6, 7, 8] rfl rfl
        clear hV84
        refine lv_istore (lv' := [(7, .int r139_85), (6, .ref a7), (5, .int r24_8), (0, .ref a0), (1, .ref a1), (2, .int p2), (3, .int p3), (4, .int r2_1)]) hx hb dX7_heightOf_142 hl31 (by decide) rfl (fun ls hl91 => ?_)
        clear hl31
        refine lv_iload hx hb dX7_heightOf_144 (lv_at hl91 0 rfl) ?_
        refine lv_iconst (v := (-1)) hx hb dX7_heightOf_146 (by decide) ?_
        refine lv_icmp_ne (tgt := 154) hx hb dX7_heightOf_147 (by decide) (fun c92 => ?_) (fun c92 => ?_)
        · have h93 := ieS c92 h88
          clear h88 c92
          refine lv_iconst (v := 0) hx hb dX7_heightOf_154 (by decide) ?_
          refine lv_sipush (v := 1000) hx hb dX7_heightOf_155 (by decide) ?_
          refine lv_aload_n hx hb dX7_heightOf_158 rfl (lv_at hl91 3 rfl) ?_
          refine kget X hV89 (ci := 7) inlX7 rfl 0 rfl 1 (by decide) mw_74 rfl dX7_heightOf_159 ?_
          refine lv_aload_n hx hb dX7_heightOf_162 rfl (lv_at hl91 4 rfl) ?_
          refine kget X hV89 (ci := 8) inlX8 rfl 1 rfl 6 (by decide) mw_650 rfl dX7_heightOf_163 ?_
          refine lv_iload hx hb dX7_heightOf_166 (lv_at hl91 0 rfl) ?_
          obtain ⟨r168_95, o_values168_96, hc97, h98⟩ := cb2_s h93
          clear h93
          refine kgoiE (krunV (rest := [.int 1000, .int 0]) X hV89 [3, 2, 4, 5, 6, 7, 8] (c_X5_worth l E _ a3 a2 a4 a5 a6 a7 a8 (.int s_p1_law_clauses) n_p1_law_code n_p1_law_middles n_p1_law_starts s_p1_law_code s_p1_law_middles s_p1_law_starts g130_80 o_values139_86 r139_85 r168_95 o_values168_96 hc97) mw_688 kb_X5_worth (ci := 5) rfl rfl (by decide) rfl rfl hl91.1 rfl (Nat.le_of_ble_eq_true rfl) dX7_heightOf_168 (by decide)) X hV89 [3, 2, 4, 5, 6, 7, 8] [0, 1] rfl rfl rfl (by decide) (fun u H locs hV99 => ?_)
          have hV99 : kV E A s.heap H locs [(a0, .inr (7, [w0_0, .ref a3, w0_2, .int s_seed])), (a1, .inr (8, [.int s_p1_number, .int s_p1_star, .int s_p1_minute, .int s_p1_wide, w1_4, .int s_p1_weekdays, .ref a2])), (a2, .inr (10, [.int s_p1_law_clauses, .ref a4, .ref a6, .ref a5])), (a3, .inr (5, [.ref a7, .ref a8])), (a4, .inl (E.2 0, n_p1_law_code, .inl s_p1_law_code)), (a5, .inl (E.2 0, n_p1_law_middles, .inl s_p1_law_middles)), (a6, .inl (E.2 0, n_p1_law_starts, .inl s_p1_law_starts)), (a7, .inl (E.2 0, 128, .inl g130_80)), (a8, .inl (E.2 0, 32, .inl o_values168_96))] := hV99.sub [0, 1, 3, 2, 4, 5, 6, 7, 8] rfl rfl
          clear hV89
          refine va_mmin hx hb (X.2.2.1.trans hl91.1.symm) X.2.2.2.1 (X.2.2.2.2.1 _ mw_653) (X.2.2.2.2.1 _ mw_280) (X.2.2.2.2.1 _ mw_281) (X.2.2.2.2.1 _ mw_282) (by decide) (Nat.le_of_ble_eq_true rfl) (by decide) (by decide) dX7_heightOf_171 ?_
          refine va_mmax hx hb (X.2.2.1.trans hl91.1.symm) X.2.2.2.1 (X.2.2.2.2.1 _ mw_654) (X.2.2.2.2.1 _ mw_354) (X.2.2.2.2.1 _ mw_281) (X.2.2.2.2.1 _ mw_355) (by decide) (Nat.le_of_ble_eq_true rfl) (by decide) (by decide) dX7_heightOf_174 ?_
          obtain ⟨q101, q102, q103⟩ := tup3_s h98
          clear h98
          exact hret _ () _ _ _ _ q101 rfl (by rw [← q102, ← q103]; exact hV99) dX7_heightOf_177
        · have h94 := itS c92 h88
          clear h88 c92
          refine lv_iconst (v := 0) hx hb dX7_heightOf_150 (by decide) ?_
          refine lv_goto (tgt := 177) hx hb dX7_heightOf_151 (by decide) ?_
          obtain ⟨q104, q105, q106⟩ := tup3_s h94
          clear h94
          exact hret _ () _ _ _ _ q104 rfl (by rw [← q105, ← q106]; exact hV89) dX7_heightOf_177
  refine lv_if_eq (tgt := 19) hx hb dX7_heightOf_11 (by decide) (fun c107 => ?_) (fun c107 => ?_)
  · have h108 := itS c107 h3
    clear h3 c107
    refine lv_iload_n hx hb dX7_heightOf_19 rfl (lv_at hl6 4 rfl) ?_
    exact J20 p3 _ _ _ h108 hV4 (lv_sub hl6 [1, 2, 3, 4, 0] rfl)
  · have h109 := ieS c107 h3
    clear h3 c107
    refine lv_iload hx hb dX7_heightOf_14 (lv_at hl6 0 rfl) ?_
    refine lv_goto (tgt := 20) hx hb dX7_heightOf_16 (by decide) ?_
    exact J20 r2_1 _ _ _ h109 hV4 (lv_sub hl6 [1, 2, 3, 4, 0] rfl)
