noncomputable def f_X6_writeClauses_J39 (o_length3_1 : Int32)  (x4_11 : Int32) (at__12 : Int32) (fault__13 : Int32) (used__14 : Int32) (code__15 : Nat → Int32) (middles__16 : Nat → Int32) (starts__17 : Nat → Int32) : Option (Int32 × Int32 × Int32 × Int32 × (Nat → Int32) × (Nat → Int32) × (Nat → Int32) × Option kTv) :=
    cb1 (f_X6_written used__14 code__15 middles__16 starts__17 (x4_11 + 1)) fun nt44_18 =>
    some (o_length3_1, at__12, used__14, fault__13, code__15, middles__16, starts__17, nt44_18)
noncomputable def f_X6_writeClauses_J79 (o_length3_1 : Int32) (at__31 : Int32) (fault__32 : Int32) (used__33 : Int32) (code__34 : Nat → Int32) (middles__35 : Nat → Int32) (starts__36 : Nat → Int32)  (t1_42 : Int32) : Option (Int32 × Int32 × Int32 × Int32 × (Nat → Int32) × (Nat → Int32) × (Nat → Int32) × Option kTv) :=
    cb2 (f_X6_fail fault__32 t1_42) fun r79_43 o_fault79_44 =>
    some (o_length3_1, at__31, used__33, o_fault79_44, code__34, middles__35, starts__36, none)
noncomputable def f_X6_writeClauses_J65 (n_p1 : Nat) (s_p1 : Nat → Int32) (p3 : Int32) (o_length3_1 : Int32)  (at__31 : Int32) (fault__32 : Int32) (used__33 : Int32) (code__34 : Nat → Int32) (middles__35 : Nat → Int32) (starts__36 : Nat → Int32) : Option (Int32 × Int32 × Int32 × Int32 × (Nat → Int32) × (Nat → Int32) × (Nat → Int32) × Option kTv) :=
    cb1 (f_X6_next n_p1 o_length3_1 at__31 s_p1) fun r67_37 =>
    if r67_37 = p3 then
    ((f_X6_writeClauses_J79 o_length3_1 at__31 fault__32 used__33 code__34 middles__35 starts__36 ) 4)
    else
    ((f_X6_writeClauses_J79 o_length3_1 at__31 fault__32 used__33 code__34 middles__35 starts__36 ) 1)
noncomputable def f_X6_writeClauses_L9 (n_p1 : Nat) (s_p1 : Nat → Int32) (p3 : Int32) (o_length3_1 : Int32) (K39 : Int32 → Int32 → Int32 → Int32 → (Nat → Int32) → (Nat → Int32) → (Nat → Int32) → Option (Int32 × Int32 × Int32 × Int32 × (Nat → Int32) × (Nat → Int32) × (Nat → Int32) × Option kTv)) (K65 : Int32 → Int32 → Int32 → (Nat → Int32) → (Nat → Int32) → (Nat → Int32) → Option (Int32 × Int32 × Int32 × Int32 × (Nat → Int32) × (Nat → Int32) × (Nat → Int32) × Option kTv)) : Nat → Int32 → Int32 → Int32 → Int32 → (Nat → Int32) → (Nat → Int32) → (Nat → Int32) → Option (Int32 × Int32 × Int32 × Int32 × (Nat → Int32) × (Nat → Int32) × (Nat → Int32) × Option kTv)
  | 0, _, _, _, _, _, _, _ => none
  | n9 + 1, x4_60, at__61, fault__62, used__63, code__64, middles__65, starts__66 =>
    if 12 ≤ x4_60 then
    (K65 at__61 fault__62 used__63 code__64 middles__65 starts__66)
    else
    (cb7 (f_X6_clauseStands n_p1 o_length3_1 at__61 used__63 fault__62 s_p1 code__64 middles__65 starts__66 p3 x4_60) fun r20_70 o_at20_71 o_used20_72 o_fault20_73 o_code20_74 o_middles20_75 o_starts20_76 =>
      if r20_70 = 0 then
      (some (o_length3_1, o_at20_71, o_used20_72, o_fault20_73, o_code20_74, o_middles20_75, o_starts20_76, none))
      else
      (if o_at20_71 = o_length3_1 then
        (K39 x4_60 o_at20_71 o_fault20_73 o_used20_72 o_code20_74 o_middles20_75 o_starts20_76)
        else
        (cb3 (f_X6_signStands n_p1 o_length3_1 o_at20_71 o_fault20_73 s_p1 59) fun r51_87 o_at51_88 o_fault51_89 =>
          if r51_87 = 0 then
          (some (o_length3_1, o_at51_88, o_used20_72, o_fault51_89, o_code20_74, o_middles20_75, o_starts20_76, none))
          else
          (nmI (x4_60 + 1) fun v59_97 =>
            (f_X6_writeClauses_L9 n_p1 s_p1 p3 o_length3_1 K39 K65 n9) v59_97 o_at51_88 o_fault51_89 o_used20_72 o_code20_74 o_middles20_75 o_starts20_76))))
noncomputable def f_X6_writeClauses (n_p1 : Nat) (s_length : Int32) (s_at : Int32) (s_used : Int32) (s_fault : Int32) (s_p1 : Nat → Int32) (s_code : Nat → Int32) (s_middles : Nat → Int32) (s_starts : Nat → Int32) (p2 : Int32) (p3 : Int32) : Option (Int32 × Int32 × Int32 × Int32 × (Nat → Int32) × (Nat → Int32) × (Nat → Int32) × Option kTv) :=
    cb5 (f_X6_begin n_p1 s_length s_at s_used s_fault s_starts p2) fun o_length3_1 o_at3_2 o_used3_3 o_fault3_4 o_starts3_5 =>
    (f_X6_writeClauses_L9 n_p1 s_p1 p3 o_length3_1 (f_X6_writeClauses_J39 o_length3_1 ) (f_X6_writeClauses_J65 n_p1 s_p1 p3 o_length3_1 ) FU) 0 o_at3_2 o_fault3_4 o_used3_3 s_code s_middles o_starts3_5
abbrev r_X6_writeClauses : Room := { frames := 112, cells := 4, slots := 149, locals := 7048 }
set_option maxHeartbeats 4000000 in
set_option maxRecDepth 100000 in
theorem c_X6_writeClauses (l : Launch) (E : kE) (sz : Nat) (a0 a1 a2 a3 a4 : Nat) (w0_3 : Value) (n_p1 : Nat) (s_length : Int32) (s_at : Int32) (s_used : Int32) (s_fault : Int32) (s_p1 : Nat → Int32) (s_code : Nat → Int32) (s_middles : Nat → Int32) (s_starts : Nat → Int32) (p2 : Int32) (p3 : Int32) (o_length : Int32) (o_at : Int32) (o_used : Int32) (o_fault : Int32) (o_code : Nat → Int32) (o_middles : Nat → Int32) (o_starts : Nat → Int32) (nt : Option kTv) (h : f_X6_writeClauses n_p1 s_length s_at s_used s_fault s_p1 s_code s_middles s_starts p2 p3 = some (o_length, o_at, o_used, o_fault, o_code, o_middles, o_starts, nt)) : kMq l yX6_writeClauses cX6_writeClauses 5 (some (.object "ScruffPaper$Text")) r_X6_writeClauses [.ref a0, .ref a1, .int p2, .int p3] E [(a0, .inr (6, [.ref a2, .ref a4, .ref a3, w0_3, .int s_length, .int s_at, .int s_used, .int s_fault])), (a1, .inl (E.2 0, n_p1, .inl s_p1)), (a2, .inl (E.2 0, 120, .inl s_code)), (a3, .inl (E.2 0, 12, .inl s_middles)), (a4, .inl (E.2 0, 13, .inl s_starts))] sz 4 149 (fun x (u : Option kTx) => x = u.map kta ∧ u.map (fun t => t.2) = nt) (fun u => ([(a0, .inr (6, [.ref a2, .ref a4, .ref a3, .ref a1, .int o_length, .int o_at, .int o_used, .int o_fault])), (a1, .inl (E.2 0, n_p1, .inl s_p1)), (a2, .inl (E.2 0, 120, .inl o_code)), (a3, .inl (E.2 0, 12, .inl o_middles)), (a4, .inl (E.2 0, 13, .inl o_starts))] : va_W) ++ koc u (ktc E)) := by
  refine kmetq (Or.inl ⟨_, rfl⟩) rfl (Nat.le_of_ble_eq_true rfl) ?_
  intro p e s m args below meth c ls A Q X hV hret hl
  have X : kC p s m c cX6_writeClauses 5 RX6 args E A := X
  have hx := X.1
  have hb := X.2.1
  have hl : lv_has ls 5 [(0, .ref a0), (1, .ref a1), (2, .int p2), (3, .int p3)] := hl
  rw [f_X6_writeClauses] at h
  refine lv_aload_n hx hb dX6_writeClauses_0 rfl (lv_at hl 0 rfl) ?_
  refine lv_aload_n hx hb dX6_writeClauses_1 rfl (lv_at hl 1 rfl) ?_
  refine lv_iload_n hx hb dX6_writeClauses_2 rfl (lv_at hl 2 rfl) ?_
  obtain ⟨o_length3_1, o_at3_2, o_used3_3, o_fault3_4, o_starts3_5, hc6, h7⟩ := cb5_s h
  clear h
  refine kgov (krunV (rest := []) X hV [0, 1, 4] (c_X6_begin l E _ a0 a1 a4 (.ref a2) (.ref a3) (w0_3) n_p1 s_length s_at s_used s_fault s_p1 s_starts p2 o_length3_1 o_at3_2 o_used3_3 o_fault3_4 o_starts3_5 hc6) mw_275 kb_X6_begin (ci := 6) rfl rfl (by decide) rfl rfl hl.1 rfl (Nat.le_of_ble_eq_true rfl) dX6_writeClauses_3 (by decide)) X hV [0, 1, 4] [2, 3] rfl rfl rfl (by decide) (fun u H locs hp9 hV8 => ?_)
  have hV8 : kV E A s.heap H locs [(a0, .inr (6, [.ref a2, .ref a4, .ref a3, .ref a1, .int o_length3_1, .int o_at3_2, .int o_used3_3, .int o_fault3_4])), (a1, .inl (E.2 0, n_p1, .inl s_p1)), (a2, .inl (E.2 0, 120, .inl s_code)), (a3, .inl (E.2 0, 12, .inl s_middles)), (a4, .inl (E.2 0, 13, .inl o_starts3_5))] := hV8.sub [2, 3, 0, 1, 4] rfl rfl
  clear hV
  refine lv_iconst (v := 0) hx hb dX6_writeClauses_6 (by decide) ?_
  refine lv_istore (lv' := [(4, .int 0), (0, .ref a0), (1, .ref a1), (2, .int p2), (3, .int p3)]) hx hb dX6_writeClauses_7 hl (by decide) rfl (fun ls hl10 => ?_)
  clear hl
  have J39 : ∀ (x4_11 : Int32) (at__12 : Int32) (fault__13 : Int32) (used__14 : Int32) (code__15 : Nat → Int32) (middles__16 : Nat → Int32) (starts__17 : Nat → Int32) (H : Heap) (locs : List Loc) (ls : Array Slot), (f_X6_writeClauses_J39 o_length3_1 ) x4_11 at__12 fault__13 used__14 code__15 middles__16 starts__17 = some (o_length, o_at, o_used, o_fault, o_code, o_middles, o_starts, nt) → kV E A s.heap H locs [(a0, .inr (6, [.ref a2, .ref a4, .ref a3, .ref a1, .int o_length3_1, .int at__12, .int used__14, .int fault__13])), (a1, .inl (E.2 0, n_p1, .inl s_p1)), (a2, .inl (E.2 0, 120, .inl code__15)), (a3, .inl (E.2 0, 12, .inl middles__16)), (a4, .inl (E.2 0, 13, .inl starts__17))] → lv_has ls 5 [(0, .ref a0), (4, .int x4_11)] → W p l e r_X6_writeClauses s m args below meth c H locs 0 0 Q (F0 m 39 ls []) := by
    intro x4_11 at__12 fault__13 used__14 code__15 middles__16 starts__17 H locs ls hB39 hVB39 hlB39
    rw [f_X6_writeClauses_J39] at hB39
    refine lv_aload_n hx hb dX6_writeClauses_39 rfl (lv_at hlB39 0 rfl) ?_
    refine lv_iload hx hb dX6_writeClauses_40 (lv_at hlB39 1 rfl) ?_
    refine lv_iconst (v := 1) hx hb dX6_writeClauses_42 (by decide) ?_
    refine lv_iadd hx hb dX6_writeClauses_43 ?_
    obtain ⟨nt44_18, hc19, h20⟩ := cb1_s hB39
    clear hB39
    refine kgoq (krunV (rest := []) X hVB39 [0, 2, 3, 4] (c_X6_written l E _ a0 a2 a3 a4 (.ref a1) (.int o_length3_1) (.int at__12) (.int fault__13) used__14 code__15 middles__16 starts__17 (x4_11 + 1) nt44_18 hc19) mw_419 kb_X6_written (ci := 6) rfl rfl (by decide) rfl rfl hlB39.1 rfl (Nat.le_of_ble_eq_true rfl) dX6_writeClauses_44 (by decide)) X hVB39 [0, 2, 3, 4] [1] rfl rfl rfl (by decide) (fun x u H locs hp22 hV21 => ?_)
    have hV21 : kV E A s.heap H locs (([(a0, .inr (6, [.ref a2, .ref a4, .ref a3, .ref a1, .int o_length3_1, .int at__12, .int used__14, .int fault__13])), (a1, .inl (E.2 0, n_p1, .inl s_p1)), (a2, .inl (E.2 0, 120, .inl code__15)), (a3, .inl (E.2 0, 12, .inl middles__16)), (a4, .inl (E.2 0, 13, .inl starts__17))] : va_W) ++ koc u (ktc E)) := kV.subP (X := (([(a1, .inl (E.2 0, n_p1, .inl s_p1))] : va_W) ++ ([(a0, .inr (6, [.ref a2, .ref a4, .ref a3, .ref a1, .int o_length3_1, .int at__12, .int used__14, .int fault__13])), (a2, .inl (E.2 0, 120, .inl code__15)), (a3, .inl (E.2 0, 12, .inl middles__16)), (a4, .inl (E.2 0, 13, .inl starts__17))] : va_W))) (P := koc u (ktc E)) hV21 [1, 0, 2, 3, 4] rfl rfl
    clear hVB39
    obtain ⟨q23, q24, q25, q26, q27, q28, q29, q30⟩ := tup8_s h20
    clear h20
    exact hret x u _ _ _ _ ⟨hp22.1, hp22.2.trans q30⟩ (by rw [← q23, ← q24, ← q25, ← q26, ← q27, ← q28, ← q29]; exact hV21) dX6_writeClauses_47
  have J65 : ∀ (at__31 : Int32) (fault__32 : Int32) (used__33 : Int32) (code__34 : Nat → Int32) (middles__35 : Nat → Int32) (starts__36 : Nat → Int32) (H : Heap) (locs : List Loc) (ls : Array Slot), (f_X6_writeClauses_J65 n_p1 s_p1 p3 o_length3_1 ) at__31 fault__32 used__33 code__34 middles__35 starts__36 = some (o_length, o_at, o_used, o_fault, o_code, o_middles, o_starts, nt) → kV E A s.heap H locs [(a0, .inr (6, [.ref a2, .ref a4, .ref a3, .ref a1, .int o_length3_1, .int at__31, .int used__33, .int fault__32])), (a1, .inl (E.2 0, n_p1, .inl s_p1)), (a2, .inl (E.2 0, 120, .inl code__34)), (a3, .inl (E.2 0, 12, .inl middles__35)), (a4, .inl (E.2 0, 13, .inl starts__36))] → lv_has ls 5 [(0, .ref a0), (3, .int p3)] → W p l e r_X6_writeClauses s m args below meth c H locs 0 0 Q (F0 m 65 ls []) := by
    intro at__31 fault__32 used__33 code__34 middles__35 starts__36 H locs ls hB65 hVB65 hlB65
    rw [f_X6_writeClauses_J65] at hB65
    refine lv_aload_n hx hb dX6_writeClauses_65 rfl (lv_at hlB65 0 rfl) ?_
    refine lv_aload_n hx hb dX6_writeClauses_66 rfl (lv_at hlB65 0 rfl) ?_
    obtain ⟨r67_37, hc38, h39⟩ := cb1_s hB65
    clear hB65
    refine kgoiE (krunV (rest := [.ref a0]) X hVB65 [0, 1] (c_X6_next l E _ a0 a1 (.ref a2) (.ref a4) (.ref a3) (.int used__33) (.int fault__32) n_p1 o_length3_1 at__31 s_p1 r67_37 hc38) mw_291 kb_X6_next (ci := 6) rfl rfl (by decide) rfl rfl hlB65.1 rfl (Nat.le_of_ble_eq_true rfl) dX6_writeClauses_67 (by decide)) X hVB65 [0, 1] [2, 3, 4] rfl rfl rfl (by decide) (fun u H locs hV40 => ?_)
    have hV40 : kV E A s.heap H locs [(a0, .inr (6, [.ref a2, .ref a4, .ref a3, .ref a1, .int o_length3_1, .int at__31, .int used__33, .int fault__32])), (a1, .inl (E.2 0, n_p1, .inl s_p1)), (a2, .inl (E.2 0, 120, .inl code__34)), (a3, .inl (E.2 0, 12, .inl middles__35)), (a4, .inl (E.2 0, 13, .inl starts__36))] := hV40.sub [3, 4, 0, 1, 2] rfl rfl
    clear hVB65
    refine lv_iload_n hx hb dX6_writeClauses_70 rfl (lv_at hlB65 1 rfl) ?_
    have J79 : ∀ (t1_42 : Int32) (H : Heap) (locs : List Loc) (ls : Array Slot), (f_X6_writeClauses_J79 o_length3_1 at__31 fault__32 used__33 code__34 middles__35 starts__36 ) t1_42 = some (o_length, o_at, o_used, o_fault, o_code, o_middles, o_starts, nt) → kV E A s.heap H locs [(a0, .inr (6, [.ref a2, .ref a4, .ref a3, .ref a1, .int o_length3_1, .int at__31, .int used__33, .int fault__32])), (a1, .inl (E.2 0, n_p1, .inl s_p1)), (a2, .inl (E.2 0, 120, .inl code__34)), (a3, .inl (E.2 0, 12, .inl middles__35)), (a4, .inl (E.2 0, 13, .inl starts__36))] → lv_has ls 5 [] → W p l e r_X6_writeClauses s m args below meth c H locs 0 0 Q (F0 m 79 ls [.int t1_42, .ref a0]) := by
      intro t1_42 H locs ls hB79 hVB79 hlB79
      rw [f_X6_writeClauses_J79] at hB79
      obtain ⟨r79_43, o_fault79_44, hc45, h46⟩ := cb2_s hB79
      clear hB79
      refine kgoiE (krunV (rest := []) X hVB79 [0] (c_X6_fail l E _ a0 (.ref a2) (.ref a4) (.ref a3) (.ref a1) (.int o_length3_1) (.int at__31) (.int used__33) fault__32 t1_42 r79_43 o_fault79_44 hc45) mw_295 kb_X6_fail (ci := 6) rfl rfl (by decide) rfl rfl hlB79.1 rfl (Nat.le_of_ble_eq_true rfl) dX6_writeClauses_79 (by decide)) X hVB79 [0] [1, 2, 3, 4] rfl rfl rfl (by decide) (fun u H locs hV47 => ?_)
      have hV47 : kV E A s.heap H locs [(a0, .inr (6, [.ref a2, .ref a4, .ref a3, .ref a1, .int o_length3_1, .int at__31, .int used__33, .int o_fault79_44])), (a1, .inl (E.2 0, n_p1, .inl s_p1)), (a2, .inl (E.2 0, 120, .inl code__34)), (a3, .inl (E.2 0, 12, .inl middles__35)), (a4, .inl (E.2 0, 13, .inl starts__36))] := hV47.sub [4, 0, 1, 2, 3] rfl rfl
      clear hVB79
      refine lv_pop hx hb dX6_writeClauses_82 rfl ?_
      refine lv_null hx hb dX6_writeClauses_83 ?_
      obtain ⟨q49, q50, q51, q52, q53, q54, q55, q56⟩ := tup8_s h46
      clear h46
      refine W.widen (k := 4) (n := 149) (by decide) (by decide) ?_
      exact hret none none _ _ _ _ ⟨rfl, q56⟩ (by rw [← q49, ← q50, ← q51, ← q52, ← q53, ← q54, ← q55]; exact hV47) dX6_writeClauses_84
    refine lv_icmp_ne (tgt := 78) hx hb dX6_writeClauses_71 (by decide) (fun c57 => ?_) (fun c57 => ?_)
    · have h58 := ieS c57 h39
      clear h39 c57
      refine lv_iconst (v := 1) hx hb dX6_writeClauses_78 (by decide) ?_
      exact J79 1 _ _ _ h58 hV40 (lv_sub hlB65 [] rfl)
    · have h59 := itS c57 h39
      clear h39 c57
      refine lv_iconst (v := 4) hx hb dX6_writeClauses_74 (by decide) ?_
      refine lv_goto (tgt := 79) hx hb dX6_writeClauses_75 (by decide) ?_
      exact J79 4 _ _ _ h59 hV40 (lv_sub hlB65 [] rfl)
  have L9 : ∀ (n9 : Nat) (x4_60 : Int32) (at__61 : Int32) (fault__62 : Int32) (used__63 : Int32) (code__64 : Nat → Int32) (middles__65 : Nat → Int32) (starts__66 : Nat → Int32) (H : Heap) (locs : List Loc) (ls : Array Slot), (f_X6_writeClauses_L9 n_p1 s_p1 p3 o_length3_1 (f_X6_writeClauses_J39 o_length3_1 ) (f_X6_writeClauses_J65 n_p1 s_p1 p3 o_length3_1 ) n9) x4_60 at__61 fault__62 used__63 code__64 middles__65 starts__66 = some (o_length, o_at, o_used, o_fault, o_code, o_middles, o_starts, nt) → kV E A s.heap H locs [(a0, .inr (6, [.ref a2, .ref a4, .ref a3, .ref a1, .int o_length3_1, .int at__61, .int used__63, .int fault__62])), (a1, .inl (E.2 0, n_p1, .inl s_p1)), (a2, .inl (E.2 0, 120, .inl code__64)), (a3, .inl (E.2 0, 12, .inl middles__65)), (a4, .inl (E.2 0, 13, .inl starts__66))] → lv_has ls 5 [(0, .ref a0), (3, .int p3), (4, .int x4_60)] → W p l e r_X6_writeClauses s m args below meth c H locs 0 0 Q (F0 m 9 ls []) := by
    intro n9
    induction n9 with
    | zero =>
      intro x4_60 at__61 fault__62 used__63 code__64 middles__65 starts__66 H locs ls hB9 hVB9 hlB9
      rw [f_X6_writeClauses_L9] at hB9
      exact nomatch hB9
    | succ n9 ih9 =>
      intro x4_60 at__61 fault__62 used__63 code__64 middles__65 starts__66 H locs ls hB9 hVB9 hlB9
      rw [f_X6_writeClauses_L9] at hB9
      refine lv_iload hx hb dX6_writeClauses_9 (lv_at hlB9 2 rfl) ?_
      refine lv_bipush (v := 12) hx hb dX6_writeClauses_11 (by decide) ?_
      refine lv_icmp_ge (tgt := 65) hx hb dX6_writeClauses_13 (by decide) (fun c67 => ?_) (fun c67 => ?_)
      · have h68 := itS c67 hB9
        clear hB9 c67
        exact J65 at__61 fault__62 used__63 code__64 middles__65 starts__66 _ _ _ h68 hVB9 (lv_sub hlB9 [0, 1] rfl)
      · have h69 := ieS c67 hB9
        clear hB9 c67
        refine lv_aload_n hx hb dX6_writeClauses_16 rfl (lv_at hlB9 0 rfl) ?_
        refine lv_iload_n hx hb dX6_writeClauses_17 rfl (lv_at hlB9 1 rfl) ?_
        refine lv_iload hx hb dX6_writeClauses_18 (lv_at hlB9 2 rfl) ?_
        obtain ⟨r20_70, o_at20_71, o_used20_72, o_fault20_73, o_code20_74, o_middles20_75, o_starts20_76, hc77, h78⟩ := cb7_s h69
        clear h69
        refine kgoiE (krunV (rest := []) X hVB9 [0, 1, 2, 3, 4] (c_X6_clauseStands l E _ a0 a1 a2 a3 a4 n_p1 o_length3_1 at__61 used__63 fault__62 s_p1 code__64 middles__65 starts__66 p3 x4_60 r20_70 o_at20_71 o_used20_72 o_fault20_73 o_code20_74 o_middles20_75 o_starts20_76 hc77) mw_283 kb_X6_clauseStands (ci := 6) rfl rfl (by decide) rfl rfl hlB9.1 rfl (Nat.le_of_ble_eq_true rfl) dX6_writeClauses_20 (by decide)) X hVB9 [0, 1, 2, 3, 4] [] rfl rfl rfl (by decide) (fun u H locs hV79 => ?_)
        have hV79 : kV E A s.heap H locs [(a0, .inr (6, [.ref a2, .ref a4, .ref a3, .ref a1, .int o_length3_1, .int o_at20_71, .int o_used20_72, .int o_fault20_73])), (a1, .inl (E.2 0, n_p1, .inl s_p1)), (a2, .inl (E.2 0, 120, .inl o_code20_74)), (a3, .inl (E.2 0, 12, .inl o_middles20_75)), (a4, .inl (E.2 0, 13, .inl o_starts20_76))] := hV79.sub [0, 1, 2, 3, 4] rfl rfl
        clear hVB9
        refine lv_if_ne (tgt := 28) hx hb dX6_writeClauses_23 (by decide) (fun c81 => ?_) (fun c81 => ?_)
        · have h82 := ieS c81 h78
          clear h78 c81
          refine lv_aload_n hx hb dX6_writeClauses_28 rfl (lv_at hlB9 0 rfl) ?_
          refine kget X hV79 (ci := 6) inlX6 rfl 0 rfl 5 (by decide) mw_62 rfl dX6_writeClauses_29 ?_
          refine lv_aload_n hx hb dX6_writeClauses_32 rfl (lv_at hlB9 0 rfl) ?_
          refine kget X hV79 (ci := 6) inlX6 rfl 0 rfl 4 (by decide) mw_61 rfl dX6_writeClauses_33 ?_
          refine lv_icmp_ne (tgt := 48) hx hb dX6_writeClauses_36 (by decide) (fun c84 => ?_) (fun c84 => ?_)
          · have h85 := ieS c84 h82
            clear h82 c84
            refine lv_aload_n hx hb dX6_writeClauses_48 rfl (lv_at hlB9 0 rfl) ?_
            refine lv_bipush (v := 59) hx hb dX6_writeClauses_49 (by decide) ?_
            obtain ⟨r51_87, o_at51_88, o_fault51_89, hc90, h91⟩ := cb3_s h85
            clear h85
            refine kgoiE (krunV (rest := []) X hV79 [0, 1] (c_X6_signStands l E _ a0 a1 (.ref a2) (.ref a4) (.ref a3) (.int o_used20_72) n_p1 o_length3_1 o_at20_71 o_fault20_73 s_p1 59 r51_87 o_at51_88 o_fault51_89 hc90) mw_287 kb_X6_signStands (ci := 6) rfl rfl (by decide) rfl rfl hlB9.1 rfl (Nat.le_of_ble_eq_true rfl) dX6_writeClauses_51 (by decide)) X hV79 [0, 1] [2, 3, 4] rfl rfl rfl (by decide) (fun u H locs hV92 => ?_)
            have hV92 : kV E A s.heap H locs [(a0, .inr (6, [.ref a2, .ref a4, .ref a3, .ref a1, .int o_length3_1, .int o_at51_88, .int o_used20_72, .int o_fault51_89])), (a1, .inl (E.2 0, n_p1, .inl s_p1)), (a2, .inl (E.2 0, 120, .inl o_code20_74)), (a3, .inl (E.2 0, 12, .inl o_middles20_75)), (a4, .inl (E.2 0, 13, .inl o_starts20_76))] := hV92.sub [3, 4, 0, 1, 2] rfl rfl
            clear hV79
            refine lv_if_ne (tgt := 59) hx hb dX6_writeClauses_54 (by decide) (fun c94 => ?_) (fun c94 => ?_)
            · have h95 := ieS c94 h91
              clear h91 c94
              obtain ⟨v59_97, e98, h99⟩ := nmI_s h95
              clear h95
              refine lv_iinc (v := v59_97) (lv' := [(4, .int v59_97), (0, .ref a0), (3, .int p3)]) hx hb dX6_writeClauses_59 hlB9 (k := 2) rfl (by rw [e98]; rfl) (by decide) rfl (fun ls hl100 => ?_)
              clear hlB9 e98
              refine lv_goto (tgt := 9) hx hb dX6_writeClauses_62 (by decide) ?_
              exact ih9 v59_97 o_at51_88 o_fault51_89 o_used20_72 o_code20_74 o_middles20_75 o_starts20_76 _ _ _ h99 hV92 (lv_sub hl100 [1, 2, 0] rfl)
            · have h96 := itS c94 h91
              clear h91 c94
              refine lv_null hx hb dX6_writeClauses_57 ?_
              obtain ⟨q101, q102, q103, q104, q105, q106, q107, q108⟩ := tup8_s h96
              clear h96
              refine W.widen (k := 4) (n := 149) (by decide) (by decide) ?_
              exact hret none none _ _ _ _ ⟨rfl, q108⟩ (by rw [← q101, ← q102, ← q103, ← q104, ← q105, ← q106, ← q107]; exact hV92) dX6_writeClauses_58
          · have h86 := itS c84 h82
            clear h82 c84
            exact J39 x4_60 o_at20_71 o_fault20_73 o_used20_72 o_code20_74 o_middles20_75 o_starts20_76 _ _ _ h86 hV79 (lv_sub hlB9 [0, 2] rfl)
        · have h83 := itS c81 h78
          clear h78 c81
          refine lv_null hx hb dX6_writeClauses_26 ?_
          obtain ⟨q109, q110, q111, q112, q113, q114, q115, q116⟩ := tup8_s h83
          clear h83
          refine W.widen (k := 4) (n := 149) (by decide) (by decide) ?_
          exact hret none none _ _ _ _ ⟨rfl, q116⟩ (by rw [← q109, ← q110, ← q111, ← q112, ← q113, ← q114, ← q115]; exact hV79) dX6_writeClauses_27
  exact L9 FU 0 o_at3_2 o_fault3_4 o_used3_3 s_code s_middles o_starts3_5 _ _ _ h7 hV8 (lv_sub hl10 [1, 4, 0] rfl)
noncomputable def f_X6_writeExpression (n_p1 : Nat) (s_length : Int32) (s_at : Int32) (s_used : Int32) (s_fault : Int32) (s_p1 : Nat → Int32) (s_code : Nat → Int32) (s_middles : Nat → Int32) (s_starts : Nat → Int32) (p2 : Int32) : Option (Int32 × Int32 × Int32 × Int32 × (Nat → Int32) × (Nat → Int32) × (Nat → Int32) × Option kTv) :=
    cb5 (f_X6_begin n_p1 s_length s_at s_used s_fault s_starts p2) fun o_length3_1 o_at3_2 o_used3_3 o_fault3_4 o_starts3_5 =>
    cb5 (f_X6_rowStands n_p1 o_length3_1 o_at3_2 o_used3_3 o_fault3_4 s_p1 s_code 2 0) fun r9_10 o_at9_11 o_used9_12 o_fault9_13 o_code9_14 =>
    if r9_10 = 0 then
    (some (o_length3_1, o_at9_11, o_used9_12, o_fault9_13, o_code9_14, s_middles, o_starts3_5, none))
    else
    (if o_length3_1 ≤ o_at9_11 then
      (wrI s_middles 12 0 o_used9_12 fun g45_25 =>
        wrI o_starts3_5 13 1 o_used9_12 fun g55_30 =>
        cb1 (f_X6_written o_used9_12 o_code9_14 g45_25 g55_30 1) fun nt58_35 =>
        some (o_length3_1, o_at9_11, o_used9_12, o_fault9_13, o_code9_14, g45_25, g55_30, nt58_35))
      else
      (cb2 (f_X6_fail o_fault9_13 1) fun r30_48 o_fault30_49 =>
        some (o_length3_1, o_at9_11, o_used9_12, o_fault30_49, o_code9_14, s_middles, o_starts3_5, none)))
abbrev r_X6_writeExpression : Room := { frames := 111, cells := 4, slots := 149, locals := 7026 }
set_option maxHeartbeats 4000000 in
set_option maxRecDepth 100000 in
theorem c_X6_writeExpression (l : Launch) (E : kE) (sz : Nat) (a0 a1 a2 a3 a4 : Nat) (w0_3 : Value) (n_p1 : Nat) (s_length : Int32) (s_at : Int32) (s_used : Int32) (s_fault : Int32) (s_p1 : Nat → Int32) (s_code : Nat → Int32) (s_middles : Nat → Int32) (s_starts : Nat → Int32) (p2 : Int32) (o_length : Int32) (o_at : Int32) (o_used : Int32) (o_fault : Int32) (o_code : Nat → Int32) (o_middles : Nat → Int32) (o_starts : Nat → Int32) (nt : Option kTv) (h : f_X6_writeExpression n_p1 s_length s_at s_used s_fault s_p1 s_code s_middles s_starts p2 = some (o_length, o_at, o_used, o_fault, o_code, o_middles, o_starts, nt)) : kMq l yX6_writeExpression cX6_writeExpression 3 (some (.object "ScruffPaper$Text")) r_X6_writeExpression [.ref a0, .ref a1, .int p2] E [(a0, .inr (6, [.ref a2, .ref a4, .ref a3, w0_3, .int s_length, .int s_at, .int s_used, .int s_fault])), (a1, .inl (E.2 0, n_p1, .inl s_p1)), (a2, .inl (E.2 0, 120, .inl s_code)), (a3, .inl (E.2 0, 12, .inl s_middles)), (a4, .inl (E.2 0, 13, .inl s_starts))] sz 4 149 (fun x (u : Option kTx) => x = u.map kta ∧ u.map (fun t => t.2) = nt) (fun u => ([(a0, .inr (6, [.ref a2, .ref a4, .ref a3, .ref a1, .int o_length, .int o_at, .int o_used, .int o_fault])), (a1, .inl (E.2 0, n_p1, .inl s_p1)), (a2, .inl (E.2 0, 120, .inl o_code)), (a3, .inl (E.2 0, 12, .inl o_middles)), (a4, .inl (E.2 0, 13, .inl o_starts))] : va_W) ++ koc u (ktc E)) := by
  refine kmetq (Or.inl ⟨_, rfl⟩) rfl (Nat.le_of_ble_eq_true rfl) ?_
  intro p e s m args below meth c ls A Q X hV hret hl
  have X : kC p s m c cX6_writeExpression 3 RX6 args E A := X
  have hx := X.1
  have hb := X.2.1
  have hl : lv_has ls 3 [(0, .ref a0), (1, .ref a1), (2, .int p2)] := hl
  rw [f_X6_writeExpression] at h
  refine lv_aload_n hx hb dX6_writeExpression_0 rfl (lv_at hl 0 rfl) ?_
  refine lv_aload_n hx hb dX6_writeExpression_1 rfl (lv_at hl 1 rfl) ?_
  refine lv_iload_n hx hb dX6_writeExpression_2 rfl (lv_at hl 2 rfl) ?_
  obtain ⟨o_length3_1, o_at3_2, o_used3_3, o_fault3_4, o_starts3_5, hc6, h7⟩ := cb5_s h
  clear h
  refine kgov (krunV (rest := []) X hV [0, 1, 4] (c_X6_begin l E _ a0 a1 a4 (.ref a2) (.ref a3) (w0_3) n_p1 s_length s_at s_used s_fault s_p1 s_starts p2 o_length3_1 o_at3_2 o_used3_3 o_fault3_4 o_starts3_5 hc6) mw_275 kb_X6_begin (ci := 6) rfl rfl (by decide) rfl rfl hl.1 rfl (Nat.le_of_ble_eq_true rfl) dX6_writeExpression_3 (by decide)) X hV [0, 1, 4] [2, 3] rfl rfl rfl (by decide) (fun u H locs hp9 hV8 => ?_)
  have hV8 : kV E A s.heap H locs [(a0, .inr (6, [.ref a2, .ref a4, .ref a3, .ref a1, .int o_length3_1, .int o_at3_2, .int o_used3_3, .int o_fault3_4])), (a1, .inl (E.2 0, n_p1, .inl s_p1)), (a2, .inl (E.2 0, 120, .inl s_code)), (a3, .inl (E.2 0, 12, .inl s_middles)), (a4, .inl (E.2 0, 13, .inl o_starts3_5))] := hV8.sub [2, 3, 0, 1, 4] rfl rfl
  clear hV
  refine lv_aload_n hx hb dX6_writeExpression_6 rfl (lv_at hl 0 rfl) ?_
  refine lv_iconst (v := 2) hx hb dX6_writeExpression_7 (by decide) ?_
  refine lv_iconst (v := 0) hx hb dX6_writeExpression_8 (by decide) ?_
  obtain ⟨r9_10, o_at9_11, o_used9_12, o_fault9_13, o_code9_14, hc15, h16⟩ := cb5_s h7
  clear h7
  refine kgoiE (krunV (rest := []) X hV8 [0, 1, 2] (c_X6_rowStands l E _ a0 a1 a2 (.ref a4) (.ref a3) n_p1 o_length3_1 o_at3_2 o_used3_3 o_fault3_4 s_p1 s_code 2 0 r9_10 o_at9_11 o_used9_12 o_fault9_13 o_code9_14 hc15) mw_299 kb_X6_rowStands (ci := 6) rfl rfl (by decide) rfl rfl hl.1 rfl (Nat.le_of_ble_eq_true rfl) dX6_writeExpression_9 (by decide)) X hV8 [0, 1, 2] [3, 4] rfl rfl rfl (by decide) (fun u H locs hV17 => ?_)
  have hV17 : kV E A s.heap H locs [(a0, .inr (6, [.ref a2, .ref a4, .ref a3, .ref a1, .int o_length3_1, .int o_at9_11, .int o_used9_12, .int o_fault9_13])), (a1, .inl (E.2 0, n_p1, .inl s_p1)), (a2, .inl (E.2 0, 120, .inl o_code9_14)), (a3, .inl (E.2 0, 12, .inl s_middles)), (a4, .inl (E.2 0, 13, .inl o_starts3_5))] := hV17.sub [2, 3, 4, 0, 1] rfl rfl
  clear hV8
  refine lv_if_ne (tgt := 17) hx hb dX6_writeExpression_12 (by decide) (fun c19 => ?_) (fun c19 => ?_)
  · have h20 := ieS c19 h16
    clear h16 c19
    refine lv_aload_n hx hb dX6_writeExpression_17 rfl (lv_at hl 0 rfl) ?_
    refine kget X hV17 (ci := 6) inlX6 rfl 0 rfl 5 (by decide) mw_62 rfl dX6_writeExpression_18 ?_
    refine lv_aload_n hx hb dX6_writeExpression_21 rfl (lv_at hl 0 rfl) ?_
    refine kget X hV17 (ci := 6) inlX6 rfl 0 rfl 4 (by decide) mw_61 rfl dX6_writeExpression_22 ?_
    refine lv_icmp_ge (tgt := 36) hx hb dX6_writeExpression_25 (by decide) (fun c22 => ?_) (fun c22 => ?_)
    · have h23 := itS c22 h20
      clear h20 c22
      refine lv_aload_n hx hb dX6_writeExpression_36 rfl (lv_at hl 0 rfl) ?_
      refine kget X hV17 (ci := 6) inlX6 rfl 0 rfl 2 (by decide) mw_59 rfl dX6_writeExpression_37 ?_
      refine lv_iconst (v := 0) hx hb dX6_writeExpression_40 (by decide) ?_
      refine lv_aload_n hx hb dX6_writeExpression_41 rfl (lv_at hl 0 rfl) ?_
      refine kget X hV17 (ci := 6) inlX6 rfl 0 rfl 6 (by decide) mw_63 rfl dX6_writeExpression_42 ?_
      obtain ⟨hi26, g45_25, e27, h28⟩ := wrI_s h23
      clear h23
      refine kiast X hV17 3 rfl hi26 e27 dX6_writeExpression_45 (fun H locs hV29 => ?_)
      have hV29 : kV E A s.heap H locs [(a0, .inr (6, [.ref a2, .ref a4, .ref a3, .ref a1, .int o_length3_1, .int o_at9_11, .int o_used9_12, .int o_fault9_13])), (a1, .inl (E.2 0, n_p1, .inl s_p1)), (a2, .inl (E.2 0, 120, .inl o_code9_14)), (a3, .inl (E.2 0, 12, .inl g45_25)), (a4, .inl (E.2 0, 13, .inl o_starts3_5))] := hV29
      clear hV17 hi26 e27
      refine lv_aload_n hx hb dX6_writeExpression_46 rfl (lv_at hl 0 rfl) ?_
      refine kget X hV29 (ci := 6) inlX6 rfl 0 rfl 1 (by decide) mw_58 rfl dX6_writeExpression_47 ?_
      refine lv_iconst (v := 1) hx hb dX6_writeExpression_50 (by decide) ?_
      refine lv_aload_n hx hb dX6_writeExpression_51 rfl (lv_at hl 0 rfl) ?_
      refine kget X hV29 (ci := 6) inlX6 rfl 0 rfl 6 (by decide) mw_63 rfl dX6_writeExpression_52 ?_
      obtain ⟨hi31, g55_30, e32, h33⟩ := wrI_s h28
      clear h28
      refine kiast X hV29 4 rfl hi31 e32 dX6_writeExpression_55 (fun H locs hV34 => ?_)
      have hV34 : kV E A s.heap H locs [(a0, .inr (6, [.ref a2, .ref a4, .ref a3, .ref a1, .int o_length3_1, .int o_at9_11, .int o_used9_12, .int o_fault9_13])), (a1, .inl (E.2 0, n_p1, .inl s_p1)), (a2, .inl (E.2 0, 120, .inl o_code9_14)), (a3, .inl (E.2 0, 12, .inl g45_25)), (a4, .inl (E.2 0, 13, .inl g55_30))] := hV34
      clear hV29 hi31 e32
      refine lv_aload_n hx hb dX6_writeExpression_56 rfl (lv_at hl 0 rfl) ?_
      refine lv_iconst (v := 1) hx hb dX6_writeExpression_57 (by decide) ?_
      obtain ⟨nt58_35, hc36, h37⟩ := cb1_s h33
      clear h33
      refine kgoq (krunV (rest := []) X hV34 [0, 2, 3, 4] (c_X6_written l E _ a0 a2 a3 a4 (.ref a1) (.int o_length3_1) (.int o_at9_11) (.int o_fault9_13) o_used9_12 o_code9_14 g45_25 g55_30 1 nt58_35 hc36) mw_419 kb_X6_written (ci := 6) rfl rfl (by decide) rfl rfl hl.1 rfl (Nat.le_of_ble_eq_true rfl) dX6_writeExpression_58 (by decide)) X hV34 [0, 2, 3, 4] [1] rfl rfl rfl (by decide) (fun x u H locs hp39 hV38 => ?_)
      have hV38 : kV E A s.heap H locs (([(a0, .inr (6, [.ref a2, .ref a4, .ref a3, .ref a1, .int o_length3_1, .int o_at9_11, .int o_used9_12, .int o_fault9_13])), (a1, .inl (E.2 0, n_p1, .inl s_p1)), (a2, .inl (E.2 0, 120, .inl o_code9_14)), (a3, .inl (E.2 0, 12, .inl g45_25)), (a4, .inl (E.2 0, 13, .inl g55_30))] : va_W) ++ koc u (ktc E)) := kV.subP (X := (([(a1, .inl (E.2 0, n_p1, .inl s_p1))] : va_W) ++ ([(a0, .inr (6, [.ref a2, .ref a4, .ref a3, .ref a1, .int o_length3_1, .int o_at9_11, .int o_used9_12, .int o_fault9_13])), (a2, .inl (E.2 0, 120, .inl o_code9_14)), (a3, .inl (E.2 0, 12, .inl g45_25)), (a4, .inl (E.2 0, 13, .inl g55_30))] : va_W))) (P := koc u (ktc E)) hV38 [1, 0, 2, 3, 4] rfl rfl
      clear hV34
      obtain ⟨q40, q41, q42, q43, q44, q45, q46, q47⟩ := tup8_s h37
      clear h37
      exact hret x u _ _ _ _ ⟨hp39.1, hp39.2.trans q47⟩ (by rw [← q40, ← q41, ← q42, ← q43, ← q44, ← q45, ← q46]; exact hV38) dX6_writeExpression_61
    · have h24 := ieS c22 h20
      clear h20 c22
      refine lv_aload_n hx hb dX6_writeExpression_28 rfl (lv_at hl 0 rfl) ?_
      refine lv_iconst (v := 1) hx hb dX6_writeExpression_29 (by decide) ?_
      obtain ⟨r30_48, o_fault30_49, hc50, h51⟩ := cb2_s h24
      clear h24
      refine kgoiE (krunV (rest := []) X hV17 [0] (c_X6_fail l E _ a0 (.ref a2) (.ref a4) (.ref a3) (.ref a1) (.int o_length3_1) (.int o_at9_11) (.int o_used9_12) o_fault9_13 1 r30_48 o_fault30_49 hc50) mw_295 kb_X6_fail (ci := 6) rfl rfl (by decide) rfl rfl hl.1 rfl (Nat.le_of_ble_eq_true rfl) dX6_writeExpression_30 (by decide)) X hV17 [0] [1, 2, 3, 4] rfl rfl rfl (by decide) (fun u H locs hV52 => ?_)
      have hV52 : kV E A s.heap H locs [(a0, .inr (6, [.ref a2, .ref a4, .ref a3, .ref a1, .int o_length3_1, .int o_at9_11, .int o_used9_12, .int o_fault30_49])), (a1, .inl (E.2 0, n_p1, .inl s_p1)), (a2, .inl (E.2 0, 120, .inl o_code9_14)), (a3, .inl (E.2 0, 12, .inl s_middles)), (a4, .inl (E.2 0, 13, .inl o_starts3_5))] := hV52.sub [4, 0, 1, 2, 3] rfl rfl
      clear hV17
      refine lv_pop hx hb dX6_writeExpression_33 rfl ?_
      refine lv_null hx hb dX6_writeExpression_34 ?_
      obtain ⟨q54, q55, q56, q57, q58, q59, q60, q61⟩ := tup8_s h51
      clear h51
      refine W.widen (k := 4) (n := 149) (by decide) (by decide) ?_
      exact hret none none _ _ _ _ ⟨rfl, q61⟩ (by rw [← q54, ← q55, ← q56, ← q57, ← q58, ← q59, ← q60]; exact hV52) dX6_writeExpression_35
  · have h21 := itS c19 h16
    clear h16 c19
    refine lv_null hx hb dX6_writeExpression_15 ?_
    obtain ⟨q62, q63, q64, q65, q66, q67, q68, q69⟩ := tup8_s h21
    clear h21
    refine W.widen (k := 4) (n := 149) (by decide) (by decide) ?_
    exact hret none none _ _ _ _ ⟨rfl, q69⟩ (by rw [← q62, ← q63, ← q64, ← q65, ← q66, ← q67, ← q68]; exact hV17) dX6_writeExpression_16
