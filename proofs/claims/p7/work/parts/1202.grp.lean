/-- rooms of methods that call each other: by depth -/
abbrev rg (d : Nat) : Room := { frames := 10 + d, cells := 0, slots := 0, locals := 1000 + 60 * d }
theorem kRm_g {rm : Room} {mc ms maxL : Nat} (d : Nat) (h : kRm rm { frames := 10, cells := 0, slots := 0, locals := 1000 } mc ms maxL 0 0) : kRm rm (rg d) mc ms maxL 0 0 :=
  ⟨h.1, h.2.1, Nat.le_trans h.2.2.1 (Nat.le_add_right _ _), Nat.le_trans h.2.2.2.1 (Nat.le_add_right _ _), h.2.2.2.2⟩
theorem kRm_s {maxL : Nat} (d : Nat) (h : maxL ≤ 41) : kRm (rg d) (rg (d + 1)) 0 0 maxL 0 0 :=
  ⟨rfl, rfl, by show 10 + d + 1 ≤ 10 + (d + 1); omega, by show 8 + (maxL + 11) + (1000 + 60 * d) ≤ 1000 + 60 * (d + 1); omega, Nat.le_refl 0, Nat.le_refl 0⟩
noncomputable def b_X6_rowStands_J72 (s_length : Int32) (n_this_bytes : Nat) (s_bytes : Nat → Int32) (p1 : Int32) (p2 : Int32) (G1 : Nat → Int32 → Int32 → Int32 → Int32 → (Nat → Int32) → (Nat → Int32) → Int32 → Int32 → Option (Int32 × Int32 × Int32 × Int32 × (Nat → Int32))) (x3_14 : Int32) (at__15 : Int32) (fault__16 : Int32) (used__17 : Int32) (r33_45 : Int32) (t0_52 : Int32) (K13 : Int32 → Int32 → Int32 → Int32 → (Nat → Int32) → Option (Int32 × Int32 × Int32 × Int32 × (Nat → Int32))) (used__54 : Int32) (code__55 : Nat → Int32) : Option (Int32 × Int32 × Int32 × Int32 × (Nat → Int32)) :=
    nmI (at__15 + 1) fun v79_56 =>
    cb5 (G1 n_this_bytes s_length v79_56 used__54 fault__16 s_bytes code__55 p1 p2) fun r85_60 o_at85_61 o_used85_62 o_fault85_63 o_code85_64 =>
    if r85_60 = 0 then
    (some (0, o_at85_61, o_used85_62, o_fault85_63, o_code85_64))
    else
    (if t0_52 = 0 then
      (cb2 (f_X6_put o_used85_62 o_code85_64 r33_45 0) fun o_used111_75 o_code111_76 =>
        nmI (x3_14 + 1) fun v114_81 =>
        K13 v114_81 o_at85_61 o_fault85_63 o_used111_75 o_code111_76)
      else
      (cb1 (f_X6_leapHere o_used85_62 o_code85_64 used__17) fun o_code101_85 =>
        nmI (x3_14 + 1) fun v114_90 =>
        K13 v114_90 o_at85_61 o_fault85_63 o_used85_62 o_code101_85))
noncomputable def b_X6_rowStands_J58 (s_length : Int32) (n_this_bytes : Nat) (s_bytes : Nat → Int32) (p1 : Int32) (p2 : Int32) (G1 : Nat → Int32 → Int32 → Int32 → Int32 → (Nat → Int32) → (Nat → Int32) → Int32 → Int32 → Option (Int32 × Int32 × Int32 × Int32 × (Nat → Int32))) (x3_14 : Int32) (at__15 : Int32) (fault__16 : Int32) (used__17 : Int32) (code__18 : Nat → Int32) (r33_45 : Int32) (K13 : Int32 → Int32 → Int32 → Int32 → (Nat → Int32) → Option (Int32 × Int32 × Int32 × Int32 × (Nat → Int32))) (t0_52 : Int32) : Option (Int32 × Int32 × Int32 × Int32 × (Nat → Int32)) :=
    if t0_52 = 0 then
    ((b_X6_rowStands_J72 s_length n_this_bytes s_bytes p1 p2 G1 x3_14 at__15 fault__16 used__17 r33_45 t0_52 K13) used__17 code__18)
    else
    (cb2 (f_X6_put used__17 code__18 r33_45 0) fun o_used69_102 o_code69_103 =>
      (b_X6_rowStands_J72 s_length n_this_bytes s_bytes p1 p2 G1 x3_14 at__15 fault__16 used__17 r33_45 t0_52 K13) o_used69_102 o_code69_103)
noncomputable def b_X6_rowStands_L13 (s_length : Int32) (n_this_bytes : Nat) (s_bytes : Nat → Int32) (p1 : Int32) (p2 : Int32) (G1 : Nat → Int32 → Int32 → Int32 → Int32 → (Nat → Int32) → (Nat → Int32) → Int32 → Int32 → Option (Int32 × Int32 × Int32 × Int32 × (Nat → Int32)))  : Nat → Int32 → Int32 → Int32 → Int32 → (Nat → Int32) → Option (Int32 × Int32 × Int32 × Int32 × (Nat → Int32))
  | 0, _, _, _, _, _ => none
  | n13 + 1, x3_14, at__15, fault__16, used__17, code__18 =>
    if s_length ≤ x3_14 then
    (some (1, at__15, used__17, fault__16, code__18))
    else
    (cb1 (f_X6_next n_this_bytes s_length at__15 s_bytes) fun r23_27 =>
      cb1 (f_X6_joins p1 r23_27) fun r26_32 =>
      if r26_32 = 0 then
      (some (1, at__15, used__17, fault__16, code__18))
      else
      (cb1 (f_X6_next n_this_bytes s_length at__15 s_bytes) fun r33_45 =>
        if p1 = 0 then
        ((b_X6_rowStands_J58 s_length n_this_bytes s_bytes p1 p2 G1 x3_14 at__15 fault__16 used__17 code__18 r33_45 (b_X6_rowStands_L13 s_length n_this_bytes s_bytes p1 p2 G1  n13)) 1)
        else
        (if p1 = 1 then
          ((b_X6_rowStands_J58 s_length n_this_bytes s_bytes p1 p2 G1 x3_14 at__15 fault__16 used__17 code__18 r33_45 (b_X6_rowStands_L13 s_length n_this_bytes s_bytes p1 p2 G1  n13)) 1)
          else
          ((b_X6_rowStands_J58 s_length n_this_bytes s_bytes p1 p2 G1 x3_14 at__15 fault__16 used__17 code__18 r33_45 (b_X6_rowStands_L13 s_length n_this_bytes s_bytes p1 p2 G1  n13)) 0))))
noncomputable def b_X6_rowStands (G0 : Nat → Int32 → Int32 → Int32 → Int32 → (Nat → Int32) → (Nat → Int32) → Int32 → Int32 → Option (Int32 × Int32 × Int32 × Int32 × (Nat → Int32))) (G1 : Nat → Int32 → Int32 → Int32 → Int32 → (Nat → Int32) → (Nat → Int32) → Int32 → Int32 → Option (Int32 × Int32 × Int32 × Int32 × (Nat → Int32))) (G2 : Nat → Int32 → Int32 → Int32 → Int32 → (Nat → Int32) → (Nat → Int32) → Int32 → Option (Int32 × Int32 × Int32 × Int32 × (Nat → Int32))) (G3 : Nat → Int32 → Int32 → Int32 → Int32 → (Nat → Int32) → (Nat → Int32) → Int32 → Option (Int32 × Int32 × Int32 × Int32 × (Nat → Int32))) (n_this_bytes : Nat) (s_length : Int32) (s_at : Int32) (s_used : Int32) (s_fault : Int32) (s_bytes : Nat → Int32) (s_code : Nat → Int32) (p1 : Int32) (p2 : Int32) : Option (Int32 × Int32 × Int32 × Int32 × (Nat → Int32)) :=
    cb5 (G1 n_this_bytes s_length s_at s_used s_fault s_bytes s_code p1 p2) fun r3_1 o_at3_2 o_used3_3 o_fault3_4 o_code3_5 =>
    if r3_1 = 0 then
    (some (0, o_at3_2, o_used3_3, o_fault3_4, o_code3_5))
    else
    ((b_X6_rowStands_L13 s_length n_this_bytes s_bytes p1 p2 G1  FU) 0 o_at3_2 o_fault3_4 o_used3_3 o_code3_5)
set_option maxHeartbeats 4000000 in
set_option maxRecDepth 100000 in
theorem o_X6_rowStands (l : Launch) (E : kE) (d : Nat) (G0 : Nat → Int32 → Int32 → Int32 → Int32 → (Nat → Int32) → (Nat → Int32) → Int32 → Int32 → Option (Int32 × Int32 × Int32 × Int32 × (Nat → Int32))) (G1 : Nat → Int32 → Int32 → Int32 → Int32 → (Nat → Int32) → (Nat → Int32) → Int32 → Int32 → Option (Int32 × Int32 × Int32 × Int32 × (Nat → Int32))) (G2 : Nat → Int32 → Int32 → Int32 → Int32 → (Nat → Int32) → (Nat → Int32) → Int32 → Option (Int32 × Int32 × Int32 × Int32 × (Nat → Int32))) (G3 : Nat → Int32 → Int32 → Int32 → Int32 → (Nat → Int32) → (Nat → Int32) → Int32 → Option (Int32 × Int32 × Int32 × Int32 × (Nat → Int32))) (hG0 : ∀ (sz : Nat) (a0 a1 a2 : Nat) (w0_1 w0_2 : Value) (n_this_bytes : Nat) (s_length : Int32) (s_at : Int32) (s_used : Int32) (s_fault : Int32) (s_bytes : Nat → Int32) (s_code : Nat → Int32) (p1 : Int32) (p2 : Int32) (r : Int32) (o_at : Int32) (o_used : Int32) (o_fault : Int32) (o_code : Nat → Int32), G0 n_this_bytes s_length s_at s_used s_fault s_bytes s_code p1 p2 = some (r, o_at, o_used, o_fault, o_code) → kMi l yX6_rowStands cX6_rowStands 7 (some .boolean) (rg d) [.ref a0, .int p1, .int p2] E [(a0, .inr (6, [.ref a2, w0_1, w0_2, .ref a1, .int s_length, .int s_at, .int s_used, .int s_fault])), (a1, .inl (E.2 0, n_this_bytes, .inl s_bytes)), (a2, .inl (E.2 0, 120, .inl s_code))] sz 0 0 (fun x (_ : Unit) => x = r) (fun _ => [(a0, .inr (6, [.ref a2, w0_1, w0_2, .ref a1, .int s_length, .int o_at, .int o_used, .int o_fault])), (a1, .inl (E.2 0, n_this_bytes, .inl s_bytes)), (a2, .inl (E.2 0, 120, .inl o_code))])) (hG1 : ∀ (sz : Nat) (a0 a1 a2 : Nat) (w0_1 w0_2 : Value) (n_this_bytes : Nat) (s_length : Int32) (s_at : Int32) (s_used : Int32) (s_fault : Int32) (s_bytes : Nat → Int32) (s_code : Nat → Int32) (p1 : Int32) (p2 : Int32) (r : Int32) (o_at : Int32) (o_used : Int32) (o_fault : Int32) (o_code : Nat → Int32), G1 n_this_bytes s_length s_at s_used s_fault s_bytes s_code p1 p2 = some (r, o_at, o_used, o_fault, o_code) → kMi l yX6_operandStands cX6_operandStands 3 (some .boolean) (rg d) [.ref a0, .int p1, .int p2] E [(a0, .inr (6, [.ref a2, w0_1, w0_2, .ref a1, .int s_length, .int s_at, .int s_used, .int s_fault])), (a1, .inl (E.2 0, n_this_bytes, .inl s_bytes)), (a2, .inl (E.2 0, 120, .inl s_code))] sz 0 0 (fun x (_ : Unit) => x = r) (fun _ => [(a0, .inr (6, [.ref a2, w0_1, w0_2, .ref a1, .int s_length, .int o_at, .int o_used, .int o_fault])), (a1, .inl (E.2 0, n_this_bytes, .inl s_bytes)), (a2, .inl (E.2 0, 120, .inl o_code))])) (hG2 : ∀ (sz : Nat) (a0 a1 a2 : Nat) (w0_1 w0_2 : Value) (n_this_bytes : Nat) (s_length : Int32) (s_at : Int32) (s_used : Int32) (s_fault : Int32) (s_bytes : Nat → Int32) (s_code : Nat → Int32) (p1 : Int32) (r : Int32) (o_at : Int32) (o_used : Int32) (o_fault : Int32) (o_code : Nat → Int32), G2 n_this_bytes s_length s_at s_used s_fault s_bytes s_code p1 = some (r, o_at, o_used, o_fault, o_code) → kMi l yX6_pieceStands cX6_pieceStands 4 (some .boolean) (rg d) [.ref a0, .int p1] E [(a0, .inr (6, [.ref a2, w0_1, w0_2, .ref a1, .int s_length, .int s_at, .int s_used, .int s_fault])), (a1, .inl (E.2 0, n_this_bytes, .inl s_bytes)), (a2, .inl (E.2 0, 120, .inl s_code))] sz 0 0 (fun x (_ : Unit) => x = r) (fun _ => [(a0, .inr (6, [.ref a2, w0_1, w0_2, .ref a1, .int s_length, .int o_at, .int o_used, .int o_fault])), (a1, .inl (E.2 0, n_this_bytes, .inl s_bytes)), (a2, .inl (E.2 0, 120, .inl o_code))])) (hG3 : ∀ (sz : Nat) (a0 a1 a2 : Nat) (w0_1 w0_2 : Value) (n_this_bytes : Nat) (s_length : Int32) (s_at : Int32) (s_used : Int32) (s_fault : Int32) (s_bytes : Nat → Int32) (s_code : Nat → Int32) (p1 : Int32) (r : Int32) (o_at : Int32) (o_used : Int32) (o_fault : Int32) (o_code : Nat → Int32), G3 n_this_bytes s_length s_at s_used s_fault s_bytes s_code p1 = some (r, o_at, o_used, o_fault, o_code) → kMi l yX6_factorStands cX6_factorStands 3 (some .boolean) (rg d) [.ref a0, .int p1] E [(a0, .inr (6, [.ref a2, w0_1, w0_2, .ref a1, .int s_length, .int s_at, .int s_used, .int s_fault])), (a1, .inl (E.2 0, n_this_bytes, .inl s_bytes)), (a2, .inl (E.2 0, 120, .inl s_code))] sz 0 0 (fun x (_ : Unit) => x = r) (fun _ => [(a0, .inr (6, [.ref a2, w0_1, w0_2, .ref a1, .int s_length, .int o_at, .int o_used, .int o_fault])), (a1, .inl (E.2 0, n_this_bytes, .inl s_bytes)), (a2, .inl (E.2 0, 120, .inl o_code))])) (sz : Nat) (a0 a1 a2 : Nat) (w0_1 w0_2 : Value) (n_this_bytes : Nat) (s_length : Int32) (s_at : Int32) (s_used : Int32) (s_fault : Int32) (s_bytes : Nat → Int32) (s_code : Nat → Int32) (p1 : Int32) (p2 : Int32) (r : Int32) (o_at : Int32) (o_used : Int32) (o_fault : Int32) (o_code : Nat → Int32) (h : b_X6_rowStands G0 G1 G2 G3 n_this_bytes s_length s_at s_used s_fault s_bytes s_code p1 p2 = some (r, o_at, o_used, o_fault, o_code)) : kMi l yX6_rowStands cX6_rowStands 7 (some .boolean) (rg (d + 1)) [.ref a0, .int p1, .int p2] E [(a0, .inr (6, [.ref a2, w0_1, w0_2, .ref a1, .int s_length, .int s_at, .int s_used, .int s_fault])), (a1, .inl (E.2 0, n_this_bytes, .inl s_bytes)), (a2, .inl (E.2 0, 120, .inl s_code))] sz 0 0 (fun x (_ : Unit) => x = r) (fun _ => [(a0, .inr (6, [.ref a2, w0_1, w0_2, .ref a1, .int s_length, .int o_at, .int o_used, .int o_fault])), (a1, .inl (E.2 0, n_this_bytes, .inl s_bytes)), (a2, .inl (E.2 0, 120, .inl o_code))]) := by
  refine kmeti rfl (Nat.le_of_ble_eq_true rfl) ?_
  intro p e s m args below meth c ls A Q X hV hret hl
  have X : kC p s m c cX6_rowStands 7 RX6 args E A := X
  have hx := X.1
  have hb := X.2.1
  have hl : lv_has ls 7 [(0, .ref a0), (1, .int p1), (2, .int p2)] := hl
  rw [b_X6_rowStands] at h
  refine lv_aload_n hx hb dX6_rowStands_0 rfl (lv_at hl 0 rfl) ?_
  refine lv_iload_n hx hb dX6_rowStands_1 rfl (lv_at hl 1 rfl) ?_
  refine lv_iload_n hx hb dX6_rowStands_2 rfl (lv_at hl 2 rfl) ?_
  obtain ⟨r3_1, o_at3_2, o_used3_3, o_fault3_4, o_code3_5, hc6, h7⟩ := cb5_s h
  clear h
  refine kgoiE (krunV (rest := []) X hV [0, 1, 2] (hG1 _ a0 a1 a2 (w0_1) (w0_2) n_this_bytes s_length s_at s_used s_fault s_bytes s_code p1 p2 r3_1 o_at3_2 o_used3_3 o_fault3_4 o_code3_5 hc6) mw_303 kb_X6_operandStands (ci := 6) rfl rfl (by decide) rfl rfl hl.1 rfl (Nat.le_of_ble_eq_true rfl) dX6_rowStands_3 (kRm_s _ (by decide))) X hV [0, 1, 2] [] rfl rfl rfl (by decide) (fun u H locs hV8 => ?_)
  have hV8 : kV E A s.heap H locs [(a0, .inr (6, [.ref a2, w0_1, w0_2, .ref a1, .int s_length, .int o_at3_2, .int o_used3_3, .int o_fault3_4])), (a1, .inl (E.2 0, n_this_bytes, .inl s_bytes)), (a2, .inl (E.2 0, 120, .inl o_code3_5))] := hV8.sub [0, 1, 2] rfl rfl
  clear hV
  refine lv_if_ne (tgt := 11) hx hb dX6_rowStands_6 (by decide) (fun c10 => ?_) (fun c10 => ?_)
  · have h11 := ieS c10 h7
    clear h7 c10
    refine lv_iconst (v := 0) hx hb dX6_rowStands_11 (by decide) ?_
    refine lv_istore_n (lv' := [(3, .int 0), (0, .ref a0), (1, .int p1), (2, .int p2)]) hx hb dX6_rowStands_12 rfl hl (by decide) rfl (fun ls hl13 => ?_)
    clear hl
    have L13 : ∀ (n13 : Nat) (x3_14 : Int32) (at__15 : Int32) (fault__16 : Int32) (used__17 : Int32) (code__18 : Nat → Int32) (H : Heap) (locs : List Loc) (ls : Array Slot), (b_X6_rowStands_L13 s_length n_this_bytes s_bytes p1 p2 G1  n13) x3_14 at__15 fault__16 used__17 code__18 = some (r, o_at, o_used, o_fault, o_code) → kV E A s.heap H locs [(a0, .inr (6, [.ref a2, w0_1, w0_2, .ref a1, .int s_length, .int at__15, .int used__17, .int fault__16])), (a1, .inl (E.2 0, n_this_bytes, .inl s_bytes)), (a2, .inl (E.2 0, 120, .inl code__18))] → lv_has ls 7 [(0, .ref a0), (1, .int p1), (2, .int p2), (3, .int x3_14)] → W p l e (rg (d + 1)) s m args below meth c H locs 0 0 Q (F0 m 13 ls []) := by
      intro n13
      induction n13 with
      | zero =>
        intro x3_14 at__15 fault__16 used__17 code__18 H locs ls hB13 hVB13 hlB13
        rw [b_X6_rowStands_L13] at hB13
        exact nomatch hB13
      | succ n13 ih13 =>
        intro x3_14 at__15 fault__16 used__17 code__18 H locs ls hB13 hVB13 hlB13
        rw [b_X6_rowStands_L13] at hB13
        refine lv_iload_n hx hb dX6_rowStands_13 rfl (lv_at hlB13 3 rfl) ?_
        refine lv_aload_n hx hb dX6_rowStands_14 rfl (lv_at hlB13 0 rfl) ?_
        refine kget X hVB13 (ci := 6) inlX6 rfl 0 rfl 4 (by decide) mw_61 rfl dX6_rowStands_15 ?_
        refine lv_icmp_ge (tgt := 120) hx hb dX6_rowStands_18 (by decide) (fun c19 => ?_) (fun c19 => ?_)
        · have h20 := itS c19 hB13
          clear hB13 c19
          refine lv_iconst (v := 1) hx hb dX6_rowStands_120 (by decide) ?_
          obtain ⟨q22, q23, q24, q25, q26⟩ := tup5_s h20
          clear h20
          exact hret _ () _ _ _ _ q22 rfl (by rw [← q23, ← q24, ← q25, ← q26]; exact hVB13) dX6_rowStands_121
        · have h21 := ieS c19 hB13
          clear hB13 c19
          refine lv_iload_n hx hb dX6_rowStands_21 rfl (lv_at hlB13 1 rfl) ?_
          refine lv_aload_n hx hb dX6_rowStands_22 rfl (lv_at hlB13 0 rfl) ?_
          obtain ⟨r23_27, hc28, h29⟩ := cb1_s h21
          clear h21
          refine kgoiE (krunV (rest := [.int p1]) X hVB13 [0, 1] (c_X6_next l E _ a0 a1 (.ref a2) (w0_1) (w0_2) (.int used__17) (.int fault__16) n_this_bytes s_length at__15 s_bytes r23_27 hc28) mw_291 kb_X6_next (ci := 6) rfl rfl (by decide) rfl rfl hlB13.1 rfl (Nat.le_of_ble_eq_true rfl) dX6_rowStands_23 (kRm_g _ (by decide))) X hVB13 [0, 1] [2] rfl rfl rfl (by decide) (fun u H locs hV30 => ?_)
          have hV30 : kV E A s.heap H locs [(a0, .inr (6, [.ref a2, w0_1, w0_2, .ref a1, .int s_length, .int at__15, .int used__17, .int fault__16])), (a1, .inl (E.2 0, n_this_bytes, .inl s_bytes)), (a2, .inl (E.2 0, 120, .inl code__18))] := hV30.sub [1, 2, 0] rfl rfl
          clear hVB13
          obtain ⟨r26_32, hc33, h34⟩ := cb1_s h29
          clear h29
          refine kgoiE (krunS (rest := []) X hV30 [] (c_X6_joins l E _ p1 r23_27 r26_32 hc33) mw_306 kb_X6_joins (by decide) rfl rfl hlB13.1 rfl (Nat.le_of_ble_eq_true rfl) dX6_rowStands_26 (kRm_g _ (by decide))) X hV30 [] [0, 1, 2] rfl rfl rfl (by decide) (fun u H locs hV35 => ?_)
          have hV35 : kV E A s.heap H locs [(a0, .inr (6, [.ref a2, w0_1, w0_2, .ref a1, .int s_length, .int at__15, .int used__17, .int fault__16])), (a1, .inl (E.2 0, n_this_bytes, .inl s_bytes)), (a2, .inl (E.2 0, 120, .inl code__18))] := hV35.sub [0, 1, 2] rfl rfl
          clear hV30
          refine lv_if_eq (tgt := 120) hx hb dX6_rowStands_29 (by decide) (fun c37 => ?_) (fun c37 => ?_)
          · have h38 := itS c37 h34
            clear h34 c37
            refine lv_iconst (v := 1) hx hb dX6_rowStands_120 (by decide) ?_
            obtain ⟨q40, q41, q42, q43, q44⟩ := tup5_s h38
            clear h38
            exact hret _ () _ _ _ _ q40 rfl (by rw [← q41, ← q42, ← q43, ← q44]; exact hV35) dX6_rowStands_121
          · have h39 := ieS c37 h34
            clear h34 c37
            refine lv_aload_n hx hb dX6_rowStands_32 rfl (lv_at hlB13 0 rfl) ?_
            obtain ⟨r33_45, hc46, h47⟩ := cb1_s h39
            clear h39
            refine kgoiE (krunV (rest := []) X hV35 [0, 1] (c_X6_next l E _ a0 a1 (.ref a2) (w0_1) (w0_2) (.int used__17) (.int fault__16) n_this_bytes s_length at__15 s_bytes r33_45 hc46) mw_291 kb_X6_next (ci := 6) rfl rfl (by decide) rfl rfl hlB13.1 rfl (Nat.le_of_ble_eq_true rfl) dX6_rowStands_33 (kRm_g _ (by decide))) X hV35 [0, 1] [2] rfl rfl rfl (by decide) (fun u H locs hV48 => ?_)
            have hV48 : kV E A s.heap H locs [(a0, .inr (6, [.ref a2, w0_1, w0_2, .ref a1, .int s_length, .int at__15, .int used__17, .int fault__16])), (a1, .inl (E.2 0, n_this_bytes, .inl s_bytes)), (a2, .inl (E.2 0, 120, .inl code__18))] := hV48.sub [1, 2, 0] rfl rfl
            clear hV35
            refine lv_istore (lv' := [(4, .int r33_45), (0, .ref a0), (1, .int p1), (2, .int p2), (3, .int x3_14)]) hx hb dX6_rowStands_36 hlB13 (by decide) rfl (fun ls hl50 => ?_)
            clear hlB13
            refine lv_aload_n hx hb dX6_rowStands_38 rfl (lv_at hl50 1 rfl) ?_
            refine kget X hV48 (ci := 6) inlX6 rfl 0 rfl 6 (by decide) mw_63 rfl dX6_rowStands_39 ?_
            refine lv_istore (lv' := [(5, .int used__17), (4, .int r33_45), (0, .ref a0), (1, .int p1), (2, .int p2), (3, .int x3_14)]) hx hb dX6_rowStands_42 hl50 (by decide) rfl (fun ls hl51 => ?_)
            clear hl50
            refine lv_iload_n hx hb dX6_rowStands_44 rfl (lv_at hl51 3 rfl) ?_
            have J58 : ∀ (t0_52 : Int32) (H : Heap) (locs : List Loc) (ls : Array Slot), (b_X6_rowStands_J58 s_length n_this_bytes s_bytes p1 p2 G1 x3_14 at__15 fault__16 used__17 code__18 r33_45 (b_X6_rowStands_L13 s_length n_this_bytes s_bytes p1 p2 G1  n13)) t0_52 = some (r, o_at, o_used, o_fault, o_code) → kV E A s.heap H locs [(a0, .inr (6, [.ref a2, w0_1, w0_2, .ref a1, .int s_length, .int at__15, .int used__17, .int fault__16])), (a1, .inl (E.2 0, n_this_bytes, .inl s_bytes)), (a2, .inl (E.2 0, 120, .inl code__18))] → lv_has ls 7 [(0, .ref a0), (1, .int p1), (2, .int p2), (3, .int x3_14), (4, .int r33_45), (5, .int used__17)] → W p l e (rg (d + 1)) s m args below meth c H locs 0 0 Q (F0 m 58 ls [.int t0_52]) := by
              intro t0_52 H locs ls hB58 hVB58 hlB58
              rw [b_X6_rowStands_J58] at hB58
              refine lv_istore (lv' := [(6, .int t0_52), (0, .ref a0), (1, .int p1), (2, .int p2), (3, .int x3_14), (4, .int r33_45), (5, .int used__17)]) hx hb dX6_rowStands_58 hlB58 (by decide) rfl (fun ls hl53 => ?_)
              clear hlB58
              refine lv_iload hx hb dX6_rowStands_60 (lv_at hl53 0 rfl) ?_
              have J72 : ∀ (used__54 : Int32) (code__55 : Nat → Int32) (H : Heap) (locs : List Loc) (ls : Array Slot), (b_X6_rowStands_J72 s_length n_this_bytes s_bytes p1 p2 G1 x3_14 at__15 fault__16 used__17 r33_45 t0_52 (b_X6_rowStands_L13 s_length n_this_bytes s_bytes p1 p2 G1  n13)) used__54 code__55 = some (r, o_at, o_used, o_fault, o_code) → kV E A s.heap H locs [(a0, .inr (6, [.ref a2, w0_1, w0_2, .ref a1, .int s_length, .int at__15, .int used__54, .int fault__16])), (a1, .inl (E.2 0, n_this_bytes, .inl s_bytes)), (a2, .inl (E.2 0, 120, .inl code__55))] → lv_has ls 7 [(0, .ref a0), (1, .int p1), (2, .int p2), (3, .int x3_14), (4, .int r33_45), (5, .int used__17), (6, .int t0_52)] → W p l e (rg (d + 1)) s m args below meth c H locs 0 0 Q (F0 m 72 ls []) := by
                intro used__54 code__55 H locs ls hB72 hVB72 hlB72
                rw [b_X6_rowStands_J72] at hB72
                refine lv_aload_n hx hb dX6_rowStands_72 rfl (lv_at hlB72 0 rfl) ?_
                refine lv_dup hx hb dX6_rowStands_73 rfl ?_
                refine kget X hVB72 (ci := 6) inlX6 rfl 0 rfl 5 (by decide) mw_62 rfl dX6_rowStands_74 ?_
                refine lv_iconst (v := 1) hx hb dX6_rowStands_77 (by decide) ?_
                refine lv_iadd hx hb dX6_rowStands_78 ?_
                obtain ⟨v79_56, e57, h58⟩ := nmI_s hB72
                clear hB72
                refine ktopi e57 ?_
                clear e57
                refine kput X hVB72 (ci := 6) inlX6 rfl tyX6 tyX6_ok nmX6 0 rfl 5 (by decide) mw_62 rfl rfl rfl (Nat.le_of_ble_eq_true rfl) dX6_rowStands_79 (fun H locs hV59 => ?_)
                have hV59 : kV E A s.heap H locs [(a0, .inr (6, [.ref a2, w0_1, w0_2, .ref a1, .int s_length, .int v79_56, .int used__54, .int fault__16])), (a1, .inl (E.2 0, n_this_bytes, .inl s_bytes)), (a2, .inl (E.2 0, 120, .inl code__55))] := hV59
                clear hVB72
                refine lv_aload_n hx hb dX6_rowStands_82 rfl (lv_at hlB72 0 rfl) ?_
                refine lv_iload_n hx hb dX6_rowStands_83 rfl (lv_at hlB72 1 rfl) ?_
                refine lv_iload_n hx hb dX6_rowStands_84 rfl (lv_at hlB72 2 rfl) ?_
                obtain ⟨r85_60, o_at85_61, o_used85_62, o_fault85_63, o_code85_64, hc65, h66⟩ := cb5_s h58
                clear h58
                refine kgoiE (krunV (rest := []) X hV59 [0, 1, 2] (hG1 _ a0 a1 a2 (w0_1) (w0_2) n_this_bytes s_length v79_56 used__54 fault__16 s_bytes code__55 p1 p2 r85_60 o_at85_61 o_used85_62 o_fault85_63 o_code85_64 hc65) mw_303 kb_X6_operandStands (ci := 6) rfl rfl (by decide) rfl rfl hlB72.1 rfl (Nat.le_of_ble_eq_true rfl) dX6_rowStands_85 (kRm_s _ (by decide))) X hV59 [0, 1, 2] [] rfl rfl rfl (by decide) (fun u H locs hV67 => ?_)
                have hV67 : kV E A s.heap H locs [(a0, .inr (6, [.ref a2, w0_1, w0_2, .ref a1, .int s_length, .int o_at85_61, .int o_used85_62, .int o_fault85_63])), (a1, .inl (E.2 0, n_this_bytes, .inl s_bytes)), (a2, .inl (E.2 0, 120, .inl o_code85_64))] := hV67.sub [0, 1, 2] rfl rfl
                clear hV59
                refine lv_if_ne (tgt := 93) hx hb dX6_rowStands_88 (by decide) (fun c69 => ?_) (fun c69 => ?_)
                · have h70 := ieS c69 h66
                  clear h66 c69
                  refine lv_iload hx hb dX6_rowStands_93 (lv_at hlB72 6 rfl) ?_
                  refine lv_if_eq (tgt := 107) hx hb dX6_rowStands_95 (by decide) (fun c72 => ?_) (fun c72 => ?_)
                  · have h73 := itS c72 h70
                    clear h70 c72
                    refine lv_aload_n hx hb dX6_rowStands_107 rfl (lv_at hlB72 0 rfl) ?_
                    refine lv_iload hx hb dX6_rowStands_108 (lv_at hlB72 4 rfl) ?_
                    refine lv_iconst (v := 0) hx hb dX6_rowStands_110 (by decide) ?_
                    obtain ⟨o_used111_75, o_code111_76, hc77, h78⟩ := cb2_s h73
                    clear h73
                    refine kgov (krunV (rest := []) X hV67 [0, 2] (c_X6_put l E _ a0 a2 (w0_1) (w0_2) (.ref a1) (.int s_length) (.int o_at85_61) (.int o_fault85_63) o_used85_62 o_code85_64 r33_45 0 o_used111_75 o_code111_76 hc77) mw_309 kb_X6_put (ci := 6) rfl rfl (by decide) rfl rfl hlB72.1 rfl (Nat.le_of_ble_eq_true rfl) dX6_rowStands_111 (kRm_g _ (by decide))) X hV67 [0, 2] [1] rfl rfl rfl (by decide) (fun u H locs hp80 hV79 => ?_)
                    have hV79 : kV E A s.heap H locs [(a0, .inr (6, [.ref a2, w0_1, w0_2, .ref a1, .int s_length, .int o_at85_61, .int o_used111_75, .int o_fault85_63])), (a1, .inl (E.2 0, n_this_bytes, .inl s_bytes)), (a2, .inl (E.2 0, 120, .inl o_code111_76))] := hV79.sub [1, 0, 2] rfl rfl
                    clear hV67
                    obtain ⟨v114_81, e82, h83⟩ := nmI_s h78
                    clear h78
                    refine lv_iinc (v := v114_81) (lv' := [(3, .int v114_81), (0, .ref a0), (1, .int p1), (2, .int p2), (4, .int r33_45), (5, .int used__17), (6, .int t0_52)]) hx hb dX6_rowStands_114 hlB72 (k := 3) rfl (by rw [e82]; rfl) (by decide) rfl (fun ls hl84 => ?_)
                    clear hlB72 e82
                    refine lv_goto (tgt := 13) hx hb dX6_rowStands_117 (by decide) ?_
                    exact ih13 v114_81 o_at85_61 o_fault85_63 o_used111_75 o_code111_76 _ _ _ h83 hV79 (lv_sub hl84 [1, 2, 3, 0] rfl)
                  · have h74 := ieS c72 h70
                    clear h70 c72
                    refine lv_aload_n hx hb dX6_rowStands_98 rfl (lv_at hlB72 0 rfl) ?_
                    refine lv_iload hx hb dX6_rowStands_99 (lv_at hlB72 5 rfl) ?_
                    obtain ⟨o_code101_85, hc86, h87⟩ := cb1_s h74
                    clear h74
                    refine kgov (krunV (rest := []) X hV67 [0, 2] (c_X6_leapHere l E _ a0 a2 (w0_1) (w0_2) (.ref a1) (.int s_length) (.int o_at85_61) (.int o_fault85_63) o_used85_62 o_code85_64 used__17 o_code101_85 hc86) mw_313 kb_X6_leapHere (ci := 6) rfl rfl (by decide) rfl rfl hlB72.1 rfl (Nat.le_of_ble_eq_true rfl) dX6_rowStands_101 (kRm_g _ (by decide))) X hV67 [0, 2] [1] rfl rfl rfl (by decide) (fun u H locs hp89 hV88 => ?_)
                    have hV88 : kV E A s.heap H locs [(a0, .inr (6, [.ref a2, w0_1, w0_2, .ref a1, .int s_length, .int o_at85_61, .int o_used85_62, .int o_fault85_63])), (a1, .inl (E.2 0, n_this_bytes, .inl s_bytes)), (a2, .inl (E.2 0, 120, .inl o_code101_85))] := hV88.sub [1, 0, 2] rfl rfl
                    clear hV67
                    refine lv_goto (tgt := 114) hx hb dX6_rowStands_104 (by decide) ?_
                    obtain ⟨v114_90, e91, h92⟩ := nmI_s h87
                    clear h87
                    refine lv_iinc (v := v114_90) (lv' := [(3, .int v114_90), (0, .ref a0), (1, .int p1), (2, .int p2), (4, .int r33_45), (5, .int used__17), (6, .int t0_52)]) hx hb dX6_rowStands_114 hlB72 (k := 3) rfl (by rw [e91]; rfl) (by decide) rfl (fun ls hl93 => ?_)
                    clear hlB72 e91
                    refine lv_goto (tgt := 13) hx hb dX6_rowStands_117 (by decide) ?_
                    exact ih13 v114_90 o_at85_61 o_fault85_63 o_used85_62 o_code101_85 _ _ _ h92 hV88 (lv_sub hl93 [1, 2, 3, 0] rfl)
                · have h71 := itS c69 h66
                  clear h66 c69
                  refine lv_iconst (v := 0) hx hb dX6_rowStands_91 (by decide) ?_
                  obtain ⟨q94, q95, q96, q97, q98⟩ := tup5_s h71
                  clear h71
                  exact hret _ () _ _ _ _ q94 rfl (by rw [← q95, ← q96, ← q97, ← q98]; exact hV67) dX6_rowStands_92
              refine lv_if_eq (tgt := 72) hx hb dX6_rowStands_62 (by decide) (fun c99 => ?_) (fun c99 => ?_)
              · have h100 := itS c99 hB58
                clear hB58 c99
                exact J72 used__17 code__18 _ _ _ h100 hVB58 (lv_sub hl53 [1, 2, 3, 4, 5, 6, 0] rfl)
              · have h101 := ieS c99 hB58
                clear hB58 c99
                refine lv_aload_n hx hb dX6_rowStands_65 rfl (lv_at hl53 1 rfl) ?_
                refine lv_iload hx hb dX6_rowStands_66 (lv_at hl53 5 rfl) ?_
                refine lv_iconst (v := 0) hx hb dX6_rowStands_68 (by decide) ?_
                obtain ⟨o_used69_102, o_code69_103, hc104, h105⟩ := cb2_s h101
                clear h101
                refine kgov (krunV (rest := []) X hVB58 [0, 2] (c_X6_put l E _ a0 a2 (w0_1) (w0_2) (.ref a1) (.int s_length) (.int at__15) (.int fault__16) used__17 code__18 r33_45 0 o_used69_102 o_code69_103 hc104) mw_309 kb_X6_put (ci := 6) rfl rfl (by decide) rfl rfl hl53.1 rfl (Nat.le_of_ble_eq_true rfl) dX6_rowStands_69 (kRm_g _ (by decide))) X hVB58 [0, 2] [1] rfl rfl rfl (by decide) (fun u H locs hp107 hV106 => ?_)
                have hV106 : kV E A s.heap H locs [(a0, .inr (6, [.ref a2, w0_1, w0_2, .ref a1, .int s_length, .int at__15, .int o_used69_102, .int fault__16])), (a1, .inl (E.2 0, n_this_bytes, .inl s_bytes)), (a2, .inl (E.2 0, 120, .inl o_code69_103))] := hV106.sub [1, 0, 2] rfl rfl
                clear hVB58
                exact J72 o_used69_102 o_code69_103 _ _ _ h105 hV106 (lv_sub hl53 [1, 2, 3, 4, 5, 6, 0] rfl)
            refine lv_if_eq (tgt := 53) hx hb dX6_rowStands_45 (by decide) (fun c108 => ?_) (fun c108 => ?_)
            · have h109 := itS c108 h47
              clear h47 c108
              refine lv_iconst (v := 1) hx hb dX6_rowStands_53 (by decide) ?_
              refine lv_goto (tgt := 58) hx hb dX6_rowStands_54 (by decide) ?_
              exact J58 1 _ _ _ h109 hV48 (lv_sub hl51 [2, 3, 4, 5, 1, 0] rfl)
            · have h110 := ieS c108 h47
              clear h47 c108
              refine lv_iload_n hx hb dX6_rowStands_48 rfl (lv_at hl51 3 rfl) ?_
              refine lv_iconst (v := 1) hx hb dX6_rowStands_49 (by decide) ?_
              refine lv_icmp_ne (tgt := 57) hx hb dX6_rowStands_50 (by decide) (fun c111 => ?_) (fun c111 => ?_)
              · have h112 := ieS c111 h110
                clear h110 c111
                refine lv_iconst (v := 0) hx hb dX6_rowStands_57 (by decide) ?_
                exact J58 0 _ _ _ h112 hV48 (lv_sub hl51 [2, 3, 4, 5, 1, 0] rfl)
              · have h113 := itS c111 h110
                clear h110 c111
                refine lv_iconst (v := 1) hx hb dX6_rowStands_53 (by decide) ?_
                refine lv_goto (tgt := 58) hx hb dX6_rowStands_54 (by decide) ?_
                exact J58 1 _ _ _ h113 hV48 (lv_sub hl51 [2, 3, 4, 5, 1, 0] rfl)
    exact L13 FU 0 o_at3_2 o_fault3_4 o_used3_3 o_code3_5 _ _ _ h11 hV8 (lv_sub hl13 [1, 2, 3, 0] rfl)
  · have h12 := itS c10 h7
    clear h7 c10
    refine lv_iconst (v := 0) hx hb dX6_rowStands_9 (by decide) ?_
    obtain ⟨q114, q115, q116, q117, q118⟩ := tup5_s h12
    clear h12
    exact hret _ () _ _ _ _ q114 rfl (by rw [← q115, ← q116, ← q117, ← q118]; exact hV8) dX6_rowStands_10
noncomputable def b_X6_operandStands (G0 : Nat → Int32 → Int32 → Int32 → Int32 → (Nat → Int32) → (Nat → Int32) → Int32 → Int32 → Option (Int32 × Int32 × Int32 × Int32 × (Nat → Int32))) (G1 : Nat → Int32 → Int32 → Int32 → Int32 → (Nat → Int32) → (Nat → Int32) → Int32 → Int32 → Option (Int32 × Int32 × Int32 × Int32 × (Nat → Int32))) (G2 : Nat → Int32 → Int32 → Int32 → Int32 → (Nat → Int32) → (Nat → Int32) → Int32 → Option (Int32 × Int32 × Int32 × Int32 × (Nat → Int32))) (G3 : Nat → Int32 → Int32 → Int32 → Int32 → (Nat → Int32) → (Nat → Int32) → Int32 → Option (Int32 × Int32 × Int32 × Int32 × (Nat → Int32))) (n_this_bytes : Nat) (s_length : Int32) (s_at : Int32) (s_used : Int32) (s_fault : Int32) (s_bytes : Nat → Int32) (s_code : Nat → Int32) (p1 : Int32) (p2 : Int32) : Option (Int32 × Int32 × Int32 × Int32 × (Nat → Int32)) :=
    if p1 = 0 then (cb5 (G0 n_this_bytes s_length s_at s_used s_fault s_bytes s_code 1 p2) fun r31_3 o_at31_4 o_used31_5 o_fault31_6 o_code31_7 =>
      bo r31_3 <|
      some (r31_3, o_at31_4, o_used31_5, o_fault31_6, o_code31_7))
    else if p1 = 1 then (cb5 (G2 n_this_bytes s_length s_at s_used s_fault s_bytes s_code p2) fun r37_22 o_at37_23 o_used37_24 o_fault37_25 o_code37_26 =>
      bo r37_22 <|
      some (r37_22, o_at37_23, o_used37_24, o_fault37_25, o_code37_26))
    else if p1 = 2 then (cb5 (G0 n_this_bytes s_length s_at s_used s_fault s_bytes s_code 3 p2) fun r44_41 o_at44_42 o_used44_43 o_fault44_44 o_code44_45 =>
      bo r44_41 <|
      some (r44_41, o_at44_42, o_used44_43, o_fault44_44, o_code44_45))
    else (cb5 (G3 n_this_bytes s_length s_at s_used s_fault s_bytes s_code p2) fun r50_58 o_at50_59 o_used50_60 o_fault50_61 o_code50_62 =>
      bo r50_58 <|
      some (r50_58, o_at50_59, o_used50_60, o_fault50_61, o_code50_62))
set_option maxHeartbeats 4000000 in
set_option maxRecDepth 100000 in
theorem o_X6_operandStands (l : Launch) (E : kE) (d : Nat) (G0 : Nat → Int32 → Int32 → Int32 → Int32 → (Nat → Int32) → (Nat → Int32) → Int32 → Int32 → Option (Int32 × Int32 × Int32 × Int32 × (Nat → Int32))) (G1 : Nat → Int32 → Int32 → Int32 → Int32 → (Nat → Int32) → (Nat → Int32) → Int32 → Int32 → Option (Int32 × Int32 × Int32 × Int32 × (Nat → Int32))) (G2 : Nat → Int32 → Int32 → Int32 → Int32 → (Nat → Int32) → (Nat → Int32) → Int32 → Option (Int32 × Int32 × Int32 × Int32 × (Nat → Int32))) (G3 : Nat → Int32 → Int32 → Int32 → Int32 → (Nat → Int32) → (Nat → Int32) → Int32 → Option (Int32 × Int32 × Int32 × Int32 × (Nat → Int32))) (hG0 : ∀ (sz : Nat) (a0 a1 a2 : Nat) (w0_1 w0_2 : Value) (n_this_bytes : Nat) (s_length : Int32) (s_at : Int32) (s_used : Int32) (s_fault : Int32) (s_bytes : Nat → Int32) (s_code : Nat → Int32) (p1 : Int32) (p2 : Int32) (r : Int32) (o_at : Int32) (o_used : Int32) (o_fault : Int32) (o_code : Nat → Int32), G0 n_this_bytes s_length s_at s_used s_fault s_bytes s_code p1 p2 = some (r, o_at, o_used, o_fault, o_code) → kMi l yX6_rowStands cX6_rowStands 7 (some .boolean) (rg d) [.ref a0, .int p1, .int p2] E [(a0, .inr (6, [.ref a2, w0_1, w0_2, .ref a1, .int s_length, .int s_at, .int s_used, .int s_fault])), (a1, .inl (E.2 0, n_this_bytes, .inl s_bytes)), (a2, .inl (E.2 0, 120, .inl s_code))] sz 0 0 (fun x (_ : Unit) => x = r) (fun _ => [(a0, .inr (6, [.ref a2, w0_1, w0_2, .ref a1, .int s_length, .int o_at, .int o_used, .int o_fault])), (a1, .inl (E.2 0, n_this_bytes, .inl s_bytes)), (a2, .inl (E.2 0, 120, .inl o_code))])) (hG1 : ∀ (sz : Nat) (a0 a1 a2 : Nat) (w0_1 w0_2 : Value) (n_this_bytes : Nat) (s_length : Int32) (s_at : Int32) (s_used : Int32) (s_fault : Int32) (s_bytes : Nat → Int32) (s_code : Nat → Int32) (p1 : Int32) (p2 : Int32) (r : Int32) (o_at : Int32) (o_used : Int32) (o_fault : Int32) (o_code : Nat → Int32), G1 n_this_bytes s_length s_at s_used s_fault s_bytes s_code p1 p2 = some (r, o_at, o_used, o_fault, o_code) → kMi l yX6_operandStands cX6_operandStands 3 (some .boolean) (rg d) [.ref a0, .int p1, .int p2] E [(a0, .inr (6, [.ref a2, w0_1, w0_2, .ref a1, .int s_length, .int s_at, .int s_used, .int s_fault])), (a1, .inl (E.2 0, n_this_bytes, .inl s_bytes)), (a2, .inl (E.2 0, 120, .inl s_code))] sz 0 0 (fun x (_ : Unit) => x = r) (fun _ => [(a0, .inr (6, [.ref a2, w0_1, w0_2, .ref a1, .int s_length, .int o_at, .int o_used, .int o_fault])), (a1, .inl (E.2 0, n_this_bytes, .inl s_bytes)), (a2, .inl (E.2 0, 120, .inl o_code))])) (hG2 : ∀ (sz : Nat) (a0 a1 a2 : Nat) (w0_1 w0_2 : Value) (n_this_bytes : Nat) (s_length : Int32) (s_at : Int32) (s_used : Int32) (s_fault : Int32) (s_bytes : Nat → Int32) (s_code : Nat → Int32) (p1 : Int32) (r : Int32) (o_at : Int32) (o_used : Int32) (o_fault : Int32) (o_code : Nat → Int32), G2 n_this_bytes s_length s_at s_used s_fault s_bytes s_code p1 = some (r, o_at, o_used, o_fault, o_code) → kMi l yX6_pieceStands cX6_pieceStands 4 (some .boolean) (rg d) [.ref a0, .int p1] E [(a0, .inr (6, [.ref a2, w0_1, w0_2, .ref a1, .int s_length, .int s_at, .int s_used, .int s_fault])), (a1, .inl (E.2 0, n_this_bytes, .inl s_bytes)), (a2, .inl (E.2 0, 120, .inl s_code))] sz 0 0 (fun x (_ : Unit) => x = r) (fun _ => [(a0, .inr (6, [.ref a2, w0_1, w0_2, .ref a1, .int s_length, .int o_at, .int o_used, .int o_fault])), (a1, .inl (E.2 0, n_this_bytes, .inl s_bytes)), (a2, .inl (E.2 0, 120, .inl o_code))])) (hG3 : ∀ (sz : Nat) (a0 a1 a2 : Nat) (w0_1 w0_2 : Value) (n_this_bytes : Nat) (s_length : Int32) (s_at : Int32) (s_used : Int32) (s_fault : Int32) (s_bytes : Nat → Int32) (s_code : Nat → Int32) (p1 : Int32) (r : Int32) (o_at : Int32) (o_used : Int32) (o_fault : Int32) (o_code : Nat → Int32), G3 n_this_bytes s_length s_at s_used s_fault s_bytes s_code p1 = some (r, o_at, o_used, o_fault, o_code) → kMi l yX6_factorStands cX6_factorStands 3 (some .boolean) (rg d) [.ref a0, .int p1] E [(a0, .inr (6, [.ref a2, w0_1, w0_2, .ref a1, .int s_length, .int s_at, .int s_used, .int s_fault])), (a1, .inl (E.2 0, n_this_bytes, .inl s_bytes)), (a2, .inl (E.2 0, 120, .inl s_code))] sz 0 0 (fun x (_ : Unit) => x = r) (fun _ => [(a0, .inr (6, [.ref a2, w0_1, w0_2, .ref a1, .int s_length, .int o_at, .int o_used, .int o_fault])), (a1, .inl (E.2 0, n_this_bytes, .inl s_bytes)), (a2, .inl (E.2 0, 120, .inl o_code))])) (sz : Nat) (a0 a1 a2 : Nat) (w0_1 w0_2 : Value) (n_this_bytes : Nat) (s_length : Int32) (s_at : Int32) (s_used : Int32) (s_fault : Int32) (s_bytes : Nat → Int32) (s_code : Nat → Int32) (p1 : Int32) (p2 : Int32) (r : Int32) (o_at : Int32) (o_used : Int32) (o_fault : Int32) (o_code : Nat → Int32) (h : b_X6_operandStands G0 G1 G2 G3 n_this_bytes s_length s_at s_used s_fault s_bytes s_code p1 p2 = some (r, o_at, o_used, o_fault, o_code)) : kMi l yX6_operandStands cX6_operandStands 3 (some .boolean) (rg (d + 1)) [.ref a0, .int p1, .int p2] E [(a0, .inr (6, [.ref a2, w0_1, w0_2, .ref a1, .int s_length, .int s_at, .int s_used, .int s_fault])), (a1, .inl (E.2 0, n_this_bytes, .inl s_bytes)), (a2, .inl (E.2 0, 120, .inl s_code))] sz 0 0 (fun x (_ : Unit) => x = r) (fun _ => [(a0, .inr (6, [.ref a2, w0_1, w0_2, .ref a1, .int s_length, .int o_at, .int o_used, .int o_fault])), (a1, .inl (E.2 0, n_this_bytes, .inl s_bytes)), (a2, .inl (E.2 0, 120, .inl o_code))]) := by
  refine kmeti rfl (Nat.le_of_ble_eq_true rfl) ?_
  intro p e s m args below meth c ls A Q X hV hret hl
  have X : kC p s m c cX6_operandStands 3 RX6 args E A := X
  have hx := X.1
  have hb := X.2.1
  have hl : lv_has ls 3 [(0, .ref a0), (1, .int p1), (2, .int p2)] := hl
  rw [b_X6_operandStands] at h
  refine lv_iload_n hx hb dX6_operandStands_0 rfl (lv_at hl 1 rfl) ?_
  by_cases c1 : p1 = 0
  · have h2 := itS c1 h
    refine lv_tableIn (tgt := 28) (off := 27) hx hb dX6_operandStands_1 (by rw [c1]; decide) (by rw [c1]; decide) (by rw [c1]; decide) (by decide) ?_
    clear h
    refine lv_aload_n hx hb dX6_operandStands_28 rfl (lv_at hl 0 rfl) ?_
    refine lv_iconst (v := 1) hx hb dX6_operandStands_29 (by decide) ?_
    refine lv_iload_n hx hb dX6_operandStands_30 rfl (lv_at hl 2 rfl) ?_
    obtain ⟨r31_3, o_at31_4, o_used31_5, o_fault31_6, o_code31_7, hc8, h9⟩ := cb5_s h2
    clear h2
    refine kgoiE (krunV (rest := []) X hV [0, 1, 2] (hG0 _ a0 a1 a2 (w0_1) (w0_2) n_this_bytes s_length s_at s_used s_fault s_bytes s_code 1 p2 r31_3 o_at31_4 o_used31_5 o_fault31_6 o_code31_7 hc8) mw_299 kb_X6_rowStands (ci := 6) rfl rfl (by decide) rfl rfl hl.1 rfl (Nat.le_of_ble_eq_true rfl) dX6_operandStands_31 (kRm_s _ (by decide))) X hV [0, 1, 2] [] rfl rfl rfl (by decide) (fun u H locs hV10 => ?_)
    have hV10 : kV E A s.heap H locs [(a0, .inr (6, [.ref a2, w0_1, w0_2, .ref a1, .int s_length, .int o_at31_4, .int o_used31_5, .int o_fault31_6])), (a1, .inl (E.2 0, n_this_bytes, .inl s_bytes)), (a2, .inl (E.2 0, 120, .inl o_code31_7))] := hV10.sub [0, 1, 2] rfl rfl
    clear hV
    obtain ⟨hb12, h13⟩ := bo_s h9
    clear h9
    obtain ⟨q14, q15, q16, q17, q18⟩ := tup5_s h13
    clear h13
    exact hret _ () _ _ _ _ q14 hb12 (by rw [← q15, ← q16, ← q17, ← q18]; exact hV10) dX6_operandStands_34
  · have h19 := ieS c1 h
    clear h
    by_cases c20 : p1 = 1
    · have h21 := itS c20 h19
      refine lv_tableIn (tgt := 35) (off := 34) hx hb dX6_operandStands_1 (by rw [c20]; decide) (by rw [c20]; decide) (by rw [c20]; decide) (by decide) ?_
      clear h19
      refine lv_aload_n hx hb dX6_operandStands_35 rfl (lv_at hl 0 rfl) ?_
      refine lv_iload_n hx hb dX6_operandStands_36 rfl (lv_at hl 2 rfl) ?_
      obtain ⟨r37_22, o_at37_23, o_used37_24, o_fault37_25, o_code37_26, hc27, h28⟩ := cb5_s h21
      clear h21
      refine kgoiE (krunV (rest := []) X hV [0, 1, 2] (hG2 _ a0 a1 a2 (w0_1) (w0_2) n_this_bytes s_length s_at s_used s_fault s_bytes s_code p2 r37_22 o_at37_23 o_used37_24 o_fault37_25 o_code37_26 hc27) mw_412 kb_X6_pieceStands (ci := 6) rfl rfl (by decide) rfl rfl hl.1 rfl (Nat.le_of_ble_eq_true rfl) dX6_operandStands_37 (kRm_s _ (by decide))) X hV [0, 1, 2] [] rfl rfl rfl (by decide) (fun u H locs hV29 => ?_)
      have hV29 : kV E A s.heap H locs [(a0, .inr (6, [.ref a2, w0_1, w0_2, .ref a1, .int s_length, .int o_at37_23, .int o_used37_24, .int o_fault37_25])), (a1, .inl (E.2 0, n_this_bytes, .inl s_bytes)), (a2, .inl (E.2 0, 120, .inl o_code37_26))] := hV29.sub [0, 1, 2] rfl rfl
      clear hV
      obtain ⟨hb31, h32⟩ := bo_s h28
      clear h28
      obtain ⟨q33, q34, q35, q36, q37⟩ := tup5_s h32
      clear h32
      exact hret _ () _ _ _ _ q33 hb31 (by rw [← q34, ← q35, ← q36, ← q37]; exact hV29) dX6_operandStands_40
    · have h38 := ieS c20 h19
      clear h19
      by_cases c39 : p1 = 2
      · have h40 := itS c39 h38
        refine lv_tableIn (tgt := 41) (off := 40) hx hb dX6_operandStands_1 (by rw [c39]; decide) (by rw [c39]; decide) (by rw [c39]; decide) (by decide) ?_
        clear h38
        refine lv_aload_n hx hb dX6_operandStands_41 rfl (lv_at hl 0 rfl) ?_
        refine lv_iconst (v := 3) hx hb dX6_operandStands_42 (by decide) ?_
        refine lv_iload_n hx hb dX6_operandStands_43 rfl (lv_at hl 2 rfl) ?_
        obtain ⟨r44_41, o_at44_42, o_used44_43, o_fault44_44, o_code44_45, hc46, h47⟩ := cb5_s h40
        clear h40
        refine kgoiE (krunV (rest := []) X hV [0, 1, 2] (hG0 _ a0 a1 a2 (w0_1) (w0_2) n_this_bytes s_length s_at s_used s_fault s_bytes s_code 3 p2 r44_41 o_at44_42 o_used44_43 o_fault44_44 o_code44_45 hc46) mw_299 kb_X6_rowStands (ci := 6) rfl rfl (by decide) rfl rfl hl.1 rfl (Nat.le_of_ble_eq_true rfl) dX6_operandStands_44 (kRm_s _ (by decide))) X hV [0, 1, 2] [] rfl rfl rfl (by decide) (fun u H locs hV48 => ?_)
        have hV48 : kV E A s.heap H locs [(a0, .inr (6, [.ref a2, w0_1, w0_2, .ref a1, .int s_length, .int o_at44_42, .int o_used44_43, .int o_fault44_44])), (a1, .inl (E.2 0, n_this_bytes, .inl s_bytes)), (a2, .inl (E.2 0, 120, .inl o_code44_45))] := hV48.sub [0, 1, 2] rfl rfl
        clear hV
        obtain ⟨hb50, h51⟩ := bo_s h47
        clear h47
        obtain ⟨q52, q53, q54, q55, q56⟩ := tup5_s h51
        clear h51
        exact hret _ () _ _ _ _ q52 hb50 (by rw [← q53, ← q54, ← q55, ← q56]; exact hV48) dX6_operandStands_47
      · have h57 := ieS c39 h38
        clear h38
        refine lv_tableOut (tgt := 48) hx hb dX6_operandStands_1 (by have ec1 : ¬ p1.toInt = 0 := fun q => c1 (Int32.toInt_inj.mp (q.trans (by decide))); have ec20 : ¬ p1.toInt = 1 := fun q => c20 (Int32.toInt_inj.mp (q.trans (by decide))); have ec39 : ¬ p1.toInt = 2 := fun q => c39 (Int32.toInt_inj.mp (q.trans (by decide))); omega) (by decide) ?_
        refine lv_aload_n hx hb dX6_operandStands_48 rfl (lv_at hl 0 rfl) ?_
        refine lv_iload_n hx hb dX6_operandStands_49 rfl (lv_at hl 2 rfl) ?_
        obtain ⟨r50_58, o_at50_59, o_used50_60, o_fault50_61, o_code50_62, hc63, h64⟩ := cb5_s h57
        clear h57
        refine kgoiE (krunV (rest := []) X hV [0, 1, 2] (hG3 _ a0 a1 a2 (w0_1) (w0_2) n_this_bytes s_length s_at s_used s_fault s_bytes s_code p2 r50_58 o_at50_59 o_used50_60 o_fault50_61 o_code50_62 hc63) mw_415 kb_X6_factorStands (ci := 6) rfl rfl (by decide) rfl rfl hl.1 rfl (Nat.le_of_ble_eq_true rfl) dX6_operandStands_50 (kRm_s _ (by decide))) X hV [0, 1, 2] [] rfl rfl rfl (by decide) (fun u H locs hV65 => ?_)
        have hV65 : kV E A s.heap H locs [(a0, .inr (6, [.ref a2, w0_1, w0_2, .ref a1, .int s_length, .int o_at50_59, .int o_used50_60, .int o_fault50_61])), (a1, .inl (E.2 0, n_this_bytes, .inl s_bytes)), (a2, .inl (E.2 0, 120, .inl o_code50_62))] := hV65.sub [0, 1, 2] rfl rfl
        clear hV
        obtain ⟨hb67, h68⟩ := bo_s h64
        clear h64
        obtain ⟨q69, q70, q71, q72, q73⟩ := tup5_s h68
        clear h68
        exact hret _ () _ _ _ _ q69 hb67 (by rw [← q70, ← q71, ← q72, ← q73]; exact hV65) dX6_operandStands_53
noncomputable def b_X6_pieceStands_J17 (s_length : Int32) (n_this_bytes : Nat) (s_bytes : Nat → Int32) (p1 : Int32) (G0 : Nat → Int32 → Int32 → Int32 → Int32 → (Nat → Int32) → (Nat → Int32) → Int32 → Int32 → Option (Int32 × Int32 × Int32 × Int32 × (Nat → Int32))) (G2 : Nat → Int32 → Int32 → Int32 → Int32 → (Nat → Int32) → (Nat → Int32) → Int32 → Option (Int32 × Int32 × Int32 × Int32 × (Nat → Int32))) (r1_1 : Int32)  (at__7 : Int32) (fault__8 : Int32) (used__9 : Int32) (code__10 : Nat → Int32) : Option (Int32 × Int32 × Int32 × Int32 × (Nat → Int32)) :=
    if p1 < 6 then
    (nmI (at__7 + 1) fun v36_14 =>
      if r1_1 = 40 then
      (cb5 (G0 n_this_bytes s_length v36_14 used__9 fault__8 s_bytes code__10 0 (p1 + 1)) fun r50_49 o_at50_50 o_used50_51 o_fault50_52 o_code50_53 =>
        if r50_49 = 0 then
        (some (0, o_at50_50, o_used50_51, o_fault50_52, o_code50_53))
        else
        (cb3 (f_X6_signStands n_this_bytes s_length o_at50_50 o_fault50_52 s_bytes 41) fun r59_66 o_at59_67 o_fault59_68 =>
          if r59_66 = 0 then
          (some (0, o_at59_67, o_used50_51, o_fault59_68, o_code50_53))
          else
          (some (1, o_at59_67, o_used50_51, o_fault59_68, o_code50_53))))
      else
      (cb5 (G2 n_this_bytes s_length v36_14 used__9 fault__8 s_bytes code__10 (p1 + 1)) fun r75_21 o_at75_22 o_used75_23 o_fault75_24 o_code75_25 =>
        if r75_21 = 0 then
        (some (0, o_at75_22, o_used75_23, o_fault75_24, o_code75_25))
        else
        (cb2 (f_X6_put o_used75_23 o_code75_25 33 0) fun o_used87_33 o_code87_34 =>
          some (1, o_at75_22, o_used87_33, o_fault75_24, o_code87_34))))
    else
    (cb2 (f_X6_fail fault__8 5) fun r25_86 o_fault25_87 =>
      bo r25_86 <|
      some (r25_86, at__7, used__9, o_fault25_87, code__10))
noncomputable def b_X6_pieceStands_J132 (s_length : Int32) (n_this_bytes : Nat) (s_bytes : Nat → Int32) (p1 : Int32) (G0 : Nat → Int32 → Int32 → Int32 → Int32 → (Nat → Int32) → (Nat → Int32) → Int32 → Int32 → Option (Int32 × Int32 × Int32 × Int32 × (Nat → Int32))) (o_at95_106 : Int32) (o_used95_107 : Int32) (o_code95_109 : Nat → Int32) (r104_117 : Int32)  (fault__123 : Int32) : Option (Int32 × Int32 × Int32 × Int32 × (Nat → Int32)) :=
    nmI (o_at95_106 + 1) fun v139_124 =>
    cb5 (G0 n_this_bytes s_length v139_124 o_used95_107 fault__123 s_bytes o_code95_109 2 p1) fun r145_128 o_at145_129 o_used145_130 o_fault145_131 o_code145_132 =>
    if r145_128 = 0 then
    (some (0, o_at145_129, o_used145_130, o_fault145_131, o_code145_132))
    else
    (cb2 (f_X6_put o_used145_130 o_code145_132 r104_117 0) fun o_used156_140 o_code156_141 =>
      some (1, o_at145_129, o_used156_140, o_fault145_131, o_code156_141))
noncomputable def b_X6_pieceStands (G0 : Nat → Int32 → Int32 → Int32 → Int32 → (Nat → Int32) → (Nat → Int32) → Int32 → Int32 → Option (Int32 × Int32 × Int32 × Int32 × (Nat → Int32))) (G1 : Nat → Int32 → Int32 → Int32 → Int32 → (Nat → Int32) → (Nat → Int32) → Int32 → Int32 → Option (Int32 × Int32 × Int32 × Int32 × (Nat → Int32))) (G2 : Nat → Int32 → Int32 → Int32 → Int32 → (Nat → Int32) → (Nat → Int32) → Int32 → Option (Int32 × Int32 × Int32 × Int32 × (Nat → Int32))) (G3 : Nat → Int32 → Int32 → Int32 → Int32 → (Nat → Int32) → (Nat → Int32) → Int32 → Option (Int32 × Int32 × Int32 × Int32 × (Nat → Int32))) (n_this_bytes : Nat) (s_length : Int32) (s_at : Int32) (s_used : Int32) (s_fault : Int32) (s_bytes : Nat → Int32) (s_code : Nat → Int32) (p1 : Int32) : Option (Int32 × Int32 × Int32 × Int32 × (Nat → Int32)) :=
    cb1 (f_X6_next n_this_bytes s_length s_at s_bytes) fun r1_1 =>
    if r1_1 = 33 then
    ((b_X6_pieceStands_J17 s_length n_this_bytes s_bytes p1 G0 G2 r1_1 ) s_at s_fault s_used s_code)
    else
    (if r1_1 = 40 then
      ((b_X6_pieceStands_J17 s_length n_this_bytes s_bytes p1 G0 G2 r1_1 ) s_at s_fault s_used s_code)
      else
      (cb5 (G0 n_this_bytes s_length s_at s_used s_fault s_bytes s_code 2 p1) fun r95_105 o_at95_106 o_used95_107 o_fault95_108 o_code95_109 =>
        if r95_105 = 0 then
        (some (0, o_at95_106, o_used95_107, o_fault95_108, o_code95_109))
        else
        (cb1 (f_X6_next n_this_bytes s_length o_at95_106 s_bytes) fun r104_117 =>
          if r104_117 = 60 then
          ((b_X6_pieceStands_J132 s_length n_this_bytes s_bytes p1 G0 o_at95_106 o_used95_107 o_code95_109 r104_117 ) o_fault95_108)
          else
          (if r104_117 = 62 then
            ((b_X6_pieceStands_J132 s_length n_this_bytes s_bytes p1 G0 o_at95_106 o_used95_107 o_code95_109 r104_117 ) o_fault95_108)
            else
            (if r104_117 = 61 then
              ((b_X6_pieceStands_J132 s_length n_this_bytes s_bytes p1 G0 o_at95_106 o_used95_107 o_code95_109 r104_117 ) o_fault95_108)
              else
              (cb2 (f_X6_fail o_fault95_108 1) fun r128_165 o_fault128_166 =>
                bo r128_165 <|
                some (r128_165, o_at95_106, o_used95_107, o_fault128_166, o_code95_109)))))))
set_option maxHeartbeats 4000000 in
set_option maxRecDepth 100000 in
theorem o_X6_pieceStands (l : Launch) (E : kE) (d : Nat) (G0 : Nat → Int32 → Int32 → Int32 → Int32 → (Nat → Int32) → (Nat → Int32) → Int32 → Int32 → Option (Int32 × Int32 × Int32 × Int32 × (Nat → Int32))) (G1 : Nat → Int32 → Int32 → Int32 → Int32 → (Nat → Int32) → (Nat → Int32) → Int32 → Int32 → Option (Int32 × Int32 × Int32 × Int32 × (Nat → Int32))) (G2 : Nat → Int32 → Int32 → Int32 → Int32 → (Nat → Int32) → (Nat → Int32) → Int32 → Option (Int32 × Int32 × Int32 × Int32 × (Nat → Int32))) (G3 : Nat → Int32 → Int32 → Int32 → Int32 → (Nat → Int32) → (Nat → Int32) → Int32 → Option (Int32 × Int32 × Int32 × Int32 × (Nat → Int32))) (hG0 : ∀ (sz : Nat) (a0 a1 a2 : Nat) (w0_1 w0_2 : Value) (n_this_bytes : Nat) (s_length : Int32) (s_at : Int32) (s_used : Int32) (s_fault : Int32) (s_bytes : Nat → Int32) (s_code : Nat → Int32) (p1 : Int32) (p2 : Int32) (r : Int32) (o_at : Int32) (o_used : Int32) (o_fault : Int32) (o_code : Nat → Int32), G0 n_this_bytes s_length s_at s_used s_fault s_bytes s_code p1 p2 = some (r, o_at, o_used, o_fault, o_code) → kMi l yX6_rowStands cX6_rowStands 7 (some .boolean) (rg d) [.ref a0, .int p1, .int p2] E [(a0, .inr (6, [.ref a2, w0_1, w0_2, .ref a1, .int s_length, .int s_at, .int s_used, .int s_fault])), (a1, .inl (E.2 0, n_this_bytes, .inl s_bytes)), (a2, .inl (E.2 0, 120, .inl s_code))] sz 0 0 (fun x (_ : Unit) => x = r) (fun _ => [(a0, .inr (6, [.ref a2, w0_1, w0_2, .ref a1, .int s_length, .int o_at, .int o_used, .int o_fault])), (a1, .inl (E.2 0, n_this_bytes, .inl s_bytes)), (a2, .inl (E.2 0, 120, .inl o_code))])) (hG1 : ∀ (sz : Nat) (a0 a1 a2 : Nat) (w0_1 w0_2 : Value) (n_this_bytes : Nat) (s_length : Int32) (s_at : Int32) (s_used : Int32) (s_fault : Int32) (s_bytes : Nat → Int32) (s_code : Nat → Int32) (p1 : Int32) (p2 : Int32) (r : Int32) (o_at : Int32) (o_used : Int32) (o_fault : Int32) (o_code : Nat → Int32), G1 n_this_bytes s_length s_at s_used s_fault s_bytes s_code p1 p2 = some (r, o_at, o_used, o_fault, o_code) → kMi l yX6_operandStands cX6_operandStands 3 (some .boolean) (rg d) [.ref a0, .int p1, .int p2] E [(a0, .inr (6, [.ref a2, w0_1, w0_2, .ref a1, .int s_length, .int s_at, .int s_used, .int s_fault])), (a1, .inl (E.2 0, n_this_bytes, .inl s_bytes)), (a2, .inl (E.2 0, 120, .inl s_code))] sz 0 0 (fun x (_ : Unit) => x = r) (fun _ => [(a0, .inr (6, [.ref a2, w0_1, w0_2, .ref a1, .int s_length, .int o_at, .int o_used, .int o_fault])), (a1, .inl (E.2 0, n_this_bytes, .inl s_bytes)), (a2, .inl (E.2 0, 120, .inl o_code))])) (hG2 : ∀ (sz : Nat) (a0 a1 a2 : Nat) (w0_1 w0_2 : Value) (n_this_bytes : Nat) (s_length : Int32) (s_at : Int32) (s_used : Int32) (s_fault : Int32) (s_bytes : Nat → Int32) (s_code : Nat → Int32) (p1 : Int32) (r : Int32) (o_at : Int32) (o_used : Int32) (o_fault : Int32) (o_code : Nat → Int32), G2 n_this_bytes s_length s_at s_used s_fault s_bytes s_code p1 = some (r, o_at, o_used, o_fault, o_code) → kMi l yX6_pieceStands cX6_pieceStands 4 (some .boolean) (rg d) [.ref a0, .int p1] E [(a0, .inr (6, [.ref a2, w0_1, w0_2, .ref a1, .int s_length, .int s_at, .int s_used, .int s_fault])), (a1, .inl (E.2 0, n_this_bytes, .inl s_bytes)), (a2, .inl (E.2 0, 120, .inl s_code))] sz 0 0 (fun x (_ : Unit) => x = r) (fun _ => [(a0, .inr (6, [.ref a2, w0_1, w0_2, .ref a1, .int s_length, .int o_at, .int o_used, .int o_fault])), (a1, .inl (E.2 0, n_this_bytes, .inl s_bytes)), (a2, .inl (E.2 0, 120, .inl o_code))])) (hG3 : ∀ (sz : Nat) (a0 a1 a2 : Nat) (w0_1 w0_2 : Value) (n_this_bytes : Nat) (s_length : Int32) (s_at : Int32) (s_used : Int32) (s_fault : Int32) (s_bytes : Nat → Int32) (s_code : Nat → Int32) (p1 : Int32) (r : Int32) (o_at : Int32) (o_used : Int32) (o_fault : Int32) (o_code : Nat → Int32), G3 n_this_bytes s_length s_at s_used s_fault s_bytes s_code p1 = some (r, o_at, o_used, o_fault, o_code) → kMi l yX6_factorStands cX6_factorStands 3 (some .boolean) (rg d) [.ref a0, .int p1] E [(a0, .inr (6, [.ref a2, w0_1, w0_2, .ref a1, .int s_length, .int s_at, .int s_used, .int s_fault])), (a1, .inl (E.2 0, n_this_bytes, .inl s_bytes)), (a2, .inl (E.2 0, 120, .inl s_code))] sz 0 0 (fun x (_ : Unit) => x = r) (fun _ => [(a0, .inr (6, [.ref a2, w0_1, w0_2, .ref a1, .int s_length, .int o_at, .int o_used, .int o_fault])), (a1, .inl (E.2 0, n_this_bytes, .inl s_bytes)), (a2, .inl (E.2 0, 120, .inl o_code))])) (sz : Nat) (a0 a1 a2 : Nat) (w0_1 w0_2 : Value) (n_this_bytes : Nat) (s_length : Int32) (s_at : Int32) (s_used : Int32) (s_fault : Int32) (s_bytes : Nat → Int32) (s_code : Nat → Int32) (p1 : Int32) (r : Int32) (o_at : Int32) (o_used : Int32) (o_fault : Int32) (o_code : Nat → Int32) (h : b_X6_pieceStands G0 G1 G2 G3 n_this_bytes s_length s_at s_used s_fault s_bytes s_code p1 = some (r, o_at, o_used, o_fault, o_code)) : kMi l yX6_pieceStands cX6_pieceStands 4 (some .boolean) (rg (d + 1)) [.ref a0, .int p1] E [(a0, .inr (6, [.ref a2, w0_1, w0_2, .ref a1, .int s_length, .int s_at, .int s_used, .int s_fault])), (a1, .inl (E.2 0, n_this_bytes, .inl s_bytes)), (a2, .inl (E.2 0, 120, .inl s_code))] sz 0 0 (fun x (_ : Unit) => x = r) (fun _ => [(a0, .inr (6, [.ref a2, w0_1, w0_2, .ref a1, .int s_length, .int o_at, .int o_used, .int o_fault])), (a1, .inl (E.2 0, n_this_bytes, .inl s_bytes)), (a2, .inl (E.2 0, 120, .inl o_code))]) := by
  refine kmeti rfl (Nat.le_of_ble_eq_true rfl) ?_
  intro p e s m args below meth c ls A Q X hV hret hl
  have X : kC p s m c cX6_pieceStands 4 RX6 args E A := X
  have hx := X.1
  have hb := X.2.1
  have hl : lv_has ls 4 [(0, .ref a0), (1, .int p1)] := hl
  rw [b_X6_pieceStands] at h
  refine lv_aload_n hx hb dX6_pieceStands_0 rfl (lv_at hl 0 rfl) ?_
  obtain ⟨r1_1, hc2, h3⟩ := cb1_s h
  clear h
  refine kgoiE (krunV (rest := []) X hV [0, 1] (c_X6_next l E _ a0 a1 (.ref a2) (w0_1) (w0_2) (.int s_used) (.int s_fault) n_this_bytes s_length s_at s_bytes r1_1 hc2) mw_291 kb_X6_next (ci := 6) rfl rfl (by decide) rfl rfl hl.1 rfl (Nat.le_of_ble_eq_true rfl) dX6_pieceStands_1 (kRm_g _ (by decide))) X hV [0, 1] [2] rfl rfl rfl (by decide) (fun u H locs hV4 => ?_)
  have hV4 : kV E A s.heap H locs [(a0, .inr (6, [.ref a2, w0_1, w0_2, .ref a1, .int s_length, .int s_at, .int s_used, .int s_fault])), (a1, .inl (E.2 0, n_this_bytes, .inl s_bytes)), (a2, .inl (E.2 0, 120, .inl s_code))] := hV4.sub [1, 2, 0] rfl rfl
  clear hV
  refine lv_istore_n (lv' := [(2, .int r1_1), (0, .ref a0), (1, .int p1)]) hx hb dX6_pieceStands_4 rfl hl (by decide) rfl (fun ls hl6 => ?_)
  clear hl
  refine lv_iload_n hx hb dX6_pieceStands_5 rfl (lv_at hl6 0 rfl) ?_
  refine lv_bipush (v := 33) hx hb dX6_pieceStands_6 (by decide) ?_
  have J17 : ∀ (at__7 : Int32) (fault__8 : Int32) (used__9 : Int32) (code__10 : Nat → Int32) (H : Heap) (locs : List Loc) (ls : Array Slot), (b_X6_pieceStands_J17 s_length n_this_bytes s_bytes p1 G0 G2 r1_1 ) at__7 fault__8 used__9 code__10 = some (r, o_at, o_used, o_fault, o_code) → kV E A s.heap H locs [(a0, .inr (6, [.ref a2, w0_1, w0_2, .ref a1, .int s_length, .int at__7, .int used__9, .int fault__8])), (a1, .inl (E.2 0, n_this_bytes, .inl s_bytes)), (a2, .inl (E.2 0, 120, .inl code__10))] → lv_has ls 4 [(0, .ref a0), (1, .int p1), (2, .int r1_1)] → W p l e (rg (d + 1)) s m args below meth c H locs 0 0 Q (F0 m 17 ls []) := by
    intro at__7 fault__8 used__9 code__10 H locs ls hB17 hVB17 hlB17
    rw [b_X6_pieceStands_J17] at hB17
    refine lv_iload_n hx hb dX6_pieceStands_17 rfl (lv_at hlB17 1 rfl) ?_
    refine lv_bipush (v := 6) hx hb dX6_pieceStands_18 (by decide) ?_
    refine lv_icmp_lt (tgt := 29) hx hb dX6_pieceStands_20 (by decide) (fun c11 => ?_) (fun c11 => ?_)
    · have h12 := itS c11 hB17
      clear hB17 c11
      refine lv_aload_n hx hb dX6_pieceStands_29 rfl (lv_at hlB17 0 rfl) ?_
      refine lv_dup hx hb dX6_pieceStands_30 rfl ?_
      refine kget X hVB17 (ci := 6) inlX6 rfl 0 rfl 5 (by decide) mw_62 rfl dX6_pieceStands_31 ?_
      refine lv_iconst (v := 1) hx hb dX6_pieceStands_34 (by decide) ?_
      refine lv_iadd hx hb dX6_pieceStands_35 ?_
      obtain ⟨v36_14, e15, h16⟩ := nmI_s h12
      clear h12
      refine ktopi e15 ?_
      clear e15
      refine kput X hVB17 (ci := 6) inlX6 rfl tyX6 tyX6_ok nmX6 0 rfl 5 (by decide) mw_62 rfl rfl rfl (Nat.le_of_ble_eq_true rfl) dX6_pieceStands_36 (fun H locs hV17 => ?_)
      have hV17 : kV E A s.heap H locs [(a0, .inr (6, [.ref a2, w0_1, w0_2, .ref a1, .int s_length, .int v36_14, .int used__9, .int fault__8])), (a1, .inl (E.2 0, n_this_bytes, .inl s_bytes)), (a2, .inl (E.2 0, 120, .inl code__10))] := hV17
      clear hVB17
      refine lv_iload_n hx hb dX6_pieceStands_39 rfl (lv_at hlB17 2 rfl) ?_
      refine lv_bipush (v := 40) hx hb dX6_pieceStands_40 (by decide) ?_
      refine lv_icmp_ne (tgt := 71) hx hb dX6_pieceStands_42 (by decide) (fun c18 => ?_) (fun c18 => ?_)
      · have h19 := ieS c18 h16
        clear h16 c18
        refine lv_aload_n hx hb dX6_pieceStands_71 rfl (lv_at hlB17 0 rfl) ?_
        refine lv_iload_n hx hb dX6_pieceStands_72 rfl (lv_at hlB17 1 rfl) ?_
        refine lv_iconst (v := 1) hx hb dX6_pieceStands_73 (by decide) ?_
        refine lv_iadd hx hb dX6_pieceStands_74 ?_
        obtain ⟨r75_21, o_at75_22, o_used75_23, o_fault75_24, o_code75_25, hc26, h27⟩ := cb5_s h19
        clear h19
        refine kgoiE (krunV (rest := []) X hV17 [0, 1, 2] (hG2 _ a0 a1 a2 (w0_1) (w0_2) n_this_bytes s_length v36_14 used__9 fault__8 s_bytes code__10 (p1 + 1) r75_21 o_at75_22 o_used75_23 o_fault75_24 o_code75_25 hc26) mw_412 kb_X6_pieceStands (ci := 6) rfl rfl (by decide) rfl rfl hlB17.1 rfl (Nat.le_of_ble_eq_true rfl) dX6_pieceStands_75 (kRm_s _ (by decide))) X hV17 [0, 1, 2] [] rfl rfl rfl (by decide) (fun u H locs hV28 => ?_)
        have hV28 : kV E A s.heap H locs [(a0, .inr (6, [.ref a2, w0_1, w0_2, .ref a1, .int s_length, .int o_at75_22, .int o_used75_23, .int o_fault75_24])), (a1, .inl (E.2 0, n_this_bytes, .inl s_bytes)), (a2, .inl (E.2 0, 120, .inl o_code75_25))] := hV28.sub [0, 1, 2] rfl rfl
        clear hV17
        refine lv_if_ne (tgt := 83) hx hb dX6_pieceStands_78 (by decide) (fun c30 => ?_) (fun c30 => ?_)
        · have h31 := ieS c30 h27
          clear h27 c30
          refine lv_aload_n hx hb dX6_pieceStands_83 rfl (lv_at hlB17 0 rfl) ?_
          refine lv_bipush (v := 33) hx hb dX6_pieceStands_84 (by decide) ?_
          refine lv_iconst (v := 0) hx hb dX6_pieceStands_86 (by decide) ?_
          obtain ⟨o_used87_33, o_code87_34, hc35, h36⟩ := cb2_s h31
          clear h31
          refine kgov (krunV (rest := []) X hV28 [0, 2] (c_X6_put l E _ a0 a2 (w0_1) (w0_2) (.ref a1) (.int s_length) (.int o_at75_22) (.int o_fault75_24) o_used75_23 o_code75_25 33 0 o_used87_33 o_code87_34 hc35) mw_309 kb_X6_put (ci := 6) rfl rfl (by decide) rfl rfl hlB17.1 rfl (Nat.le_of_ble_eq_true rfl) dX6_pieceStands_87 (kRm_g _ (by decide))) X hV28 [0, 2] [1] rfl rfl rfl (by decide) (fun u H locs hp38 hV37 => ?_)
          have hV37 : kV E A s.heap H locs [(a0, .inr (6, [.ref a2, w0_1, w0_2, .ref a1, .int s_length, .int o_at75_22, .int o_used87_33, .int o_fault75_24])), (a1, .inl (E.2 0, n_this_bytes, .inl s_bytes)), (a2, .inl (E.2 0, 120, .inl o_code87_34))] := hV37.sub [1, 0, 2] rfl rfl
          clear hV28
          refine lv_iconst (v := 1) hx hb dX6_pieceStands_90 (by decide) ?_
          obtain ⟨q39, q40, q41, q42, q43⟩ := tup5_s h36
          clear h36
          exact hret _ () _ _ _ _ q39 rfl (by rw [← q40, ← q41, ← q42, ← q43]; exact hV37) dX6_pieceStands_91
        · have h32 := itS c30 h27
          clear h27 c30
          refine lv_iconst (v := 0) hx hb dX6_pieceStands_81 (by decide) ?_
          obtain ⟨q44, q45, q46, q47, q48⟩ := tup5_s h32
          clear h32
          exact hret _ () _ _ _ _ q44 rfl (by rw [← q45, ← q46, ← q47, ← q48]; exact hV28) dX6_pieceStands_82
      · have h20 := itS c18 h16
        clear h16 c18
        refine lv_aload_n hx hb dX6_pieceStands_45 rfl (lv_at hlB17 0 rfl) ?_
        refine lv_iconst (v := 0) hx hb dX6_pieceStands_46 (by decide) ?_
        refine lv_iload_n hx hb dX6_pieceStands_47 rfl (lv_at hlB17 1 rfl) ?_
        refine lv_iconst (v := 1) hx hb dX6_pieceStands_48 (by decide) ?_
        refine lv_iadd hx hb dX6_pieceStands_49 ?_
        obtain ⟨r50_49, o_at50_50, o_used50_51, o_fault50_52, o_code50_53, hc54, h55⟩ := cb5_s h20
        clear h20
        refine kgoiE (krunV (rest := []) X hV17 [0, 1, 2] (hG0 _ a0 a1 a2 (w0_1) (w0_2) n_this_bytes s_length v36_14 used__9 fault__8 s_bytes code__10 0 (p1 + 1) r50_49 o_at50_50 o_used50_51 o_fault50_52 o_code50_53 hc54) mw_299 kb_X6_rowStands (ci := 6) rfl rfl (by decide) rfl rfl hlB17.1 rfl (Nat.le_of_ble_eq_true rfl) dX6_pieceStands_50 (kRm_s _ (by decide))) X hV17 [0, 1, 2] [] rfl rfl rfl (by decide) (fun u H locs hV56 => ?_)
        have hV56 : kV E A s.heap H locs [(a0, .inr (6, [.ref a2, w0_1, w0_2, .ref a1, .int s_length, .int o_at50_50, .int o_used50_51, .int o_fault50_52])), (a1, .inl (E.2 0, n_this_bytes, .inl s_bytes)), (a2, .inl (E.2 0, 120, .inl o_code50_53))] := hV56.sub [0, 1, 2] rfl rfl
        clear hV17
        refine lv_if_eq (tgt := 69) hx hb dX6_pieceStands_53 (by decide) (fun c58 => ?_) (fun c58 => ?_)
        · have h59 := itS c58 h55
          clear h55 c58
          refine lv_iconst (v := 0) hx hb dX6_pieceStands_69 (by decide) ?_
          obtain ⟨q61, q62, q63, q64, q65⟩ := tup5_s h59
          clear h59
          exact hret _ () _ _ _ _ q61 rfl (by rw [← q62, ← q63, ← q64, ← q65]; exact hV56) dX6_pieceStands_70
        · have h60 := ieS c58 h55
          clear h55 c58
          refine lv_aload_n hx hb dX6_pieceStands_56 rfl (lv_at hlB17 0 rfl) ?_
          refine lv_bipush (v := 41) hx hb dX6_pieceStands_57 (by decide) ?_
          obtain ⟨r59_66, o_at59_67, o_fault59_68, hc69, h70⟩ := cb3_s h60
          clear h60
          refine kgoiE (krunV (rest := []) X hV56 [0, 1] (c_X6_signStands l E _ a0 a1 (.ref a2) (w0_1) (w0_2) (.int o_used50_51) n_this_bytes s_length o_at50_50 o_fault50_52 s_bytes 41 r59_66 o_at59_67 o_fault59_68 hc69) mw_287 kb_X6_signStands (ci := 6) rfl rfl (by decide) rfl rfl hlB17.1 rfl (Nat.le_of_ble_eq_true rfl) dX6_pieceStands_59 (kRm_g _ (by decide))) X hV56 [0, 1] [2] rfl rfl rfl (by decide) (fun u H locs hV71 => ?_)
          have hV71 : kV E A s.heap H locs [(a0, .inr (6, [.ref a2, w0_1, w0_2, .ref a1, .int s_length, .int o_at59_67, .int o_used50_51, .int o_fault59_68])), (a1, .inl (E.2 0, n_this_bytes, .inl s_bytes)), (a2, .inl (E.2 0, 120, .inl o_code50_53))] := hV71.sub [1, 2, 0] rfl rfl
          clear hV56
          refine lv_if_eq (tgt := 69) hx hb dX6_pieceStands_62 (by decide) (fun c73 => ?_) (fun c73 => ?_)
          · have h74 := itS c73 h70
            clear h70 c73
            refine lv_iconst (v := 0) hx hb dX6_pieceStands_69 (by decide) ?_
            obtain ⟨q76, q77, q78, q79, q80⟩ := tup5_s h74
            clear h74
            exact hret _ () _ _ _ _ q76 rfl (by rw [← q77, ← q78, ← q79, ← q80]; exact hV71) dX6_pieceStands_70
          · have h75 := ieS c73 h70
            clear h70 c73
            refine lv_iconst (v := 1) hx hb dX6_pieceStands_65 (by decide) ?_
            refine lv_goto (tgt := 70) hx hb dX6_pieceStands_66 (by decide) ?_
            obtain ⟨q81, q82, q83, q84, q85⟩ := tup5_s h75
            clear h75
            exact hret _ () _ _ _ _ q81 rfl (by rw [← q82, ← q83, ← q84, ← q85]; exact hV71) dX6_pieceStands_70
    · have h13 := ieS c11 hB17
      clear hB17 c11
      refine lv_aload_n hx hb dX6_pieceStands_23 rfl (lv_at hlB17 0 rfl) ?_
      refine lv_iconst (v := 5) hx hb dX6_pieceStands_24 (by decide) ?_
      obtain ⟨r25_86, o_fault25_87, hc88, h89⟩ := cb2_s h13
      clear h13
      refine kgoiE (krunV (rest := []) X hVB17 [0] (c_X6_fail l E _ a0 (.ref a2) (w0_1) (w0_2) (.ref a1) (.int s_length) (.int at__7) (.int used__9) fault__8 5 r25_86 o_fault25_87 hc88) mw_295 kb_X6_fail (ci := 6) rfl rfl (by decide) rfl rfl hlB17.1 rfl (Nat.le_of_ble_eq_true rfl) dX6_pieceStands_25 (kRm_g _ (by decide))) X hVB17 [0] [1, 2] rfl rfl rfl (by decide) (fun u H locs hV90 => ?_)
      have hV90 : kV E A s.heap H locs [(a0, .inr (6, [.ref a2, w0_1, w0_2, .ref a1, .int s_length, .int at__7, .int used__9, .int o_fault25_87])), (a1, .inl (E.2 0, n_this_bytes, .inl s_bytes)), (a2, .inl (E.2 0, 120, .inl code__10))] := hV90.sub [2, 0, 1] rfl rfl
      clear hVB17
      obtain ⟨hb92, h93⟩ := bo_s h89
      clear h89
      obtain ⟨q94, q95, q96, q97, q98⟩ := tup5_s h93
      clear h93
      exact hret _ () _ _ _ _ q94 hb92 (by rw [← q95, ← q96, ← q97, ← q98]; exact hV90) dX6_pieceStands_28
  refine lv_icmp_eq (tgt := 17) hx hb dX6_pieceStands_8 (by decide) (fun c99 => ?_) (fun c99 => ?_)
  · have h100 := itS c99 h3
    clear h3 c99
    exact J17 s_at s_fault s_used s_code _ _ _ h100 hV4 (lv_sub hl6 [1, 2, 0] rfl)
  · have h101 := ieS c99 h3
    clear h3 c99
    refine lv_iload_n hx hb dX6_pieceStands_11 rfl (lv_at hl6 0 rfl) ?_
    refine lv_bipush (v := 40) hx hb dX6_pieceStands_12 (by decide) ?_
    refine lv_icmp_ne (tgt := 92) hx hb dX6_pieceStands_14 (by decide) (fun c102 => ?_) (fun c102 => ?_)
    · have h103 := ieS c102 h101
      clear h101 c102
      refine lv_aload_n hx hb dX6_pieceStands_92 rfl (lv_at hl6 1 rfl) ?_
      refine lv_iconst (v := 2) hx hb dX6_pieceStands_93 (by decide) ?_
      refine lv_iload_n hx hb dX6_pieceStands_94 rfl (lv_at hl6 2 rfl) ?_
      obtain ⟨r95_105, o_at95_106, o_used95_107, o_fault95_108, o_code95_109, hc110, h111⟩ := cb5_s h103
      clear h103
      refine kgoiE (krunV (rest := []) X hV4 [0, 1, 2] (hG0 _ a0 a1 a2 (w0_1) (w0_2) n_this_bytes s_length s_at s_used s_fault s_bytes s_code 2 p1 r95_105 o_at95_106 o_used95_107 o_fault95_108 o_code95_109 hc110) mw_299 kb_X6_rowStands (ci := 6) rfl rfl (by decide) rfl rfl hl6.1 rfl (Nat.le_of_ble_eq_true rfl) dX6_pieceStands_95 (kRm_s _ (by decide))) X hV4 [0, 1, 2] [] rfl rfl rfl (by decide) (fun u H locs hV112 => ?_)
      have hV112 : kV E A s.heap H locs [(a0, .inr (6, [.ref a2, w0_1, w0_2, .ref a1, .int s_length, .int o_at95_106, .int o_used95_107, .int o_fault95_108])), (a1, .inl (E.2 0, n_this_bytes, .inl s_bytes)), (a2, .inl (E.2 0, 120, .inl o_code95_109))] := hV112.sub [0, 1, 2] rfl rfl
      clear hV4
      refine lv_if_ne (tgt := 103) hx hb dX6_pieceStands_98 (by decide) (fun c114 => ?_) (fun c114 => ?_)
      · have h115 := ieS c114 h111
        clear h111 c114
        refine lv_aload_n hx hb dX6_pieceStands_103 rfl (lv_at hl6 1 rfl) ?_
        obtain ⟨r104_117, hc118, h119⟩ := cb1_s h115
        clear h115
        refine kgoiE (krunV (rest := []) X hV112 [0, 1] (c_X6_next l E _ a0 a1 (.ref a2) (w0_1) (w0_2) (.int o_used95_107) (.int o_fault95_108) n_this_bytes s_length o_at95_106 s_bytes r104_117 hc118) mw_291 kb_X6_next (ci := 6) rfl rfl (by decide) rfl rfl hl6.1 rfl (Nat.le_of_ble_eq_true rfl) dX6_pieceStands_104 (kRm_g _ (by decide))) X hV112 [0, 1] [2] rfl rfl rfl (by decide) (fun u H locs hV120 => ?_)
        have hV120 : kV E A s.heap H locs [(a0, .inr (6, [.ref a2, w0_1, w0_2, .ref a1, .int s_length, .int o_at95_106, .int o_used95_107, .int o_fault95_108])), (a1, .inl (E.2 0, n_this_bytes, .inl s_bytes)), (a2, .inl (E.2 0, 120, .inl o_code95_109))] := hV120.sub [1, 2, 0] rfl rfl
        clear hV112
        refine lv_istore_n (lv' := [(3, .int r104_117), (2, .int r1_1), (0, .ref a0), (1, .int p1)]) hx hb dX6_pieceStands_107 rfl hl6 (by decide) rfl (fun ls hl122 => ?_)
        clear hl6
        refine lv_iload_n hx hb dX6_pieceStands_108 rfl (lv_at hl122 0 rfl) ?_
        refine lv_bipush (v := 60) hx hb dX6_pieceStands_109 (by decide) ?_
        have J132 : ∀ (fault__123 : Int32) (H : Heap) (locs : List Loc) (ls : Array Slot), (b_X6_pieceStands_J132 s_length n_this_bytes s_bytes p1 G0 o_at95_106 o_used95_107 o_code95_109 r104_117 ) fault__123 = some (r, o_at, o_used, o_fault, o_code) → kV E A s.heap H locs [(a0, .inr (6, [.ref a2, w0_1, w0_2, .ref a1, .int s_length, .int o_at95_106, .int o_used95_107, .int fault__123])), (a1, .inl (E.2 0, n_this_bytes, .inl s_bytes)), (a2, .inl (E.2 0, 120, .inl o_code95_109))] → lv_has ls 4 [(0, .ref a0), (1, .int p1), (3, .int r104_117)] → W p l e (rg (d + 1)) s m args below meth c H locs 0 0 Q (F0 m 132 ls []) := by
          intro fault__123 H locs ls hB132 hVB132 hlB132
          rw [b_X6_pieceStands_J132] at hB132
          refine lv_aload_n hx hb dX6_pieceStands_132 rfl (lv_at hlB132 0 rfl) ?_
          refine lv_dup hx hb dX6_pieceStands_133 rfl ?_
          refine kget X hVB132 (ci := 6) inlX6 rfl 0 rfl 5 (by decide) mw_62 rfl dX6_pieceStands_134 ?_
          refine lv_iconst (v := 1) hx hb dX6_pieceStands_137 (by decide) ?_
          refine lv_iadd hx hb dX6_pieceStands_138 ?_
          obtain ⟨v139_124, e125, h126⟩ := nmI_s hB132
          clear hB132
          refine ktopi e125 ?_
          clear e125
          refine kput X hVB132 (ci := 6) inlX6 rfl tyX6 tyX6_ok nmX6 0 rfl 5 (by decide) mw_62 rfl rfl rfl (Nat.le_of_ble_eq_true rfl) dX6_pieceStands_139 (fun H locs hV127 => ?_)
          have hV127 : kV E A s.heap H locs [(a0, .inr (6, [.ref a2, w0_1, w0_2, .ref a1, .int s_length, .int v139_124, .int o_used95_107, .int fault__123])), (a1, .inl (E.2 0, n_this_bytes, .inl s_bytes)), (a2, .inl (E.2 0, 120, .inl o_code95_109))] := hV127
          clear hVB132
          refine lv_aload_n hx hb dX6_pieceStands_142 rfl (lv_at hlB132 0 rfl) ?_
          refine lv_iconst (v := 2) hx hb dX6_pieceStands_143 (by decide) ?_
          refine lv_iload_n hx hb dX6_pieceStands_144 rfl (lv_at hlB132 1 rfl) ?_
          obtain ⟨r145_128, o_at145_129, o_used145_130, o_fault145_131, o_code145_132, hc133, h134⟩ := cb5_s h126
          clear h126
          refine kgoiE (krunV (rest := []) X hV127 [0, 1, 2] (hG0 _ a0 a1 a2 (w0_1) (w0_2) n_this_bytes s_length v139_124 o_used95_107 fault__123 s_bytes o_code95_109 2 p1 r145_128 o_at145_129 o_used145_130 o_fault145_131 o_code145_132 hc133) mw_299 kb_X6_rowStands (ci := 6) rfl rfl (by decide) rfl rfl hlB132.1 rfl (Nat.le_of_ble_eq_true rfl) dX6_pieceStands_145 (kRm_s _ (by decide))) X hV127 [0, 1, 2] [] rfl rfl rfl (by decide) (fun u H locs hV135 => ?_)
          have hV135 : kV E A s.heap H locs [(a0, .inr (6, [.ref a2, w0_1, w0_2, .ref a1, .int s_length, .int o_at145_129, .int o_used145_130, .int o_fault145_131])), (a1, .inl (E.2 0, n_this_bytes, .inl s_bytes)), (a2, .inl (E.2 0, 120, .inl o_code145_132))] := hV135.sub [0, 1, 2] rfl rfl
          clear hV127
          refine lv_if_ne (tgt := 153) hx hb dX6_pieceStands_148 (by decide) (fun c137 => ?_) (fun c137 => ?_)
          · have h138 := ieS c137 h134
            clear h134 c137
            refine lv_aload_n hx hb dX6_pieceStands_153 rfl (lv_at hlB132 0 rfl) ?_
            refine lv_iload_n hx hb dX6_pieceStands_154 rfl (lv_at hlB132 2 rfl) ?_
            refine lv_iconst (v := 0) hx hb dX6_pieceStands_155 (by decide) ?_
            obtain ⟨o_used156_140, o_code156_141, hc142, h143⟩ := cb2_s h138
            clear h138
            refine kgov (krunV (rest := []) X hV135 [0, 2] (c_X6_put l E _ a0 a2 (w0_1) (w0_2) (.ref a1) (.int s_length) (.int o_at145_129) (.int o_fault145_131) o_used145_130 o_code145_132 r104_117 0 o_used156_140 o_code156_141 hc142) mw_309 kb_X6_put (ci := 6) rfl rfl (by decide) rfl rfl hlB132.1 rfl (Nat.le_of_ble_eq_true rfl) dX6_pieceStands_156 (kRm_g _ (by decide))) X hV135 [0, 2] [1] rfl rfl rfl (by decide) (fun u H locs hp145 hV144 => ?_)
            have hV144 : kV E A s.heap H locs [(a0, .inr (6, [.ref a2, w0_1, w0_2, .ref a1, .int s_length, .int o_at145_129, .int o_used156_140, .int o_fault145_131])), (a1, .inl (E.2 0, n_this_bytes, .inl s_bytes)), (a2, .inl (E.2 0, 120, .inl o_code156_141))] := hV144.sub [1, 0, 2] rfl rfl
            clear hV135
            refine lv_iconst (v := 1) hx hb dX6_pieceStands_159 (by decide) ?_
            obtain ⟨q146, q147, q148, q149, q150⟩ := tup5_s h143
            clear h143
            exact hret _ () _ _ _ _ q146 rfl (by rw [← q147, ← q148, ← q149, ← q150]; exact hV144) dX6_pieceStands_160
          · have h139 := itS c137 h134
            clear h134 c137
            refine lv_iconst (v := 0) hx hb dX6_pieceStands_151 (by decide) ?_
            obtain ⟨q151, q152, q153, q154, q155⟩ := tup5_s h139
            clear h139
            exact hret _ () _ _ _ _ q151 rfl (by rw [← q152, ← q153, ← q154, ← q155]; exact hV135) dX6_pieceStands_152
        refine lv_icmp_eq (tgt := 132) hx hb dX6_pieceStands_111 (by decide) (fun c156 => ?_) (fun c156 => ?_)
        · have h157 := itS c156 h119
          clear h119 c156
          exact J132 o_fault95_108 _ _ _ h157 hV120 (lv_sub hl122 [2, 3, 0] rfl)
        · have h158 := ieS c156 h119
          clear h119 c156
          refine lv_iload_n hx hb dX6_pieceStands_114 rfl (lv_at hl122 0 rfl) ?_
          refine lv_bipush (v := 62) hx hb dX6_pieceStands_115 (by decide) ?_
          refine lv_icmp_eq (tgt := 132) hx hb dX6_pieceStands_117 (by decide) (fun c159 => ?_) (fun c159 => ?_)
          · have h160 := itS c159 h158
            clear h158 c159
            exact J132 o_fault95_108 _ _ _ h160 hV120 (lv_sub hl122 [2, 3, 0] rfl)
          · have h161 := ieS c159 h158
            clear h158 c159
            refine lv_iload_n hx hb dX6_pieceStands_120 rfl (lv_at hl122 0 rfl) ?_
            refine lv_bipush (v := 61) hx hb dX6_pieceStands_121 (by decide) ?_
            refine lv_icmp_eq (tgt := 132) hx hb dX6_pieceStands_123 (by decide) (fun c162 => ?_) (fun c162 => ?_)
            · have h163 := itS c162 h161
              clear h161 c162
              exact J132 o_fault95_108 _ _ _ h163 hV120 (lv_sub hl122 [2, 3, 0] rfl)
            · have h164 := ieS c162 h161
              clear h161 c162
              refine lv_aload_n hx hb dX6_pieceStands_126 rfl (lv_at hl122 2 rfl) ?_
              refine lv_iconst (v := 1) hx hb dX6_pieceStands_127 (by decide) ?_
              obtain ⟨r128_165, o_fault128_166, hc167, h168⟩ := cb2_s h164
              clear h164
              refine kgoiE (krunV (rest := []) X hV120 [0] (c_X6_fail l E _ a0 (.ref a2) (w0_1) (w0_2) (.ref a1) (.int s_length) (.int o_at95_106) (.int o_used95_107) o_fault95_108 1 r128_165 o_fault128_166 hc167) mw_295 kb_X6_fail (ci := 6) rfl rfl (by decide) rfl rfl hl122.1 rfl (Nat.le_of_ble_eq_true rfl) dX6_pieceStands_128 (kRm_g _ (by decide))) X hV120 [0] [1, 2] rfl rfl rfl (by decide) (fun u H locs hV169 => ?_)
              have hV169 : kV E A s.heap H locs [(a0, .inr (6, [.ref a2, w0_1, w0_2, .ref a1, .int s_length, .int o_at95_106, .int o_used95_107, .int o_fault128_166])), (a1, .inl (E.2 0, n_this_bytes, .inl s_bytes)), (a2, .inl (E.2 0, 120, .inl o_code95_109))] := hV169.sub [2, 0, 1] rfl rfl
              clear hV120
              obtain ⟨hb171, h172⟩ := bo_s h168
              clear h168
              obtain ⟨q173, q174, q175, q176, q177⟩ := tup5_s h172
              clear h172
              exact hret _ () _ _ _ _ q173 hb171 (by rw [← q174, ← q175, ← q176, ← q177]; exact hV169) dX6_pieceStands_131
      · have h116 := itS c114 h111
        clear h111 c114
        refine lv_iconst (v := 0) hx hb dX6_pieceStands_101 (by decide) ?_
        obtain ⟨q178, q179, q180, q181, q182⟩ := tup5_s h116
        clear h116
        exact hret _ () _ _ _ _ q178 rfl (by rw [← q179, ← q180, ← q181, ← q182]; exact hV112) dX6_pieceStands_102
    · have h104 := itS c102 h101
      clear h101 c102
      exact J17 s_at s_fault s_used s_code _ _ _ h104 hV4 (lv_sub hl6 [1, 2, 0] rfl)
noncomputable def b_X6_factorStands_J86 (s_fault : Int32)  (at__18 : Int32) (used__19 : Int32) (code__20 : Nat → Int32) : Option (Int32 × Int32 × Int32 × Int32 × (Nat → Int32)) :=
    cb2 (f_X6_fail s_fault 1) fun r88_21 o_fault88_22 =>
    bo r88_21 <|
    some (r88_21, at__18, used__19, o_fault88_22, code__20)
noncomputable def b_X6_factorStands (G0 : Nat → Int32 → Int32 → Int32 → Int32 → (Nat → Int32) → (Nat → Int32) → Int32 → Int32 → Option (Int32 × Int32 × Int32 × Int32 × (Nat → Int32))) (G1 : Nat → Int32 → Int32 → Int32 → Int32 → (Nat → Int32) → (Nat → Int32) → Int32 → Int32 → Option (Int32 × Int32 × Int32 × Int32 × (Nat → Int32))) (G2 : Nat → Int32 → Int32 → Int32 → Int32 → (Nat → Int32) → (Nat → Int32) → Int32 → Option (Int32 × Int32 × Int32 × Int32 × (Nat → Int32))) (G3 : Nat → Int32 → Int32 → Int32 → Int32 → (Nat → Int32) → (Nat → Int32) → Int32 → Option (Int32 × Int32 × Int32 × Int32 × (Nat → Int32))) (n_this_bytes : Nat) (s_length : Int32) (s_at : Int32) (s_used : Int32) (s_fault : Int32) (s_bytes : Nat → Int32) (s_code : Nat → Int32) (p1 : Int32) : Option (Int32 × Int32 × Int32 × Int32 × (Nat → Int32)) :=
    cb1 (f_X6_next n_this_bytes s_length s_at s_bytes) fun r1_1 =>
    if r1_1 = 91 then
    (if p1 < 6 then
      (nmI (s_at + 1) fun v30_79 =>
        cb5 (G0 n_this_bytes s_length v30_79 s_used s_fault s_bytes s_code 2 (p1 + 1)) fun r38_83 o_at38_84 o_used38_85 o_fault38_86 o_code38_87 =>
        if r38_83 = 0 then
        (some (0, o_at38_84, o_used38_85, o_fault38_86, o_code38_87))
        else
        (cb3 (f_X6_signStands n_this_bytes s_length o_at38_84 o_fault38_86 s_bytes 93) fun r47_100 o_at47_101 o_fault47_102 =>
          if r47_100 = 0 then
          (some (0, o_at47_101, o_used38_85, o_fault47_102, o_code38_87))
          else
          (some (1, o_at47_101, o_used38_85, o_fault47_102, o_code38_87))))
      else
      (cb2 (f_X6_fail s_fault 5) fun r19_120 o_fault19_121 =>
        bo r19_120 <|
        some (r19_120, s_at, s_used, o_fault19_121, s_code)))
    else
    (cb1 (f_X6_isDigit r1_1) fun r60_10 =>
      if r60_10 = 0 then
      (if r1_1 = (-1) then
        ((b_X6_factorStands_J86 s_fault ) s_at s_used s_code)
        else
        (cb1 (f_J0_indexOf_0f7a4 (ji2c r1_1)) fun r80_37 =>
          if 0 ≤ r80_37 then
          (cb2 (f_X6_put s_used s_code 97 r1_1) fun o_used96_45 o_code96_46 =>
            nmI (s_at + 1) fun v106_51 =>
            some (1, v106_51, o_used96_45, s_fault, o_code96_46))
          else
          ((b_X6_factorStands_J86 s_fault ) s_at s_used s_code)))
      else
      (cb5 (f_X6_numberStands n_this_bytes s_length s_at s_used s_fault s_bytes s_code) fun r67_60 o_at67_61 o_used67_62 o_fault67_63 o_code67_64 =>
        bo r67_60 <|
        some (r67_60, o_at67_61, o_used67_62, o_fault67_63, o_code67_64)))
set_option maxHeartbeats 4000000 in
set_option maxRecDepth 100000 in
theorem o_X6_factorStands (l : Launch) (E : kE) (d : Nat) (G0 : Nat → Int32 → Int32 → Int32 → Int32 → (Nat → Int32) → (Nat → Int32) → Int32 → Int32 → Option (Int32 × Int32 × Int32 × Int32 × (Nat → Int32))) (G1 : Nat → Int32 → Int32 → Int32 → Int32 → (Nat → Int32) → (Nat → Int32) → Int32 → Int32 → Option (Int32 × Int32 × Int32 × Int32 × (Nat → Int32))) (G2 : Nat → Int32 → Int32 → Int32 → Int32 → (Nat → Int32) → (Nat → Int32) → Int32 → Option (Int32 × Int32 × Int32 × Int32 × (Nat → Int32))) (G3 : Nat → Int32 → Int32 → Int32 → Int32 → (Nat → Int32) → (Nat → Int32) → Int32 → Option (Int32 × Int32 × Int32 × Int32 × (Nat → Int32))) (hG0 : ∀ (sz : Nat) (a0 a1 a2 : Nat) (w0_1 w0_2 : Value) (n_this_bytes : Nat) (s_length : Int32) (s_at : Int32) (s_used : Int32) (s_fault : Int32) (s_bytes : Nat → Int32) (s_code : Nat → Int32) (p1 : Int32) (p2 : Int32) (r : Int32) (o_at : Int32) (o_used : Int32) (o_fault : Int32) (o_code : Nat → Int32), G0 n_this_bytes s_length s_at s_used s_fault s_bytes s_code p1 p2 = some (r, o_at, o_used, o_fault, o_code) → kMi l yX6_rowStands cX6_rowStands 7 (some .boolean) (rg d) [.ref a0, .int p1, .int p2] E [(a0, .inr (6, [.ref a2, w0_1, w0_2, .ref a1, .int s_length, .int s_at, .int s_used, .int s_fault])), (a1, .inl (E.2 0, n_this_bytes, .inl s_bytes)), (a2, .inl (E.2 0, 120, .inl s_code))] sz 0 0 (fun x (_ : Unit) => x = r) (fun _ => [(a0, .inr (6, [.ref a2, w0_1, w0_2, .ref a1, .int s_length, .int o_at, .int o_used, .int o_fault])), (a1, .inl (E.2 0, n_this_bytes, .inl s_bytes)), (a2, .inl (E.2 0, 120, .inl o_code))])) (hG1 : ∀ (sz : Nat) (a0 a1 a2 : Nat) (w0_1 w0_2 : Value) (n_this_bytes : Nat) (s_length : Int32) (s_at : Int32) (s_used : Int32) (s_fault : Int32) (s_bytes : Nat → Int32) (s_code : Nat → Int32) (p1 : Int32) (p2 : Int32) (r : Int32) (o_at : Int32) (o_used : Int32) (o_fault : Int32) (o_code : Nat → Int32), G1 n_this_bytes s_length s_at s_used s_fault s_bytes s_code p1 p2 = some (r, o_at, o_used, o_fault, o_code) → kMi l yX6_operandStands cX6_operandStands 3 (some .boolean) (rg d) [.ref a0, .int p1, .int p2] E [(a0, .inr (6, [.ref a2, w0_1, w0_2, .ref a1, .int s_length, .int s_at, .int s_used, .int s_fault])), (a1, .inl (E.2 0, n_this_bytes, .inl s_bytes)), (a2, .inl (E.2 0, 120, .inl s_code))] sz 0 0 (fun x (_ : Unit) => x = r) (fun _ => [(a0, .inr (6, [.ref a2, w0_1, w0_2, .ref a1, .int s_length, .int o_at, .int o_used, .int o_fault])), (a1, .inl (E.2 0, n_this_bytes, .inl s_bytes)), (a2, .inl (E.2 0, 120, .inl o_code))])) (hG2 : ∀ (sz : Nat) (a0 a1 a2 : Nat) (w0_1 w0_2 : Value) (n_this_bytes : Nat) (s_length : Int32) (s_at : Int32) (s_used : Int32) (s_fault : Int32) (s_bytes : Nat → Int32) (s_code : Nat → Int32) (p1 : Int32) (r : Int32) (o_at : Int32) (o_used : Int32) (o_fault : Int32) (o_code : Nat → Int32), G2 n_this_bytes s_length s_at s_used s_fault s_bytes s_code p1 = some (r, o_at, o_used, o_fault, o_code) → kMi l yX6_pieceStands cX6_pieceStands 4 (some .boolean) (rg d) [.ref a0, .int p1] E [(a0, .inr (6, [.ref a2, w0_1, w0_2, .ref a1, .int s_length, .int s_at, .int s_used, .int s_fault])), (a1, .inl (E.2 0, n_this_bytes, .inl s_bytes)), (a2, .inl (E.2 0, 120, .inl s_code))] sz 0 0 (fun x (_ : Unit) => x = r) (fun _ => [(a0, .inr (6, [.ref a2, w0_1, w0_2, .ref a1, .int s_length, .int o_at, .int o_used, .int o_fault])), (a1, .inl (E.2 0, n_this_bytes, .inl s_bytes)), (a2, .inl (E.2 0, 120, .inl o_code))])) (hG3 : ∀ (sz : Nat) (a0 a1 a2 : Nat) (w0_1 w0_2 : Value) (n_this_bytes : Nat) (s_length : Int32) (s_at : Int32) (s_used : Int32) (s_fault : Int32) (s_bytes : Nat → Int32) (s_code : Nat → Int32) (p1 : Int32) (r : Int32) (o_at : Int32) (o_used : Int32) (o_fault : Int32) (o_code : Nat → Int32), G3 n_this_bytes s_length s_at s_used s_fault s_bytes s_code p1 = some (r, o_at, o_used, o_fault, o_code) → kMi l yX6_factorStands cX6_factorStands 3 (some .boolean) (rg d) [.ref a0, .int p1] E [(a0, .inr (6, [.ref a2, w0_1, w0_2, .ref a1, .int s_length, .int s_at, .int s_used, .int s_fault])), (a1, .inl (E.2 0, n_this_bytes, .inl s_bytes)), (a2, .inl (E.2 0, 120, .inl s_code))] sz 0 0 (fun x (_ : Unit) => x = r) (fun _ => [(a0, .inr (6, [.ref a2, w0_1, w0_2, .ref a1, .int s_length, .int o_at, .int o_used, .int o_fault])), (a1, .inl (E.2 0, n_this_bytes, .inl s_bytes)), (a2, .inl (E.2 0, 120, .inl o_code))])) (sz : Nat) (a0 a1 a2 : Nat) (w0_1 w0_2 : Value) (n_this_bytes : Nat) (s_length : Int32) (s_at : Int32) (s_used : Int32) (s_fault : Int32) (s_bytes : Nat → Int32) (s_code : Nat → Int32) (p1 : Int32) (r : Int32) (o_at : Int32) (o_used : Int32) (o_fault : Int32) (o_code : Nat → Int32) (h : b_X6_factorStands G0 G1 G2 G3 n_this_bytes s_length s_at s_used s_fault s_bytes s_code p1 = some (r, o_at, o_used, o_fault, o_code)) : kMi l yX6_factorStands cX6_factorStands 3 (some .boolean) (rg (d + 1)) [.ref a0, .int p1] E [(a0, .inr (6, [.ref a2, w0_1, w0_2, .ref a1, .int s_length, .int s_at, .int s_used, .int s_fault])), (a1, .inl (E.2 0, n_this_bytes, .inl s_bytes)), (a2, .inl (E.2 0, 120, .inl s_code))] sz 0 0 (fun x (_ : Unit) => x = r) (fun _ => [(a0, .inr (6, [.ref a2, w0_1, w0_2, .ref a1, .int s_length, .int o_at, .int o_used, .int o_fault])), (a1, .inl (E.2 0, n_this_bytes, .inl s_bytes)), (a2, .inl (E.2 0, 120, .inl o_code))]) := by
  refine kmeti rfl (Nat.le_of_ble_eq_true rfl) ?_
  intro p e s m args below meth c ls A Q X hV hret hl
  have X : kC p s m c cX6_factorStands 3 RX6 args E A := X
  have hx := X.1
  have hb := X.2.1
  have hl : lv_has ls 3 [(0, .ref a0), (1, .int p1)] := hl
  rw [b_X6_factorStands] at h
  refine lv_aload_n hx hb dX6_factorStands_0 rfl (lv_at hl 0 rfl) ?_
  obtain ⟨r1_1, hc2, h3⟩ := cb1_s h
  clear h
  refine kgoiE (krunV (rest := []) X hV [0, 1] (c_X6_next l E _ a0 a1 (.ref a2) (w0_1) (w0_2) (.int s_used) (.int s_fault) n_this_bytes s_length s_at s_bytes r1_1 hc2) mw_291 kb_X6_next (ci := 6) rfl rfl (by decide) rfl rfl hl.1 rfl (Nat.le_of_ble_eq_true rfl) dX6_factorStands_1 (kRm_g _ (by decide))) X hV [0, 1] [2] rfl rfl rfl (by decide) (fun u H locs hV4 => ?_)
  have hV4 : kV E A s.heap H locs [(a0, .inr (6, [.ref a2, w0_1, w0_2, .ref a1, .int s_length, .int s_at, .int s_used, .int s_fault])), (a1, .inl (E.2 0, n_this_bytes, .inl s_bytes)), (a2, .inl (E.2 0, 120, .inl s_code))] := hV4.sub [1, 2, 0] rfl rfl
  clear hV
  refine lv_istore_n (lv' := [(2, .int r1_1), (0, .ref a0), (1, .int p1)]) hx hb dX6_factorStands_4 rfl hl (by decide) rfl (fun ls hl6 => ?_)
  clear hl
  refine lv_iload_n hx hb dX6_factorStands_5 rfl (lv_at hl6 0 rfl) ?_
  refine lv_bipush (v := 91) hx hb dX6_factorStands_6 (by decide) ?_
  refine lv_icmp_ne (tgt := 59) hx hb dX6_factorStands_8 (by decide) (fun c7 => ?_) (fun c7 => ?_)
  · have h8 := ieS c7 h3
    clear h3 c7
    refine lv_iload_n hx hb dX6_factorStands_59 rfl (lv_at hl6 0 rfl) ?_
    obtain ⟨r60_10, hc11, h12⟩ := cb1_s h8
    clear h8
    refine kgoiE (krunS (rest := []) X hV4 [] (c_X6_isDigit l E _ r1_1 r60_10 hc11) mw_318 kb_X6_isDigit (by decide) rfl rfl hl6.1 rfl (Nat.le_of_ble_eq_true rfl) dX6_factorStands_60 (kRm_g _ (by decide))) X hV4 [] [0, 1, 2] rfl rfl rfl (by decide) (fun u H locs hV13 => ?_)
    have hV13 : kV E A s.heap H locs [(a0, .inr (6, [.ref a2, w0_1, w0_2, .ref a1, .int s_length, .int s_at, .int s_used, .int s_fault])), (a1, .inl (E.2 0, n_this_bytes, .inl s_bytes)), (a2, .inl (E.2 0, 120, .inl s_code))] := hV13.sub [0, 1, 2] rfl rfl
    clear hV4
    refine lv_if_eq (tgt := 71) hx hb dX6_factorStands_63 (by decide) (fun c15 => ?_) (fun c15 => ?_)
    · have h16 := itS c15 h12
      clear h12 c15
      refine lv_iload_n hx hb dX6_factorStands_71 rfl (lv_at hl6 0 rfl) ?_
      refine lv_iconst (v := (-1)) hx hb dX6_factorStands_72 (by decide) ?_
      have J86 : ∀ (at__18 : Int32) (used__19 : Int32) (code__20 : Nat → Int32) (H : Heap) (locs : List Loc) (ls : Array Slot), (b_X6_factorStands_J86 s_fault ) at__18 used__19 code__20 = some (r, o_at, o_used, o_fault, o_code) → kV E A s.heap H locs [(a0, .inr (6, [.ref a2, w0_1, w0_2, .ref a1, .int s_length, .int at__18, .int used__19, .int s_fault])), (a1, .inl (E.2 0, n_this_bytes, .inl s_bytes)), (a2, .inl (E.2 0, 120, .inl code__20))] → lv_has ls 3 [(0, .ref a0)] → W p l e (rg (d + 1)) s m args below meth c H locs 0 0 Q (F0 m 86 ls []) := by
        intro at__18 used__19 code__20 H locs ls hB86 hVB86 hlB86
        rw [b_X6_factorStands_J86] at hB86
        refine lv_aload_n hx hb dX6_factorStands_86 rfl (lv_at hlB86 0 rfl) ?_
        refine lv_iconst (v := 1) hx hb dX6_factorStands_87 (by decide) ?_
        obtain ⟨r88_21, o_fault88_22, hc23, h24⟩ := cb2_s hB86
        clear hB86
        refine kgoiE (krunV (rest := []) X hVB86 [0] (c_X6_fail l E _ a0 (.ref a2) (w0_1) (w0_2) (.ref a1) (.int s_length) (.int at__18) (.int used__19) s_fault 1 r88_21 o_fault88_22 hc23) mw_295 kb_X6_fail (ci := 6) rfl rfl (by decide) rfl rfl hlB86.1 rfl (Nat.le_of_ble_eq_true rfl) dX6_factorStands_88 (kRm_g _ (by decide))) X hVB86 [0] [1, 2] rfl rfl rfl (by decide) (fun u H locs hV25 => ?_)
        have hV25 : kV E A s.heap H locs [(a0, .inr (6, [.ref a2, w0_1, w0_2, .ref a1, .int s_length, .int at__18, .int used__19, .int o_fault88_22])), (a1, .inl (E.2 0, n_this_bytes, .inl s_bytes)), (a2, .inl (E.2 0, 120, .inl code__20))] := hV25.sub [2, 0, 1] rfl rfl
        clear hVB86
        obtain ⟨hb27, h28⟩ := bo_s h24
        clear h24
        obtain ⟨q29, q30, q31, q32, q33⟩ := tup5_s h28
        clear h28
        exact hret _ () _ _ _ _ q29 hb27 (by rw [← q30, ← q31, ← q32, ← q33]; exact hV25) dX6_factorStands_91
      refine lv_icmp_eq (tgt := 86) hx hb dX6_factorStands_73 (by decide) (fun c34 => ?_) (fun c34 => ?_)
      · have h35 := itS c34 h16
        clear h16 c34
        exact J86 s_at s_used s_code _ _ _ h35 hV13 (lv_sub hl6 [1] rfl)
      · have h36 := ieS c34 h16
        clear h16 c34
        refine va_ldcS hx hb X.2.2.2.1 X.2.2.2.2.2.1.2.2.2.2.1 dX6_factorStands_76 ?_
        refine lv_iload_n hx hb dX6_factorStands_78 rfl (lv_at hl6 0 rfl) ?_
        refine lv_i2c (v := ji2c r1_1) hx hb dX6_factorStands_79 rfl ?_
        obtain ⟨r80_37, hc38, h39⟩ := cb1_s h36
        clear h36
        refine kgoiE (krunVs (rest := []) X hV13 (c_J0_indexOf_0f7a4 l E _ (ji2c r1_1) r80_37 hc38) mw_325 kb_J0_indexOf_0f7a4 rfl rfl hl6.1 rfl (Nat.le_of_ble_eq_true rfl) dX6_factorStands_80 (kRm_g _ (by decide))) X hV13 [] [0, 1, 2] rfl rfl rfl (by decide) (fun u H locs hV40 => ?_)
        have hV40 : kV E A s.heap H locs [(a0, .inr (6, [.ref a2, w0_1, w0_2, .ref a1, .int s_length, .int s_at, .int s_used, .int s_fault])), (a1, .inl (E.2 0, n_this_bytes, .inl s_bytes)), (a2, .inl (E.2 0, 120, .inl s_code))] := hV40.sub [0, 1, 2] rfl rfl
        clear hV13
        refine lv_if_ge (tgt := 92) hx hb dX6_factorStands_83 (by decide) (fun c42 => ?_) (fun c42 => ?_)
        · have h43 := itS c42 h39
          clear h39 c42
          refine lv_aload_n hx hb dX6_factorStands_92 rfl (lv_at hl6 1 rfl) ?_
          refine lv_bipush (v := 97) hx hb dX6_factorStands_93 (by decide) ?_
          refine lv_iload_n hx hb dX6_factorStands_95 rfl (lv_at hl6 0 rfl) ?_
          obtain ⟨o_used96_45, o_code96_46, hc47, h48⟩ := cb2_s h43
          clear h43
          refine kgov (krunV (rest := []) X hV40 [0, 2] (c_X6_put l E _ a0 a2 (w0_1) (w0_2) (.ref a1) (.int s_length) (.int s_at) (.int s_fault) s_used s_code 97 r1_1 o_used96_45 o_code96_46 hc47) mw_309 kb_X6_put (ci := 6) rfl rfl (by decide) rfl rfl hl6.1 rfl (Nat.le_of_ble_eq_true rfl) dX6_factorStands_96 (kRm_g _ (by decide))) X hV40 [0, 2] [1] rfl rfl rfl (by decide) (fun u H locs hp50 hV49 => ?_)
          have hV49 : kV E A s.heap H locs [(a0, .inr (6, [.ref a2, w0_1, w0_2, .ref a1, .int s_length, .int s_at, .int o_used96_45, .int s_fault])), (a1, .inl (E.2 0, n_this_bytes, .inl s_bytes)), (a2, .inl (E.2 0, 120, .inl o_code96_46))] := hV49.sub [1, 0, 2] rfl rfl
          clear hV40
          refine lv_aload_n hx hb dX6_factorStands_99 rfl (lv_at hl6 1 rfl) ?_
          refine lv_dup hx hb dX6_factorStands_100 rfl ?_
          refine kget X hV49 (ci := 6) inlX6 rfl 0 rfl 5 (by decide) mw_62 rfl dX6_factorStands_101 ?_
          refine lv_iconst (v := 1) hx hb dX6_factorStands_104 (by decide) ?_
          refine lv_iadd hx hb dX6_factorStands_105 ?_
          obtain ⟨v106_51, e52, h53⟩ := nmI_s h48
          clear h48
          refine ktopi e52 ?_
          clear e52
          refine kput X hV49 (ci := 6) inlX6 rfl tyX6 tyX6_ok nmX6 0 rfl 5 (by decide) mw_62 rfl rfl rfl (Nat.le_of_ble_eq_true rfl) dX6_factorStands_106 (fun H locs hV54 => ?_)
          have hV54 : kV E A s.heap H locs [(a0, .inr (6, [.ref a2, w0_1, w0_2, .ref a1, .int s_length, .int v106_51, .int o_used96_45, .int s_fault])), (a1, .inl (E.2 0, n_this_bytes, .inl s_bytes)), (a2, .inl (E.2 0, 120, .inl o_code96_46))] := hV54
          clear hV49
          refine lv_iconst (v := 1) hx hb dX6_factorStands_109 (by decide) ?_
          obtain ⟨q55, q56, q57, q58, q59⟩ := tup5_s h53
          clear h53
          exact hret _ () _ _ _ _ q55 rfl (by rw [← q56, ← q57, ← q58, ← q59]; exact hV54) dX6_factorStands_110
        · have h44 := ieS c42 h39
          clear h39 c42
          exact J86 s_at s_used s_code _ _ _ h44 hV40 (lv_sub hl6 [1] rfl)
    · have h17 := ieS c15 h12
      clear h12 c15
      refine lv_aload_n hx hb dX6_factorStands_66 rfl (lv_at hl6 1 rfl) ?_
      obtain ⟨r67_60, o_at67_61, o_used67_62, o_fault67_63, o_code67_64, hc65, h66⟩ := cb5_s h17
      clear h17
      refine kgoiE (krunV (rest := []) X hV13 [0, 1, 2] (c_X6_numberStands l E _ a0 a1 a2 (w0_1) (w0_2) n_this_bytes s_length s_at s_used s_fault s_bytes s_code r67_60 o_at67_61 o_used67_62 o_fault67_63 o_code67_64 hc65) mw_321 kb_X6_numberStands (ci := 6) rfl rfl (by decide) rfl rfl hl6.1 rfl (Nat.le_of_ble_eq_true rfl) dX6_factorStands_67 (kRm_g _ (by decide))) X hV13 [0, 1, 2] [] rfl rfl rfl (by decide) (fun u H locs hV67 => ?_)
      have hV67 : kV E A s.heap H locs [(a0, .inr (6, [.ref a2, w0_1, w0_2, .ref a1, .int s_length, .int o_at67_61, .int o_used67_62, .int o_fault67_63])), (a1, .inl (E.2 0, n_this_bytes, .inl s_bytes)), (a2, .inl (E.2 0, 120, .inl o_code67_64))] := hV67.sub [0, 1, 2] rfl rfl
      clear hV13
      obtain ⟨hb69, h70⟩ := bo_s h66
      clear h66
      obtain ⟨q71, q72, q73, q74, q75⟩ := tup5_s h70
      clear h70
      exact hret _ () _ _ _ _ q71 hb69 (by rw [← q72, ← q73, ← q74, ← q75]; exact hV67) dX6_factorStands_70
  · have h9 := itS c7 h3
    clear h3 c7
    refine lv_iload_n hx hb dX6_factorStands_11 rfl (lv_at hl6 2 rfl) ?_
    refine lv_bipush (v := 6) hx hb dX6_factorStands_12 (by decide) ?_
    refine lv_icmp_lt (tgt := 23) hx hb dX6_factorStands_14 (by decide) (fun c76 => ?_) (fun c76 => ?_)
    · have h77 := itS c76 h9
      clear h9 c76
      refine lv_aload_n hx hb dX6_factorStands_23 rfl (lv_at hl6 1 rfl) ?_
      refine lv_dup hx hb dX6_factorStands_24 rfl ?_
      refine kget X hV4 (ci := 6) inlX6 rfl 0 rfl 5 (by decide) mw_62 rfl dX6_factorStands_25 ?_
      refine lv_iconst (v := 1) hx hb dX6_factorStands_28 (by decide) ?_
      refine lv_iadd hx hb dX6_factorStands_29 ?_
      obtain ⟨v30_79, e80, h81⟩ := nmI_s h77
      clear h77
      refine ktopi e80 ?_
      clear e80
      refine kput X hV4 (ci := 6) inlX6 rfl tyX6 tyX6_ok nmX6 0 rfl 5 (by decide) mw_62 rfl rfl rfl (Nat.le_of_ble_eq_true rfl) dX6_factorStands_30 (fun H locs hV82 => ?_)
      have hV82 : kV E A s.heap H locs [(a0, .inr (6, [.ref a2, w0_1, w0_2, .ref a1, .int s_length, .int v30_79, .int s_used, .int s_fault])), (a1, .inl (E.2 0, n_this_bytes, .inl s_bytes)), (a2, .inl (E.2 0, 120, .inl s_code))] := hV82
      clear hV4
      refine lv_aload_n hx hb dX6_factorStands_33 rfl (lv_at hl6 1 rfl) ?_
      refine lv_iconst (v := 2) hx hb dX6_factorStands_34 (by decide) ?_
      refine lv_iload_n hx hb dX6_factorStands_35 rfl (lv_at hl6 2 rfl) ?_
      refine lv_iconst (v := 1) hx hb dX6_factorStands_36 (by decide) ?_
      refine lv_iadd hx hb dX6_factorStands_37 ?_
      obtain ⟨r38_83, o_at38_84, o_used38_85, o_fault38_86, o_code38_87, hc88, h89⟩ := cb5_s h81
      clear h81
      refine kgoiE (krunV (rest := []) X hV82 [0, 1, 2] (hG0 _ a0 a1 a2 (w0_1) (w0_2) n_this_bytes s_length v30_79 s_used s_fault s_bytes s_code 2 (p1 + 1) r38_83 o_at38_84 o_used38_85 o_fault38_86 o_code38_87 hc88) mw_299 kb_X6_rowStands (ci := 6) rfl rfl (by decide) rfl rfl hl6.1 rfl (Nat.le_of_ble_eq_true rfl) dX6_factorStands_38 (kRm_s _ (by decide))) X hV82 [0, 1, 2] [] rfl rfl rfl (by decide) (fun u H locs hV90 => ?_)
      have hV90 : kV E A s.heap H locs [(a0, .inr (6, [.ref a2, w0_1, w0_2, .ref a1, .int s_length, .int o_at38_84, .int o_used38_85, .int o_fault38_86])), (a1, .inl (E.2 0, n_this_bytes, .inl s_bytes)), (a2, .inl (E.2 0, 120, .inl o_code38_87))] := hV90.sub [0, 1, 2] rfl rfl
      clear hV82
      refine lv_if_eq (tgt := 57) hx hb dX6_factorStands_41 (by decide) (fun c92 => ?_) (fun c92 => ?_)
      · have h93 := itS c92 h89
        clear h89 c92
        refine lv_iconst (v := 0) hx hb dX6_factorStands_57 (by decide) ?_
        obtain ⟨q95, q96, q97, q98, q99⟩ := tup5_s h93
        clear h93
        exact hret _ () _ _ _ _ q95 rfl (by rw [← q96, ← q97, ← q98, ← q99]; exact hV90) dX6_factorStands_58
      · have h94 := ieS c92 h89
        clear h89 c92
        refine lv_aload_n hx hb dX6_factorStands_44 rfl (lv_at hl6 1 rfl) ?_
        refine lv_bipush (v := 93) hx hb dX6_factorStands_45 (by decide) ?_
        obtain ⟨r47_100, o_at47_101, o_fault47_102, hc103, h104⟩ := cb3_s h94
        clear h94
        refine kgoiE (krunV (rest := []) X hV90 [0, 1] (c_X6_signStands l E _ a0 a1 (.ref a2) (w0_1) (w0_2) (.int o_used38_85) n_this_bytes s_length o_at38_84 o_fault38_86 s_bytes 93 r47_100 o_at47_101 o_fault47_102 hc103) mw_287 kb_X6_signStands (ci := 6) rfl rfl (by decide) rfl rfl hl6.1 rfl (Nat.le_of_ble_eq_true rfl) dX6_factorStands_47 (kRm_g _ (by decide))) X hV90 [0, 1] [2] rfl rfl rfl (by decide) (fun u H locs hV105 => ?_)
        have hV105 : kV E A s.heap H locs [(a0, .inr (6, [.ref a2, w0_1, w0_2, .ref a1, .int s_length, .int o_at47_101, .int o_used38_85, .int o_fault47_102])), (a1, .inl (E.2 0, n_this_bytes, .inl s_bytes)), (a2, .inl (E.2 0, 120, .inl o_code38_87))] := hV105.sub [1, 2, 0] rfl rfl
        clear hV90
        refine lv_if_eq (tgt := 57) hx hb dX6_factorStands_50 (by decide) (fun c107 => ?_) (fun c107 => ?_)
        · have h108 := itS c107 h104
          clear h104 c107
          refine lv_iconst (v := 0) hx hb dX6_factorStands_57 (by decide) ?_
          obtain ⟨q110, q111, q112, q113, q114⟩ := tup5_s h108
          clear h108
          exact hret _ () _ _ _ _ q110 rfl (by rw [← q111, ← q112, ← q113, ← q114]; exact hV105) dX6_factorStands_58
        · have h109 := ieS c107 h104
          clear h104 c107
          refine lv_iconst (v := 1) hx hb dX6_factorStands_53 (by decide) ?_
          refine lv_goto (tgt := 58) hx hb dX6_factorStands_54 (by decide) ?_
          obtain ⟨q115, q116, q117, q118, q119⟩ := tup5_s h109
          clear h109
          exact hret _ () _ _ _ _ q115 rfl (by rw [← q116, ← q117, ← q118, ← q119]; exact hV105) dX6_factorStands_58
    · have h78 := ieS c76 h9
      clear h9 c76
      refine lv_aload_n hx hb dX6_factorStands_17 rfl (lv_at hl6 1 rfl) ?_
      refine lv_iconst (v := 5) hx hb dX6_factorStands_18 (by decide) ?_
      obtain ⟨r19_120, o_fault19_121, hc122, h123⟩ := cb2_s h78
      clear h78
      refine kgoiE (krunV (rest := []) X hV4 [0] (c_X6_fail l E _ a0 (.ref a2) (w0_1) (w0_2) (.ref a1) (.int s_length) (.int s_at) (.int s_used) s_fault 5 r19_120 o_fault19_121 hc122) mw_295 kb_X6_fail (ci := 6) rfl rfl (by decide) rfl rfl hl6.1 rfl (Nat.le_of_ble_eq_true rfl) dX6_factorStands_19 (kRm_g _ (by decide))) X hV4 [0] [1, 2] rfl rfl rfl (by decide) (fun u H locs hV124 => ?_)
      have hV124 : kV E A s.heap H locs [(a0, .inr (6, [.ref a2, w0_1, w0_2, .ref a1, .int s_length, .int s_at, .int s_used, .int o_fault19_121])), (a1, .inl (E.2 0, n_this_bytes, .inl s_bytes)), (a2, .inl (E.2 0, 120, .inl s_code))] := hV124.sub [2, 0, 1] rfl rfl
      clear hV4
      obtain ⟨hb126, h127⟩ := bo_s h123
      clear h123
      obtain ⟨q128, q129, q130, q131, q132⟩ := tup5_s h127
      clear h127
      exact hret _ () _ _ _ _ q128 hb126 (by rw [← q129, ← q130, ← q131, ← q132]; exact hV124) dX6_factorStands_22
noncomputable def f_grp : Nat → Nat → Nat → Int32 → Int32 → Int32 → Int32 → (Nat → Int32) → (Nat → Int32) → Int32 → Int32 → Option (Int32 × Int32 × Int32 × Int32 × (Nat → Int32))
  | 0, _, _, _, _, _, _, _, _, _, _ => none
  | d + 1, tag, n_this_bytes, s_length, s_at, s_used, s_fault, s_bytes, s_code, p1, p2 =>
    if tag = 0 then b_X6_rowStands (fun n_this_bytes s_length s_at s_used s_fault s_bytes s_code p1 p2 => f_grp d 0 n_this_bytes s_length s_at s_used s_fault s_bytes s_code p1 p2) (fun n_this_bytes s_length s_at s_used s_fault s_bytes s_code p1 p2 => f_grp d 1 n_this_bytes s_length s_at s_used s_fault s_bytes s_code p1 p2) (fun n_this_bytes s_length s_at s_used s_fault s_bytes s_code p1 => f_grp d 2 n_this_bytes s_length s_at s_used s_fault s_bytes s_code p1 0) (fun n_this_bytes s_length s_at s_used s_fault s_bytes s_code p1 => f_grp d 3 n_this_bytes s_length s_at s_used s_fault s_bytes s_code p1 0) n_this_bytes s_length s_at s_used s_fault s_bytes s_code p1 p2 else
    if tag = 1 then b_X6_operandStands (fun n_this_bytes s_length s_at s_used s_fault s_bytes s_code p1 p2 => f_grp d 0 n_this_bytes s_length s_at s_used s_fault s_bytes s_code p1 p2) (fun n_this_bytes s_length s_at s_used s_fault s_bytes s_code p1 p2 => f_grp d 1 n_this_bytes s_length s_at s_used s_fault s_bytes s_code p1 p2) (fun n_this_bytes s_length s_at s_used s_fault s_bytes s_code p1 => f_grp d 2 n_this_bytes s_length s_at s_used s_fault s_bytes s_code p1 0) (fun n_this_bytes s_length s_at s_used s_fault s_bytes s_code p1 => f_grp d 3 n_this_bytes s_length s_at s_used s_fault s_bytes s_code p1 0) n_this_bytes s_length s_at s_used s_fault s_bytes s_code p1 p2 else
    if tag = 2 then b_X6_pieceStands (fun n_this_bytes s_length s_at s_used s_fault s_bytes s_code p1 p2 => f_grp d 0 n_this_bytes s_length s_at s_used s_fault s_bytes s_code p1 p2) (fun n_this_bytes s_length s_at s_used s_fault s_bytes s_code p1 p2 => f_grp d 1 n_this_bytes s_length s_at s_used s_fault s_bytes s_code p1 p2) (fun n_this_bytes s_length s_at s_used s_fault s_bytes s_code p1 => f_grp d 2 n_this_bytes s_length s_at s_used s_fault s_bytes s_code p1 0) (fun n_this_bytes s_length s_at s_used s_fault s_bytes s_code p1 => f_grp d 3 n_this_bytes s_length s_at s_used s_fault s_bytes s_code p1 0) n_this_bytes s_length s_at s_used s_fault s_bytes s_code p1 else
    if tag = 3 then b_X6_factorStands (fun n_this_bytes s_length s_at s_used s_fault s_bytes s_code p1 p2 => f_grp d 0 n_this_bytes s_length s_at s_used s_fault s_bytes s_code p1 p2) (fun n_this_bytes s_length s_at s_used s_fault s_bytes s_code p1 p2 => f_grp d 1 n_this_bytes s_length s_at s_used s_fault s_bytes s_code p1 p2) (fun n_this_bytes s_length s_at s_used s_fault s_bytes s_code p1 => f_grp d 2 n_this_bytes s_length s_at s_used s_fault s_bytes s_code p1 0) (fun n_this_bytes s_length s_at s_used s_fault s_bytes s_code p1 => f_grp d 3 n_this_bytes s_length s_at s_used s_fault s_bytes s_code p1 0) n_this_bytes s_length s_at s_used s_fault s_bytes s_code p1 else
    none
theorem f_grp_0 (d : Nat) (n_this_bytes : Nat) (s_length : Int32) (s_at : Int32) (s_used : Int32) (s_fault : Int32) (s_bytes : Nat → Int32) (s_code : Nat → Int32) (p1 : Int32) (p2 : Int32) : f_grp (d + 1) 0 n_this_bytes s_length s_at s_used s_fault s_bytes s_code p1 p2 = b_X6_rowStands (fun n_this_bytes s_length s_at s_used s_fault s_bytes s_code p1 p2 => f_grp d 0 n_this_bytes s_length s_at s_used s_fault s_bytes s_code p1 p2) (fun n_this_bytes s_length s_at s_used s_fault s_bytes s_code p1 p2 => f_grp d 1 n_this_bytes s_length s_at s_used s_fault s_bytes s_code p1 p2) (fun n_this_bytes s_length s_at s_used s_fault s_bytes s_code p1 => f_grp d 2 n_this_bytes s_length s_at s_used s_fault s_bytes s_code p1 0) (fun n_this_bytes s_length s_at s_used s_fault s_bytes s_code p1 => f_grp d 3 n_this_bytes s_length s_at s_used s_fault s_bytes s_code p1 0) n_this_bytes s_length s_at s_used s_fault s_bytes s_code p1 p2 := by rw [f_grp]; rfl
theorem f_grp_1 (d : Nat) (n_this_bytes : Nat) (s_length : Int32) (s_at : Int32) (s_used : Int32) (s_fault : Int32) (s_bytes : Nat → Int32) (s_code : Nat → Int32) (p1 : Int32) (p2 : Int32) : f_grp (d + 1) 1 n_this_bytes s_length s_at s_used s_fault s_bytes s_code p1 p2 = b_X6_operandStands (fun n_this_bytes s_length s_at s_used s_fault s_bytes s_code p1 p2 => f_grp d 0 n_this_bytes s_length s_at s_used s_fault s_bytes s_code p1 p2) (fun n_this_bytes s_length s_at s_used s_fault s_bytes s_code p1 p2 => f_grp d 1 n_this_bytes s_length s_at s_used s_fault s_bytes s_code p1 p2) (fun n_this_bytes s_length s_at s_used s_fault s_bytes s_code p1 => f_grp d 2 n_this_bytes s_length s_at s_used s_fault s_bytes s_code p1 0) (fun n_this_bytes s_length s_at s_used s_fault s_bytes s_code p1 => f_grp d 3 n_this_bytes s_length s_at s_used s_fault s_bytes s_code p1 0) n_this_bytes s_length s_at s_used s_fault s_bytes s_code p1 p2 := by rw [f_grp]; rfl
theorem f_grp_2 (d : Nat) (n_this_bytes : Nat) (s_length : Int32) (s_at : Int32) (s_used : Int32) (s_fault : Int32) (s_bytes : Nat → Int32) (s_code : Nat → Int32) (p1 : Int32) : f_grp (d + 1) 2 n_this_bytes s_length s_at s_used s_fault s_bytes s_code p1 0 = b_X6_pieceStands (fun n_this_bytes s_length s_at s_used s_fault s_bytes s_code p1 p2 => f_grp d 0 n_this_bytes s_length s_at s_used s_fault s_bytes s_code p1 p2) (fun n_this_bytes s_length s_at s_used s_fault s_bytes s_code p1 p2 => f_grp d 1 n_this_bytes s_length s_at s_used s_fault s_bytes s_code p1 p2) (fun n_this_bytes s_length s_at s_used s_fault s_bytes s_code p1 => f_grp d 2 n_this_bytes s_length s_at s_used s_fault s_bytes s_code p1 0) (fun n_this_bytes s_length s_at s_used s_fault s_bytes s_code p1 => f_grp d 3 n_this_bytes s_length s_at s_used s_fault s_bytes s_code p1 0) n_this_bytes s_length s_at s_used s_fault s_bytes s_code p1 := by rw [f_grp]; rfl
theorem f_grp_3 (d : Nat) (n_this_bytes : Nat) (s_length : Int32) (s_at : Int32) (s_used : Int32) (s_fault : Int32) (s_bytes : Nat → Int32) (s_code : Nat → Int32) (p1 : Int32) : f_grp (d + 1) 3 n_this_bytes s_length s_at s_used s_fault s_bytes s_code p1 0 = b_X6_factorStands (fun n_this_bytes s_length s_at s_used s_fault s_bytes s_code p1 p2 => f_grp d 0 n_this_bytes s_length s_at s_used s_fault s_bytes s_code p1 p2) (fun n_this_bytes s_length s_at s_used s_fault s_bytes s_code p1 p2 => f_grp d 1 n_this_bytes s_length s_at s_used s_fault s_bytes s_code p1 p2) (fun n_this_bytes s_length s_at s_used s_fault s_bytes s_code p1 => f_grp d 2 n_this_bytes s_length s_at s_used s_fault s_bytes s_code p1 0) (fun n_this_bytes s_length s_at s_used s_fault s_bytes s_code p1 => f_grp d 3 n_this_bytes s_length s_at s_used s_fault s_bytes s_code p1 0) n_this_bytes s_length s_at s_used s_fault s_bytes s_code p1 := by rw [f_grp]; rfl
theorem c_grp (l : Launch) (E : kE) : ∀ d : Nat, (∀ (sz : Nat) (a0 a1 a2 : Nat) (w0_1 w0_2 : Value) (n_this_bytes : Nat) (s_length : Int32) (s_at : Int32) (s_used : Int32) (s_fault : Int32) (s_bytes : Nat → Int32) (s_code : Nat → Int32) (p1 : Int32) (p2 : Int32) (r : Int32) (o_at : Int32) (o_used : Int32) (o_fault : Int32) (o_code : Nat → Int32), f_grp d 0 n_this_bytes s_length s_at s_used s_fault s_bytes s_code p1 p2 = some (r, o_at, o_used, o_fault, o_code) → kMi l yX6_rowStands cX6_rowStands 7 (some .boolean) (rg d) [.ref a0, .int p1, .int p2] E [(a0, .inr (6, [.ref a2, w0_1, w0_2, .ref a1, .int s_length, .int s_at, .int s_used, .int s_fault])), (a1, .inl (E.2 0, n_this_bytes, .inl s_bytes)), (a2, .inl (E.2 0, 120, .inl s_code))] sz 0 0 (fun x (_ : Unit) => x = r) (fun _ => [(a0, .inr (6, [.ref a2, w0_1, w0_2, .ref a1, .int s_length, .int o_at, .int o_used, .int o_fault])), (a1, .inl (E.2 0, n_this_bytes, .inl s_bytes)), (a2, .inl (E.2 0, 120, .inl o_code))])) ∧ (∀ (sz : Nat) (a0 a1 a2 : Nat) (w0_1 w0_2 : Value) (n_this_bytes : Nat) (s_length : Int32) (s_at : Int32) (s_used : Int32) (s_fault : Int32) (s_bytes : Nat → Int32) (s_code : Nat → Int32) (p1 : Int32) (p2 : Int32) (r : Int32) (o_at : Int32) (o_used : Int32) (o_fault : Int32) (o_code : Nat → Int32), f_grp d 1 n_this_bytes s_length s_at s_used s_fault s_bytes s_code p1 p2 = some (r, o_at, o_used, o_fault, o_code) → kMi l yX6_operandStands cX6_operandStands 3 (some .boolean) (rg d) [.ref a0, .int p1, .int p2] E [(a0, .inr (6, [.ref a2, w0_1, w0_2, .ref a1, .int s_length, .int s_at, .int s_used, .int s_fault])), (a1, .inl (E.2 0, n_this_bytes, .inl s_bytes)), (a2, .inl (E.2 0, 120, .inl s_code))] sz 0 0 (fun x (_ : Unit) => x = r) (fun _ => [(a0, .inr (6, [.ref a2, w0_1, w0_2, .ref a1, .int s_length, .int o_at, .int o_used, .int o_fault])), (a1, .inl (E.2 0, n_this_bytes, .inl s_bytes)), (a2, .inl (E.2 0, 120, .inl o_code))])) ∧ (∀ (sz : Nat) (a0 a1 a2 : Nat) (w0_1 w0_2 : Value) (n_this_bytes : Nat) (s_length : Int32) (s_at : Int32) (s_used : Int32) (s_fault : Int32) (s_bytes : Nat → Int32) (s_code : Nat → Int32) (p1 : Int32) (r : Int32) (o_at : Int32) (o_used : Int32) (o_fault : Int32) (o_code : Nat → Int32), (fun n_this_bytes s_length s_at s_used s_fault s_bytes s_code p1 => f_grp d 2 n_this_bytes s_length s_at s_used s_fault s_bytes s_code p1 0) n_this_bytes s_length s_at s_used s_fault s_bytes s_code p1 = some (r, o_at, o_used, o_fault, o_code) → kMi l yX6_pieceStands cX6_pieceStands 4 (some .boolean) (rg d) [.ref a0, .int p1] E [(a0, .inr (6, [.ref a2, w0_1, w0_2, .ref a1, .int s_length, .int s_at, .int s_used, .int s_fault])), (a1, .inl (E.2 0, n_this_bytes, .inl s_bytes)), (a2, .inl (E.2 0, 120, .inl s_code))] sz 0 0 (fun x (_ : Unit) => x = r) (fun _ => [(a0, .inr (6, [.ref a2, w0_1, w0_2, .ref a1, .int s_length, .int o_at, .int o_used, .int o_fault])), (a1, .inl (E.2 0, n_this_bytes, .inl s_bytes)), (a2, .inl (E.2 0, 120, .inl o_code))])) ∧ (∀ (sz : Nat) (a0 a1 a2 : Nat) (w0_1 w0_2 : Value) (n_this_bytes : Nat) (s_length : Int32) (s_at : Int32) (s_used : Int32) (s_fault : Int32) (s_bytes : Nat → Int32) (s_code : Nat → Int32) (p1 : Int32) (r : Int32) (o_at : Int32) (o_used : Int32) (o_fault : Int32) (o_code : Nat → Int32), (fun n_this_bytes s_length s_at s_used s_fault s_bytes s_code p1 => f_grp d 3 n_this_bytes s_length s_at s_used s_fault s_bytes s_code p1 0) n_this_bytes s_length s_at s_used s_fault s_bytes s_code p1 = some (r, o_at, o_used, o_fault, o_code) → kMi l yX6_factorStands cX6_factorStands 3 (some .boolean) (rg d) [.ref a0, .int p1] E [(a0, .inr (6, [.ref a2, w0_1, w0_2, .ref a1, .int s_length, .int s_at, .int s_used, .int s_fault])), (a1, .inl (E.2 0, n_this_bytes, .inl s_bytes)), (a2, .inl (E.2 0, 120, .inl s_code))] sz 0 0 (fun x (_ : Unit) => x = r) (fun _ => [(a0, .inr (6, [.ref a2, w0_1, w0_2, .ref a1, .int s_length, .int o_at, .int o_used, .int o_fault])), (a1, .inl (E.2 0, n_this_bytes, .inl s_bytes)), (a2, .inl (E.2 0, 120, .inl o_code))])) := by
  intro d
  induction d with
  | zero =>
    refine ⟨?_, ?_, ?_, ?_⟩
    · intro sz _ _ _ _ _ _ _ _ _ _ _ _ _ _ _ _ _ _ _ h
      exact absurd h (by show ¬ f_grp 0 _ _ _ _ _ _ _ _ _ _  = _; rw [f_grp]; exact nofun)
    · intro sz _ _ _ _ _ _ _ _ _ _ _ _ _ _ _ _ _ _ _ h
      exact absurd h (by show ¬ f_grp 0 _ _ _ _ _ _ _ _ _ _  = _; rw [f_grp]; exact nofun)
    · intro sz _ _ _ _ _ _ _ _ _ _ _ _ _ _ _ _ _ _ h
      exact absurd h (by show ¬ f_grp 0 _ _ _ _ _ _ _ _ _ _  = _; rw [f_grp]; exact nofun)
    · intro sz _ _ _ _ _ _ _ _ _ _ _ _ _ _ _ _ _ _ h
      exact absurd h (by show ¬ f_grp 0 _ _ _ _ _ _ _ _ _ _  = _; rw [f_grp]; exact nofun)
  | succ d ih =>
    refine ⟨?_, ?_, ?_, ?_⟩
    · intro sz a0 a1 a2 w0_1 w0_2 n_this_bytes s_length s_at s_used s_fault s_bytes s_code p1 p2 r o_at o_used o_fault o_code h
      exact o_X6_rowStands l E d (fun n_this_bytes s_length s_at s_used s_fault s_bytes s_code p1 p2 => f_grp d 0 n_this_bytes s_length s_at s_used s_fault s_bytes s_code p1 p2) (fun n_this_bytes s_length s_at s_used s_fault s_bytes s_code p1 p2 => f_grp d 1 n_this_bytes s_length s_at s_used s_fault s_bytes s_code p1 p2) (fun n_this_bytes s_length s_at s_used s_fault s_bytes s_code p1 => f_grp d 2 n_this_bytes s_length s_at s_used s_fault s_bytes s_code p1 0) (fun n_this_bytes s_length s_at s_used s_fault s_bytes s_code p1 => f_grp d 3 n_this_bytes s_length s_at s_used s_fault s_bytes s_code p1 0) ih.1 ih.2.1 ih.2.2.1 ih.2.2.2 sz a0 a1 a2 w0_1 w0_2 n_this_bytes s_length s_at s_used s_fault s_bytes s_code p1 p2 r o_at o_used o_fault o_code ((f_grp_0 d n_this_bytes s_length s_at s_used s_fault s_bytes s_code p1 p2).symm.trans h)
    · intro sz a0 a1 a2 w0_1 w0_2 n_this_bytes s_length s_at s_used s_fault s_bytes s_code p1 p2 r o_at o_used o_fault o_code h
      exact o_X6_operandStands l E d (fun n_this_bytes s_length s_at s_used s_fault s_bytes s_code p1 p2 => f_grp d 0 n_this_bytes s_length s_at s_used s_fault s_bytes s_code p1 p2) (fun n_this_bytes s_length s_at s_used s_fault s_bytes s_code p1 p2 => f_grp d 1 n_this_bytes s_length s_at s_used s_fault s_bytes s_code p1 p2) (fun n_this_bytes s_length s_at s_used s_fault s_bytes s_code p1 => f_grp d 2 n_this_bytes s_length s_at s_used s_fault s_bytes s_code p1 0) (fun n_this_bytes s_length s_at s_used s_fault s_bytes s_code p1 => f_grp d 3 n_this_bytes s_length s_at s_used s_fault s_bytes s_code p1 0) ih.1 ih.2.1 ih.2.2.1 ih.2.2.2 sz a0 a1 a2 w0_1 w0_2 n_this_bytes s_length s_at s_used s_fault s_bytes s_code p1 p2 r o_at o_used o_fault o_code ((f_grp_1 d n_this_bytes s_length s_at s_used s_fault s_bytes s_code p1 p2).symm.trans h)
    · intro sz a0 a1 a2 w0_1 w0_2 n_this_bytes s_length s_at s_used s_fault s_bytes s_code p1 r o_at o_used o_fault o_code h
      exact o_X6_pieceStands l E d (fun n_this_bytes s_length s_at s_used s_fault s_bytes s_code p1 p2 => f_grp d 0 n_this_bytes s_length s_at s_used s_fault s_bytes s_code p1 p2) (fun n_this_bytes s_length s_at s_used s_fault s_bytes s_code p1 p2 => f_grp d 1 n_this_bytes s_length s_at s_used s_fault s_bytes s_code p1 p2) (fun n_this_bytes s_length s_at s_used s_fault s_bytes s_code p1 => f_grp d 2 n_this_bytes s_length s_at s_used s_fault s_bytes s_code p1 0) (fun n_this_bytes s_length s_at s_used s_fault s_bytes s_code p1 => f_grp d 3 n_this_bytes s_length s_at s_used s_fault s_bytes s_code p1 0) ih.1 ih.2.1 ih.2.2.1 ih.2.2.2 sz a0 a1 a2 w0_1 w0_2 n_this_bytes s_length s_at s_used s_fault s_bytes s_code p1 r o_at o_used o_fault o_code ((f_grp_2 d n_this_bytes s_length s_at s_used s_fault s_bytes s_code p1).symm.trans h)
    · intro sz a0 a1 a2 w0_1 w0_2 n_this_bytes s_length s_at s_used s_fault s_bytes s_code p1 r o_at o_used o_fault o_code h
      exact o_X6_factorStands l E d (fun n_this_bytes s_length s_at s_used s_fault s_bytes s_code p1 p2 => f_grp d 0 n_this_bytes s_length s_at s_used s_fault s_bytes s_code p1 p2) (fun n_this_bytes s_length s_at s_used s_fault s_bytes s_code p1 p2 => f_grp d 1 n_this_bytes s_length s_at s_used s_fault s_bytes s_code p1 p2) (fun n_this_bytes s_length s_at s_used s_fault s_bytes s_code p1 => f_grp d 2 n_this_bytes s_length s_at s_used s_fault s_bytes s_code p1 0) (fun n_this_bytes s_length s_at s_used s_fault s_bytes s_code p1 => f_grp d 3 n_this_bytes s_length s_at s_used s_fault s_bytes s_code p1 0) ih.1 ih.2.1 ih.2.2.1 ih.2.2.2 sz a0 a1 a2 w0_1 w0_2 n_this_bytes s_length s_at s_used s_fault s_bytes s_code p1 r o_at o_used o_fault o_code ((f_grp_3 d n_this_bytes s_length s_at s_used s_fault s_bytes s_code p1).symm.trans h)
noncomputable def f_X6_rowStands (n_this_bytes : Nat) (s_length : Int32) (s_at : Int32) (s_used : Int32) (s_fault : Int32) (s_bytes : Nat → Int32) (s_code : Nat → Int32) (p1 : Int32) (p2 : Int32) : Option (Int32 × Int32 × Int32 × Int32 × (Nat → Int32)) := f_grp 100 0 n_this_bytes s_length s_at s_used s_fault s_bytes s_code p1 p2
abbrev r_X6_rowStands : Room := rg 100
theorem c_X6_rowStands (l : Launch) (E : kE) (sz : Nat) (a0 a1 a2 : Nat) (w0_1 w0_2 : Value) (n_this_bytes : Nat) (s_length : Int32) (s_at : Int32) (s_used : Int32) (s_fault : Int32) (s_bytes : Nat → Int32) (s_code : Nat → Int32) (p1 : Int32) (p2 : Int32) (r : Int32) (o_at : Int32) (o_used : Int32) (o_fault : Int32) (o_code : Nat → Int32) (h : f_X6_rowStands n_this_bytes s_length s_at s_used s_fault s_bytes s_code p1 p2 = some (r, o_at, o_used, o_fault, o_code)) : kMi l yX6_rowStands cX6_rowStands 7 (some .boolean) r_X6_rowStands [.ref a0, .int p1, .int p2] E [(a0, .inr (6, [.ref a2, w0_1, w0_2, .ref a1, .int s_length, .int s_at, .int s_used, .int s_fault])), (a1, .inl (E.2 0, n_this_bytes, .inl s_bytes)), (a2, .inl (E.2 0, 120, .inl s_code))] sz 0 0 (fun x (_ : Unit) => x = r) (fun _ => [(a0, .inr (6, [.ref a2, w0_1, w0_2, .ref a1, .int s_length, .int o_at, .int o_used, .int o_fault])), (a1, .inl (E.2 0, n_this_bytes, .inl s_bytes)), (a2, .inl (E.2 0, 120, .inl o_code))]) := (c_grp l E 100).1 sz a0 a1 a2 w0_1 w0_2 n_this_bytes s_length s_at s_used s_fault s_bytes s_code p1 p2 r o_at o_used o_fault o_code h
noncomputable def f_X6_operandStands (n_this_bytes : Nat) (s_length : Int32) (s_at : Int32) (s_used : Int32) (s_fault : Int32) (s_bytes : Nat → Int32) (s_code : Nat → Int32) (p1 : Int32) (p2 : Int32) : Option (Int32 × Int32 × Int32 × Int32 × (Nat → Int32)) := f_grp 100 1 n_this_bytes s_length s_at s_used s_fault s_bytes s_code p1 p2
abbrev r_X6_operandStands : Room := rg 100
theorem c_X6_operandStands (l : Launch) (E : kE) (sz : Nat) (a0 a1 a2 : Nat) (w0_1 w0_2 : Value) (n_this_bytes : Nat) (s_length : Int32) (s_at : Int32) (s_used : Int32) (s_fault : Int32) (s_bytes : Nat → Int32) (s_code : Nat → Int32) (p1 : Int32) (p2 : Int32) (r : Int32) (o_at : Int32) (o_used : Int32) (o_fault : Int32) (o_code : Nat → Int32) (h : f_X6_operandStands n_this_bytes s_length s_at s_used s_fault s_bytes s_code p1 p2 = some (r, o_at, o_used, o_fault, o_code)) : kMi l yX6_operandStands cX6_operandStands 3 (some .boolean) r_X6_operandStands [.ref a0, .int p1, .int p2] E [(a0, .inr (6, [.ref a2, w0_1, w0_2, .ref a1, .int s_length, .int s_at, .int s_used, .int s_fault])), (a1, .inl (E.2 0, n_this_bytes, .inl s_bytes)), (a2, .inl (E.2 0, 120, .inl s_code))] sz 0 0 (fun x (_ : Unit) => x = r) (fun _ => [(a0, .inr (6, [.ref a2, w0_1, w0_2, .ref a1, .int s_length, .int o_at, .int o_used, .int o_fault])), (a1, .inl (E.2 0, n_this_bytes, .inl s_bytes)), (a2, .inl (E.2 0, 120, .inl o_code))]) := (c_grp l E 100).2.1 sz a0 a1 a2 w0_1 w0_2 n_this_bytes s_length s_at s_used s_fault s_bytes s_code p1 p2 r o_at o_used o_fault o_code h
noncomputable def f_X6_pieceStands (n_this_bytes : Nat) (s_length : Int32) (s_at : Int32) (s_used : Int32) (s_fault : Int32) (s_bytes : Nat → Int32) (s_code : Nat → Int32) (p1 : Int32) : Option (Int32 × Int32 × Int32 × Int32 × (Nat → Int32)) := f_grp 100 2 n_this_bytes s_length s_at s_used s_fault s_bytes s_code p1 0
abbrev r_X6_pieceStands : Room := rg 100
theorem c_X6_pieceStands (l : Launch) (E : kE) (sz : Nat) (a0 a1 a2 : Nat) (w0_1 w0_2 : Value) (n_this_bytes : Nat) (s_length : Int32) (s_at : Int32) (s_used : Int32) (s_fault : Int32) (s_bytes : Nat → Int32) (s_code : Nat → Int32) (p1 : Int32) (r : Int32) (o_at : Int32) (o_used : Int32) (o_fault : Int32) (o_code : Nat → Int32) (h : f_X6_pieceStands n_this_bytes s_length s_at s_used s_fault s_bytes s_code p1 = some (r, o_at, o_used, o_fault, o_code)) : kMi l yX6_pieceStands cX6_pieceStands 4 (some .boolean) r_X6_pieceStands [.ref a0, .int p1] E [(a0, .inr (6, [.ref a2, w0_1, w0_2, .ref a1, .int s_length, .int s_at, .int s_used, .int s_fault])), (a1, .inl (E.2 0, n_this_bytes, .inl s_bytes)), (a2, .inl (E.2 0, 120, .inl s_code))] sz 0 0 (fun x (_ : Unit) => x = r) (fun _ => [(a0, .inr (6, [.ref a2, w0_1, w0_2, .ref a1, .int s_length, .int o_at, .int o_used, .int o_fault])), (a1, .inl (E.2 0, n_this_bytes, .inl s_bytes)), (a2, .inl (E.2 0, 120, .inl o_code))]) := (c_grp l E 100).2.2.1 sz a0 a1 a2 w0_1 w0_2 n_this_bytes s_length s_at s_used s_fault s_bytes s_code p1 r o_at o_used o_fault o_code h
noncomputable def f_X6_factorStands (n_this_bytes : Nat) (s_length : Int32) (s_at : Int32) (s_used : Int32) (s_fault : Int32) (s_bytes : Nat → Int32) (s_code : Nat → Int32) (p1 : Int32) : Option (Int32 × Int32 × Int32 × Int32 × (Nat → Int32)) := f_grp 100 3 n_this_bytes s_length s_at s_used s_fault s_bytes s_code p1 0
abbrev r_X6_factorStands : Room := rg 100
theorem c_X6_factorStands (l : Launch) (E : kE) (sz : Nat) (a0 a1 a2 : Nat) (w0_1 w0_2 : Value) (n_this_bytes : Nat) (s_length : Int32) (s_at : Int32) (s_used : Int32) (s_fault : Int32) (s_bytes : Nat → Int32) (s_code : Nat → Int32) (p1 : Int32) (r : Int32) (o_at : Int32) (o_used : Int32) (o_fault : Int32) (o_code : Nat → Int32) (h : f_X6_factorStands n_this_bytes s_length s_at s_used s_fault s_bytes s_code p1 = some (r, o_at, o_used, o_fault, o_code)) : kMi l yX6_factorStands cX6_factorStands 3 (some .boolean) r_X6_factorStands [.ref a0, .int p1] E [(a0, .inr (6, [.ref a2, w0_1, w0_2, .ref a1, .int s_length, .int s_at, .int s_used, .int s_fault])), (a1, .inl (E.2 0, n_this_bytes, .inl s_bytes)), (a2, .inl (E.2 0, 120, .inl s_code))] sz 0 0 (fun x (_ : Unit) => x = r) (fun _ => [(a0, .inr (6, [.ref a2, w0_1, w0_2, .ref a1, .int s_length, .int o_at, .int o_used, .int o_fault])), (a1, .inl (E.2 0, n_this_bytes, .inl s_bytes)), (a2, .inl (E.2 0, 120, .inl o_code))]) := (c_grp l E 100).2.2.2 sz a0 a1 a2 w0_1 w0_2 n_this_bytes s_length s_at s_used s_fault s_bytes s_code p1 r o_at o_used o_fault o_code h

