
abbrev r_X8_init : Room := { frames := 1, cells := 0, slots := 0, locals := 22 }
set_option maxHeartbeats 4000000 in
set_option maxRecDepth 100000 in
theorem c_X8_init (l : Launch) (E : kE) (sz a0 : Nat) (p1 : Int32) (p2 : Int32) (p3 : Int32) (p4 : Int32) (p5 : Int32) (p6 : Int32) (hz : p2 = 0 ∨ p2 = 1) : kMv l yX8_init cX8_init 7 r_X8_init [.ref a0, .int p1, .int p2, .int p3, .int p4, .int p5, .int p6] E [(a0, .inr (8, [.int 0, .int 0, .int 0, .int 0, .int 0, .int 0, .null]))] sz 0 0 (fun (_ : Unit) => True) (fun _ => [(a0, .inr (8, [.int p1, .int p2, .int p3, .int p4, .int p5, .int p6, .null]))]) := by
  refine kmetv rfl (Nat.le_of_ble_eq_true rfl) ?_
  intro p e s m args below meth c ls A Q X hnm hV hret hl
  have X : kC p s m c cX8_init 7 RX8 args E A := X
  have hx := X.1
  have hb := X.2.1
  have hl : lv_has ls 7 [(0, .ref a0), (1, .int p1), (2, .int p2), (3, .int p3), (4, .int p4), (5, .int p5), (6, .int p6)] := hl
  refine lv_aload_n hx hb dX8_init_0 rfl (lv_at hl 0 rfl) ?_
  refine W.objInit hx hb X.2.2.2.1 (X.2.2.2.2.1 _ mw_200) (X.2.2.2.2.1 _ mw_10) (X.2.2.2.2.1 _ mw_11) rfl (by rw [X.2.2.1]; exact hl.1) rfl dX8_init_1 (by decide) (Nat.le_of_ble_eq_true rfl) ?_
  refine W.eq (g2 := F0 m 4 ls []) rfl ?_
  refine lv_aload_n hx hb dX8_init_4 rfl (lv_at hl 0 rfl) ?_
  refine lv_null hx hb dX8_init_5 ?_
  refine kput X hV (ci := 8) inlX8 rfl tyX8 tyX8_ok nmX8 0 rfl 6 (by decide) mw_201 rfl rfl rfl (Nat.le_of_ble_eq_true rfl) dX8_init_6 (fun H locs hV1 => ?_)
  have hV1 : kV E A s.heap H locs [(a0, .inr (8, [.int 0, .int 0, .int 0, .int 0, .int 0, .int 0, .null]))] := hV1
  clear hV
  refine lv_aload_n hx hb dX8_init_9 rfl (lv_at hl 0 rfl) ?_
  refine lv_iload_n hx hb dX8_init_10 rfl (lv_at hl 1 rfl) ?_
  refine kputF X hV1 (ci := 8) inlX8 rfl tyX8 tyX8_ok nmX8 0 rfl 0 (by decide) mw_202 rfl hnm rfl rfl rfl (Nat.le_of_ble_eq_true rfl) dX8_init_11 (fun H locs hV2 => ?_)
  have hV2 : kV E A s.heap H locs [(a0, .inr (8, [.int p1, .int 0, .int 0, .int 0, .int 0, .int 0, .null]))] := hV2
  clear hV1
  refine lv_aload_n hx hb dX8_init_14 rfl (lv_at hl 0 rfl) ?_
  refine lv_iload_n hx hb dX8_init_15 rfl (lv_at hl 2 rfl) ?_
  refine kputF X hV2 (ci := 8) inlX8 rfl tyX8 tyX8_ok nmX8 0 rfl 1 (by decide) mw_203 rfl hnm rfl (by rcases hz with h9 | h9 <;> rw [h9] <;> rfl) (by rcases hz with h9 | h9 <;> rw [h9] <;> rfl) (Nat.le_of_ble_eq_true rfl) dX8_init_16 (fun H locs hV3 => ?_)
  have hV3 : kV E A s.heap H locs [(a0, .inr (8, [.int p1, .int p2, .int 0, .int 0, .int 0, .int 0, .null]))] := hV3
  clear hV2
  refine lv_aload_n hx hb dX8_init_19 rfl (lv_at hl 0 rfl) ?_
  refine lv_iload_n hx hb dX8_init_20 rfl (lv_at hl 3 rfl) ?_
  refine kputF X hV3 (ci := 8) inlX8 rfl tyX8 tyX8_ok nmX8 0 rfl 2 (by decide) mw_204 rfl hnm rfl rfl rfl (Nat.le_of_ble_eq_true rfl) dX8_init_21 (fun H locs hV4 => ?_)
  have hV4 : kV E A s.heap H locs [(a0, .inr (8, [.int p1, .int p2, .int p3, .int 0, .int 0, .int 0, .null]))] := hV4
  clear hV3
  refine lv_aload_n hx hb dX8_init_24 rfl (lv_at hl 0 rfl) ?_
  refine lv_iload hx hb dX8_init_25 (lv_at hl 4 rfl) ?_
  refine kputF X hV4 (ci := 8) inlX8 rfl tyX8 tyX8_ok nmX8 0 rfl 3 (by decide) mw_205 rfl hnm rfl rfl rfl (Nat.le_of_ble_eq_true rfl) dX8_init_27 (fun H locs hV5 => ?_)
  have hV5 : kV E A s.heap H locs [(a0, .inr (8, [.int p1, .int p2, .int p3, .int p4, .int 0, .int 0, .null]))] := hV5
  clear hV4
  refine lv_aload_n hx hb dX8_init_30 rfl (lv_at hl 0 rfl) ?_
  refine lv_iload hx hb dX8_init_31 (lv_at hl 5 rfl) ?_
  refine kputF X hV5 (ci := 8) inlX8 rfl tyX8 tyX8_ok nmX8 0 rfl 4 (by decide) mw_206 rfl hnm rfl rfl rfl (Nat.le_of_ble_eq_true rfl) dX8_init_33 (fun H locs hV6 => ?_)
  have hV6 : kV E A s.heap H locs [(a0, .inr (8, [.int p1, .int p2, .int p3, .int p4, .int p5, .int 0, .null]))] := hV6
  clear hV5
  refine lv_aload_n hx hb dX8_init_36 rfl (lv_at hl 0 rfl) ?_
  refine lv_iload hx hb dX8_init_37 (lv_at hl 6 rfl) ?_
  refine kputF X hV6 (ci := 8) inlX8 rfl tyX8 tyX8_ok nmX8 0 rfl 5 (by decide) mw_207 rfl hnm rfl rfl rfl (Nat.le_of_ble_eq_true rfl) dX8_init_39 (fun H locs hV7 => ?_)
  have hV7 : kV E A s.heap H locs [(a0, .inr (8, [.int p1, .int p2, .int p3, .int p4, .int p5, .int p6, .null]))] := hV7
  clear hV6
  exact hret () _ _ _ _ trivial hV7 dX8_init_42
noncomputable def f_X7_add (s_many : Int32) : Option (Int32 × Int32) :=
    if s_many < 10 then
    (gdN 10 s_many <|
      nmI (s_many + 1) fun v28_7 =>
      some ((v28_7 - 1), v28_7))
    else
    (none)
abbrev r_X7_add : Room := { frames := 0, cells := 0, slots := 0, locals := 0 }
set_option maxHeartbeats 4000000 in
set_option maxRecDepth 100000 in
theorem c_X7_add (l : Launch) (E : kE) (sz : Nat) (a0 a1 a2 : Nat) (w0_1 w0_3 w1_0 w1_1 w1_2 w1_3 w1_4 w1_5 w1_6 : Value) (s_many : Int32) (s_sources : Nat → Option Nat) (r : Int32) (o_many : Int32) (h : f_X7_add s_many = some (r, o_many)) : kMi l yX7_add cX7_add 2 (some .int) r_X7_add [.ref a0, .ref a1] E [(a0, .inr (7, [.ref a2, w0_1, .int s_many, w0_3])), (a1, .inr (8, [w1_0, w1_1, w1_2, w1_3, w1_4, w1_5, w1_6])), (a2, .inl (E.2 3, 10, .inr (.inr (.inr (.inr s_sources)))))] sz 0 0 (fun x (u : Nat → Option Nat) => x = r ∧ u = va_up s_sources (Int32.toNatClampNeg s_many) (some a1)) (fun u => [(a0, .inr (7, [.ref a2, w0_1, .int o_many, w0_3])), (a1, .inr (8, [w1_0, w1_1, w1_2, w1_3, w1_4, w1_5, w1_6])), (a2, .inl (E.2 3, 10, .inr (.inr (.inr (.inr u)))))]) := by
  refine kmeti rfl (Nat.le_of_ble_eq_true rfl) ?_
  intro p e s m args below meth c ls A Q X hV hret hl
  have X : kC p s m c cX7_add 2 RX7 args E A := X
  have hx := X.1
  have hb := X.2.1
  have hl : lv_has ls 2 [(0, .ref a0), (1, .ref a1)] := hl
  rw [f_X7_add] at h
  refine lv_aload_n hx hb dX7_add_0 rfl (lv_at hl 0 rfl) ?_
  refine kget X hV (ci := 7) inlX7 rfl 0 rfl 2 (by decide) mw_75 rfl dX7_add_1 ?_
  refine lv_bipush (v := 10) hx hb dX7_add_4 (by decide) ?_
  refine lv_icmp_lt (tgt := 11) hx hb dX7_add_6 (by decide) (fun c1 => ?_) (fun c1 => ?_)
  · have h2 := itS c1 h
    clear h c1
    refine lv_aload_n hx hb dX7_add_11 rfl (lv_at hl 0 rfl) ?_
    refine kget X hV (ci := 7) inlX7 rfl 0 rfl 0 (by decide) mw_70 rfl dX7_add_12 ?_
    refine lv_aload_n hx hb dX7_add_15 rfl (lv_at hl 0 rfl) ?_
    refine kget X hV (ci := 7) inlX7 rfl 0 rfl 2 (by decide) mw_75 rfl dX7_add_16 ?_
    refine lv_aload_n hx hb dX7_add_19 rfl (lv_at hl 1 rfl) ?_
    obtain ⟨hi4, h5⟩ := gdN_s h2
    clear h2
    refine kaast X hV 2 3 1 8 rfl rfl rfl rfl hi4 rfl dX7_add_20 (fun H locs hV6 => ?_)
    have hV6 : kV E A s.heap H locs [(a0, .inr (7, [.ref a2, w0_1, .int s_many, w0_3])), (a1, .inr (8, [w1_0, w1_1, w1_2, w1_3, w1_4, w1_5, w1_6])), (a2, .inl (E.2 3, 10, .inr (.inr (.inr (.inr ((va_up s_sources (Int32.toNatClampNeg s_many) (some a1))))))))] := hV6
    clear hV hi4
    refine lv_aload_n hx hb dX7_add_21 rfl (lv_at hl 0 rfl) ?_
    refine lv_dup hx hb dX7_add_22 rfl ?_
    refine kget X hV6 (ci := 7) inlX7 rfl 0 rfl 2 (by decide) mw_75 rfl dX7_add_23 ?_
    refine lv_iconst (v := 1) hx hb dX7_add_26 (by decide) ?_
    refine lv_iadd hx hb dX7_add_27 ?_
    obtain ⟨v28_7, e8, h9⟩ := nmI_s h5
    clear h5
    refine ktopi e8 ?_
    clear e8
    refine kput X hV6 (ci := 7) inlX7 rfl tyX7 tyX7_ok nmX7 0 rfl 2 (by decide) mw_75 rfl rfl rfl (Nat.le_of_ble_eq_true rfl) dX7_add_28 (fun H locs hV10 => ?_)
    have hV10 : kV E A s.heap H locs [(a0, .inr (7, [.ref a2, w0_1, .int v28_7, w0_3])), (a1, .inr (8, [w1_0, w1_1, w1_2, w1_3, w1_4, w1_5, w1_6])), (a2, .inl (E.2 3, 10, .inr (.inr (.inr (.inr ((va_up s_sources (Int32.toNatClampNeg s_many) (some a1))))))))] := hV10
    clear hV6
    refine lv_aload_n hx hb dX7_add_31 rfl (lv_at hl 0 rfl) ?_
    refine kget X hV10 (ci := 7) inlX7 rfl 0 rfl 2 (by decide) mw_75 rfl dX7_add_32 ?_
    refine lv_iconst (v := 1) hx hb dX7_add_35 (by decide) ?_
    refine lv_isub hx hb dX7_add_36 ?_
    obtain ⟨q11, q12⟩ := tup2_s h9
    clear h9
    exact hret _ (va_up s_sources (Int32.toNatClampNeg s_many) (some a1)) _ _ _ _ ⟨q11, rfl⟩ rfl (by rw [← q12]; exact hV10) dX7_add_37
  · have h3 := ieS c1 h
    clear h c1
    exact nomatch h3
noncomputable def f_X11_source_J41 (s_page_day : Int32) (s_sky_many : Int32) (p1 : Int32) (p2 : Int32) (p3 : Int32) (p4 : Int32) (p5 : Int32) (G : kG)  (t0_11 : Int32) : Option (Int32 × Int32 × Int32 × Option (Nat × Int32 × Int32 × Int32 × Int32 × Int32 × Int32)) :=
    if t0_11 = 0 then
    (some ((-1), s_page_day, s_sky_many, none))
    else
    (if s_sky_many < 10 then
      (cb1 (f_X4_forget s_page_day) fun o_day66_23 =>
        bo p1 <|
        cb2 (f_X7_add s_sky_many) fun r94_40 o_many94_41 =>
        ckS G (Int32.toNatClampNeg s_sky_many) <|
        some (r94_40, o_day66_23, o_many94_41, (some ((Int32.toNatClampNeg s_sky_many), (s_sky_many, p1, p2, p3, p4, p5)))))
      else
      (some ((-1), s_page_day, s_sky_many, none)))
noncomputable def f_X11_source (G : kG) (s_page_day : Int32) (s_sky_many : Int32) (p1 : Int32) (p2 : Int32) (p3 : Int32) (p4 : Int32) (p5 : Int32) : Option (Int32 × Int32 × Int32 × Option (Nat × Int32 × Int32 × Int32 × Int32 × Int32 × Int32)) :=
    cb1 (f_X11_isMinute p2) fun r1_1 =>
    if r1_1 = 0 then
    ((f_X11_source_J41 s_page_day s_sky_many p1 p2 p3 p4 p5 G ) 0)
    else
    (cb1 (f_X11_isWithin p3 0 30) fun r11_68 =>
      if r11_68 = 0 then
      ((f_X11_source_J41 s_page_day s_sky_many p1 p2 p3 p4 p5 G ) 0)
      else
      (cb1 (f_X11_isShape p4) fun r19_81 =>
        if r19_81 = 0 then
        ((f_X11_source_J41 s_page_day s_sky_many p1 p2 p3 p4 p5 G ) 0)
        else
        (cb1 (f_X11_isWithin p5 0 127) fun r30_94 =>
          if r30_94 = 0 then
          ((f_X11_source_J41 s_page_day s_sky_many p1 p2 p3 p4 p5 G ) 0)
          else
          ((f_X11_source_J41 s_page_day s_sky_many p1 p2 p3 p4 p5 G ) 1))))
abbrev r_X11_source : Room := { frames := 2, cells := 1, slots := 7, locals := 48 }
set_option maxHeartbeats 4000000 in
set_option maxRecDepth 100000 in
theorem c_X11_source (l : Launch) (E : kE) (sz : Nat) (a0 a1 a2 a3 : Nat) (w0_0 w0_1 w0_4 w0_5 w0_6 w0_7 w0_8 w1_0 w1_1 w1_2 w1_3 w1_4 w1_5 w2_1 w2_3 : Value) (G : kG) (s_page_day : Int32) (s_sky_many : Int32) (p1 : Int32) (p2 : Int32) (p3 : Int32) (p4 : Int32) (p5 : Int32) (r : Int32) (o_page_day : Int32) (o_sky_many : Int32) (nt : Option (Nat × Int32 × Int32 × Int32 × Int32 × Int32 × Int32)) (h : f_X11_source G s_page_day s_sky_many p1 p2 p3 p4 p5 = some (r, o_page_day, o_sky_many, nt)) : kMi l yX11_source cX11_source 7 (some .int) r_X11_source [.ref a0, .int p1, .int p2, .int p3, .int p4, .int p5] E (([(a0, .inr (11, [w0_0, w0_1, .ref a2, .ref a1, w0_4, w0_5, w0_6, w0_7, w0_8])), (a1, .inr (4, [w1_0, w1_1, w1_2, w1_3, w1_4, w1_5, .int s_page_day])), (a2, .inr (7, [.ref a3, w2_1, .int s_sky_many, w2_3])), (a3, .inl (E.2 3, 10, .inr (.inr (.inr (.inr ((kgA G)))))))] : va_W) ++ kpool E G) sz 1 7 (fun x (u : kG × Value) => x = r ∧ kGS G nt u.1) (fun u => (([(a0, .inr (11, [w0_0, w0_1, .ref a2, .ref a1, w0_4, w0_5, w0_6, w0_7, w0_8])), (a1, .inr (4, [w1_0, w1_1, w1_2, w1_3, w1_4, w1_5, .int o_page_day])), (a2, .inr (7, [.ref a3, w2_1, .int o_sky_many, w2_3])), (a3, .inl (E.2 3, 10, .inr (.inr (.inr (.inr ((kgA u.1)))))))] : va_W) ++ kpool E u.1)) := by
  refine kmeti rfl (Nat.le_of_ble_eq_true rfl) ?_
  intro p e s m args below meth c ls A Q X hV hret hl
  have X : kC p s m c cX11_source 7 RX11 args E A := X
  have hx := X.1
  have hb := X.2.1
  have hl : lv_has ls 7 [(0, .ref a0), (1, .int p1), (2, .int p2), (3, .int p3), (4, .int p4), (5, .int p5)] := hl
  rw [f_X11_source] at h
  refine lv_iload_n hx hb dX11_source_0 rfl (lv_at hl 2 rfl) ?_
  obtain ⟨r1_1, hc2, h3⟩ := cb1_s h
  clear h
  have hY4 : kV E A s.heap _ _ (([] ++ ([(a0, .inr (11, [w0_0, w0_1, .ref a2, .ref a1, w0_4, w0_5, w0_6, w0_7, w0_8])), (a1, .inr (4, [w1_0, w1_1, w1_2, w1_3, w1_4, w1_5, .int s_page_day])), (a2, .inr (7, [.ref a3, w2_1, .int s_sky_many, w2_3])), (a3, .inl (E.2 3, 10, .inr (.inr (.inr (.inr ((kgA G)))))))] : va_W)) ++ kpool E G) := hV.subP [0, 1, 2, 3] rfl rfl
  have hY5 := hY4.swapT
  clear hY4
  refine kgoiT (krunS (rest := []) X hY5 (List.range _) (c_X11_isMinute l E _ p2 r1_1 hc2) mw_184 kb_X11_isMinute (kndR _) (krg _ _) rfl hl.1 rfl (Nat.le_of_ble_eq_true rfl) dX11_source_1 (by decide)) X hY5 (fun u9 H locs hV6 => ?_)
  clear hY5 hV
  have hV10 : kV E A s.heap H locs (([(a0, .inr (11, [w0_0, w0_1, .ref a2, .ref a1, w0_4, w0_5, w0_6, w0_7, w0_8])), (a1, .inr (4, [w1_0, w1_1, w1_2, w1_3, w1_4, w1_5, .int s_page_day])), (a2, .inr (7, [.ref a3, w2_1, .int s_sky_many, w2_3])), (a3, .inl (E.2 3, 10, .inr (.inr (.inr (.inr ((kgA G)))))))] : va_W) ++ kpool E G) := hV6.subP [0, 1, 2, 3] rfl rfl
  clear hV6
  have J41 : ∀ (t0_11 : Int32) (H : Heap) (locs : List Loc) (ls : Array Slot), (f_X11_source_J41 s_page_day s_sky_many p1 p2 p3 p4 p5 G ) t0_11 = some (r, o_page_day, o_sky_many, nt) → kV E A s.heap H locs (([(a0, .inr (11, [w0_0, w0_1, .ref a2, .ref a1, w0_4, w0_5, w0_6, w0_7, w0_8])), (a1, .inr (4, [w1_0, w1_1, w1_2, w1_3, w1_4, w1_5, .int s_page_day])), (a2, .inr (7, [.ref a3, w2_1, .int s_sky_many, w2_3])), (a3, .inl (E.2 3, 10, .inr (.inr (.inr (.inr ((kgA G)))))))] : va_W) ++ kpool E G) → lv_has ls 7 [(0, .ref a0), (1, .int p1), (2, .int p2), (3, .int p3), (4, .int p4), (5, .int p5)] → W p l e r_X11_source s m args below meth c H locs 0 0 Q (F0 m 41 ls [.int t0_11]) := by
    intro t0_11 H locs ls hB41 hVB41 hlB41
    rw [f_X11_source_J41] at hB41
    refine lv_istore (lv' := [(6, .int t0_11), (0, .ref a0), (1, .int p1), (2, .int p2), (3, .int p3), (4, .int p4), (5, .int p5)]) hx hb dX11_source_41 hlB41 (by decide) rfl (fun ls hl12 => ?_)
    clear hlB41
    refine lv_iload hx hb dX11_source_43 (lv_at hl12 0 rfl) ?_
    refine lv_if_eq (tgt := 60) hx hb dX11_source_45 (by decide) (fun c13 => ?_) (fun c13 => ?_)
    · have h14 := itS c13 hB41
      clear hB41 c13
      refine lv_iconst (v := (-1)) hx hb dX11_source_60 (by decide) ?_
      obtain ⟨q16, q17, q18, q19⟩ := tup4_s h14
      clear h14
      refine W.widen (k := 1) (n := 7) (by decide) (by decide) ?_
      exact hret _ (G, .null) _ _ _ _ ⟨q16, (by rw [← q19]; exact rfl)⟩ rfl (by rw [← q17, ← q18]; exact hVB41) dX11_source_61
    · have h15 := ieS c13 hB41
      clear hB41 c13
      refine lv_aload_n hx hb dX11_source_48 rfl (lv_at hl12 1 rfl) ?_
      refine kget X hVB41 (ci := 11) inlX11 rfl 0 rfl 2 (by decide) mw_23 rfl dX11_source_49 ?_
      refine kget X hVB41 (ci := 7) inlX7 rfl 2 rfl 2 (by decide) mw_180 rfl dX11_source_52 ?_
      refine lv_bipush (v := 10) hx hb dX11_source_55 (by decide) ?_
      refine lv_icmp_lt (tgt := 62) hx hb dX11_source_57 (by decide) (fun c20 => ?_) (fun c20 => ?_)
      · have h21 := itS c20 h15
        clear h15 c20
        refine lv_aload_n hx hb dX11_source_62 rfl (lv_at hl12 1 rfl) ?_
        refine kget X hVB41 (ci := 11) inlX11 rfl 0 rfl 3 (by decide) mw_27 rfl dX11_source_63 ?_
        obtain ⟨o_day66_23, hc24, h25⟩ := cb1_s h21
        clear h21
        have hY26 : kV E A s.heap _ _ ((([(a1, .inr (4, [w1_0, w1_1, w1_2, w1_3, w1_4, w1_5, .int s_page_day]))] : va_W) ++ ([(a0, .inr (11, [w0_0, w0_1, .ref a2, .ref a1, w0_4, w0_5, w0_6, w0_7, w0_8])), (a2, .inr (7, [.ref a3, w2_1, .int s_sky_many, w2_3])), (a3, .inl (E.2 3, 10, .inr (.inr (.inr (.inr ((kgA G)))))))] : va_W)) ++ kpool E G) := hVB41.subP [1, 0, 2, 3] rfl rfl
        have hY27 := hY26.swapT
        clear hY26
        refine kgovT (krunV (rest := []) X hY27 (List.range _) (c_X4_forget l E _ a1 (w1_0) (w1_1) (w1_2) (w1_3) (w1_4) (w1_5) s_page_day o_day66_23 hc24) mw_193 kb_X4_forget (ci := 4) rfl rfl (kndR _) (krg _ _) rfl hl12.1 rfl (Nat.le_of_ble_eq_true rfl) dX11_source_66 (by decide)) X hY27 (fun u31 H locs hV28 => ?_)
        clear hY27 hVB41
        have hV32 : kV E A s.heap H locs (([(a0, .inr (11, [w0_0, w0_1, .ref a2, .ref a1, w0_4, w0_5, w0_6, w0_7, w0_8])), (a1, .inr (4, [w1_0, w1_1, w1_2, w1_3, w1_4, w1_5, .int o_day66_23])), (a2, .inr (7, [.ref a3, w2_1, .int s_sky_many, w2_3])), (a3, .inl (E.2 3, 10, .inr (.inr (.inr (.inr ((kgA G)))))))] : va_W) ++ kpool E G) := hV28.subP [0, 3, 1, 2] rfl rfl
        clear hV28
        refine lv_aload_n hx hb dX11_source_69 rfl (lv_at hl12 1 rfl) ?_
        refine kget X hV32 (ci := 11) inlX11 rfl 0 rfl 2 (by decide) mw_23 rfl dX11_source_70 ?_
        refine knew X hV32 (ci := 8) (fs := [.int 0, .int 0, .int 0, .int 0, .int 0, .int 0, .null]) inlX8 rfl tyX8 tyX8_ok mw_181 mw_182 mw_183 (fun j hj => by rcases (show j = 0 ∨ j = 1 ∨ j = 2 ∨ j = 3 ∨ j = 4 ∨ j = 5 ∨ j = 6 by omega) with rfl | rfl | rfl | rfl | rfl | rfl | rfl <;> rfl) (by decide) (by decide) dX11_source_73 (fun q73 H hV33 => ?_)
        have hV33 : kV E A s.heap H _ (([(a0, .inr (11, [w0_0, w0_1, .ref a2, .ref a1, w0_4, w0_5, w0_6, w0_7, w0_8])), (a1, .inr (4, [w1_0, w1_1, w1_2, w1_3, w1_4, w1_5, .int o_day66_23])), (a2, .inr (7, [.ref a3, w2_1, .int s_sky_many, w2_3])), (a3, .inl (E.2 3, 10, .inr (.inr (.inr (.inr ((kgA G))))))), (q73, .inr (8, [.int 0, .int 0, .int 0, .int 0, .int 0, .int 0, .null]))] : va_W) ++ kpool E G) := kV.swap (X := [(a0, .inr (11, [w0_0, w0_1, .ref a2, .ref a1, w0_4, w0_5, w0_6, w0_7, w0_8])), (a1, .inr (4, [w1_0, w1_1, w1_2, w1_3, w1_4, w1_5, .int o_day66_23])), (a2, .inr (7, [.ref a3, w2_1, .int s_sky_many, w2_3])), (a3, .inl (E.2 3, 10, .inr (.inr (.inr (.inr ((kgA G)))))))]) (Y := kpool E G) (P := [(q73, .inr (8, [.int 0, .int 0, .int 0, .int 0, .int 0, .int 0, .null]))]) hV33
        clear hV32
        refine W.widen (k := 1) (n := 7) (by decide) (by decide) ?_
        refine lv_dup hx hb dX11_source_76 rfl ?_
        refine lv_aload_n hx hb dX11_source_77 rfl (lv_at hl12 1 rfl) ?_
        refine kget X hV33 (ci := 11) inlX11 rfl 0 rfl 2 (by decide) mw_23 rfl dX11_source_78 ?_
        refine kget X hV33 (ci := 7) inlX7 rfl 2 rfl 2 (by decide) mw_180 rfl dX11_source_81 ?_
        refine lv_iload_n hx hb dX11_source_84 rfl (lv_at hl12 2 rfl) ?_
        refine lv_iload_n hx hb dX11_source_85 rfl (lv_at hl12 3 rfl) ?_
        refine lv_iload_n hx hb dX11_source_86 rfl (lv_at hl12 4 rfl) ?_
        refine lv_iload hx hb dX11_source_87 (lv_at hl12 5 rfl) ?_
        refine lv_iload hx hb dX11_source_89 (lv_at hl12 6 rfl) ?_
        obtain ⟨hb34, h35⟩ := bo_z h25
        clear h25
        have hY36 : kV E A s.heap _ _ ((([(q73, .inr (8, [.int 0, .int 0, .int 0, .int 0, .int 0, .int 0, .null]))] : va_W) ++ ([(a0, .inr (11, [w0_0, w0_1, .ref a2, .ref a1, w0_4, w0_5, w0_6, w0_7, w0_8])), (a1, .inr (4, [w1_0, w1_1, w1_2, w1_3, w1_4, w1_5, .int o_day66_23])), (a2, .inr (7, [.ref a3, w2_1, .int s_sky_many, w2_3])), (a3, .inl (E.2 3, 10, .inr (.inr (.inr (.inr ((kgA G)))))))] : va_W)) ++ kpool E G) := hV33.subP [4, 0, 1, 2, 3] rfl rfl
        have hY37 := hY36.swapT
        refine kgovT (krunI (rest := [.ref q73, .ref a2]) X hY37 (List.range _) (c_X8_init l E _ q73 s_sky_many p1 p2 p3 p4 p5 hb34) mw_197 kb_X8_init (kndR _) (krg _ _) rfl hl12.1 rfl (Nat.le_of_ble_eq_true rfl) dX11_source_91 (by decide)) X hY37 (fun u H locs hV38 => ?_)
        have hV39 : kV E A s.heap H locs (([(a0, .inr (11, [w0_0, w0_1, .ref a2, .ref a1, w0_4, w0_5, w0_6, w0_7, w0_8])), (a1, .inr (4, [w1_0, w1_1, w1_2, w1_3, w1_4, w1_5, .int o_day66_23])), (a2, .inr (7, [.ref a3, w2_1, .int s_sky_many, w2_3])), (a3, .inl (E.2 3, 10, .inr (.inr (.inr (.inr ((kgA G))))))), (q73, .inr (8, [.int s_sky_many, .int p1, .int p2, .int p3, .int p4, .int p5, .null]))] : va_W) ++ kpool E G) := hV38.subP [0, 1, 2, 3, 4] rfl rfl
        clear hY36 hY37 hV38 hV33
        obtain ⟨r94_40, o_many94_41, hc42, h43⟩ := cb2_s h35
        clear h35
        have hY44 : kV E A s.heap _ _ ((([(a2, .inr (7, [.ref a3, w2_1, .int s_sky_many, w2_3])), (q73, .inr (8, [.int s_sky_many, .int p1, .int p2, .int p3, .int p4, .int p5, .null])), (a3, .inl (E.2 3, 10, .inr (.inr (.inr (.inr ((kgA G)))))))] : va_W) ++ ([(a0, .inr (11, [w0_0, w0_1, .ref a2, .ref a1, w0_4, w0_5, w0_6, w0_7, w0_8])), (a1, .inr (4, [w1_0, w1_1, w1_2, w1_3, w1_4, w1_5, .int o_day66_23]))] : va_W)) ++ kpool E G) := hV39.subP [2, 4, 3, 0, 1] rfl rfl
        have hY45 := hY44.swapT
        clear hY44
        obtain ⟨hi50, hs51, ht52, h53⟩ := ckS_s h43
        clear h43
        refine kgoi2 (krunV (rest := []) X hY45 (List.range _) (c_X7_add l E _ a2 q73 a3 (w2_1) (w2_3) (.int s_sky_many) (.int p1) (.int p2) (.int p3) (.int p4) (.int p5) (.null) s_sky_many (kgA G) r94_40 o_many94_41 hc42) mw_208 kb_X7_add (ci := 7) rfl rfl (kndR _) (krg _ _) rfl hl12.1 rfl (Nat.le_of_ble_eq_true rfl) dX11_source_94 (by decide)) X hY45 (fun x48 u49 H locs hp47 hV46 => ?_)
        obtain ⟨rfl, rfl⟩ := hp47
        have hV46 := hV46.swap
        clear hY45 hV39
        have hV54 : kV E A s.heap H locs (([(a0, .inr (11, [w0_0, w0_1, .ref a2, .ref a1, w0_4, w0_5, w0_6, w0_7, w0_8])), (a1, .inr (4, [w1_0, w1_1, w1_2, w1_3, w1_4, w1_5, .int o_day66_23])), (a2, .inr (7, [.ref a3, w2_1, .int o_many94_41, w2_3])), (a3, .inl (E.2 3, 10, .inr (.inr (.inr (.inr ((va_up (kgA G) (Int32.toNatClampNeg s_sky_many) (some q73)))))))), (q73, .inr (8, [.int s_sky_many, .int p1, .int p2, .int p3, .int p4, .int p5, .null]))] : va_W) ++ kpool E G) := hV46.subP [0, 1, 2, 4, 3] rfl rfl
        clear hV46
        obtain ⟨q55, q56, q57, q58⟩ := tup4_s h53
        clear h53
        have hV59 : kV E A s.heap _ _ ((([(a0, .inr (11, [w0_0, w0_1, .ref a2, .ref a1, w0_4, w0_5, w0_6, w0_7, w0_8])), (a1, .inr (4, [w1_0, w1_1, w1_2, w1_3, w1_4, w1_5, .int o_day66_23])), (a2, .inr (7, [.ref a3, w2_1, .int o_many94_41, w2_3])), (a3, .inl (E.2 3, 10, .inr (.inr (.inr (.inr ((va_up (kgA G) (Int32.toNatClampNeg s_sky_many) (some q73))))))))] : va_W) ++ [ksc (q73, (s_sky_many, p1, p2, p3, p4, p5)) none]) ++ kpool E G) := hV54
        have hV60 := kadS hi50 hs51 ht52 hV59
        rw [show (va_up (kgA G) (Int32.toNatClampNeg s_sky_many) (some q73)) = kgA (kuS G (Int32.toNatClampNeg s_sky_many) (q73, (s_sky_many, p1, p2, p3, p4, p5))) from kgAup (s := (q73, (s_sky_many, p1, p2, p3, p4, p5)))] at hV60
        exact hret _ (kuS G (Int32.toNatClampNeg s_sky_many) (q73, (s_sky_many, p1, p2, p3, p4, p5)), .null) _ _ _ _ ⟨q55, (by rw [← q58]; exact ⟨q73, rfl⟩)⟩ rfl (by rw [← q56, ← q57]; exact hV60) dX11_source_97
      · have h22 := ieS c20 h15
        clear h15 c20
        refine lv_iconst (v := (-1)) hx hb dX11_source_60 (by decide) ?_
        obtain ⟨q61, q62, q63, q64⟩ := tup4_s h22
        clear h22
        refine W.widen (k := 1) (n := 7) (by decide) (by decide) ?_
        exact hret _ (G, .null) _ _ _ _ ⟨q61, (by rw [← q64]; exact rfl)⟩ rfl (by rw [← q62, ← q63]; exact hVB41) dX11_source_61
  refine lv_if_eq (tgt := 40) hx hb dX11_source_4 (by decide) (fun c65 => ?_) (fun c65 => ?_)
  · have h66 := itS c65 h3
    clear h3 c65
    refine lv_iconst (v := 0) hx hb dX11_source_40 (by decide) ?_
    exact J41 0 _ _ _ h66 hV10 (lv_sub hl [0, 1, 2, 3, 4, 5] rfl)
  · have h67 := ieS c65 h3
    clear h3 c65
    refine lv_iload_n hx hb dX11_source_7 rfl (lv_at hl 3 rfl) ?_
    refine lv_iconst (v := 0) hx hb dX11_source_8 (by decide) ?_
    refine lv_bipush (v := 30) hx hb dX11_source_9 (by decide) ?_
    obtain ⟨r11_68, hc69, h70⟩ := cb1_s h67
    clear h67
    have hY71 : kV E A s.heap _ _ (([] ++ ([(a0, .inr (11, [w0_0, w0_1, .ref a2, .ref a1, w0_4, w0_5, w0_6, w0_7, w0_8])), (a1, .inr (4, [w1_0, w1_1, w1_2, w1_3, w1_4, w1_5, .int s_page_day])), (a2, .inr (7, [.ref a3, w2_1, .int s_sky_many, w2_3])), (a3, .inl (E.2 3, 10, .inr (.inr (.inr (.inr ((kgA G)))))))] : va_W)) ++ kpool E G) := hV10.subP [0, 1, 2, 3] rfl rfl
    have hY72 := hY71.swapT
    clear hY71
    refine kgoiT (krunS (rest := []) X hY72 (List.range _) (c_X11_isWithin l E _ p3 0 30 r11_68 hc69) mw_187 kb_X11_isWithin (kndR _) (krg _ _) rfl hl.1 rfl (Nat.le_of_ble_eq_true rfl) dX11_source_11 (by decide)) X hY72 (fun u76 H locs hV73 => ?_)
    clear hY72 hV10
    have hV77 : kV E A s.heap H locs (([(a0, .inr (11, [w0_0, w0_1, .ref a2, .ref a1, w0_4, w0_5, w0_6, w0_7, w0_8])), (a1, .inr (4, [w1_0, w1_1, w1_2, w1_3, w1_4, w1_5, .int s_page_day])), (a2, .inr (7, [.ref a3, w2_1, .int s_sky_many, w2_3])), (a3, .inl (E.2 3, 10, .inr (.inr (.inr (.inr ((kgA G)))))))] : va_W) ++ kpool E G) := hV73.subP [0, 1, 2, 3] rfl rfl
    clear hV73
    refine lv_if_eq (tgt := 40) hx hb dX11_source_14 (by decide) (fun c78 => ?_) (fun c78 => ?_)
    · have h79 := itS c78 h70
      clear h70 c78
      refine lv_iconst (v := 0) hx hb dX11_source_40 (by decide) ?_
      exact J41 0 _ _ _ h79 hV77 (lv_sub hl [0, 1, 2, 3, 4, 5] rfl)
    · have h80 := ieS c78 h70
      clear h70 c78
      refine lv_iload hx hb dX11_source_17 (lv_at hl 4 rfl) ?_
      obtain ⟨r19_81, hc82, h83⟩ := cb1_s h80
      clear h80
      have hY84 : kV E A s.heap _ _ (([] ++ ([(a0, .inr (11, [w0_0, w0_1, .ref a2, .ref a1, w0_4, w0_5, w0_6, w0_7, w0_8])), (a1, .inr (4, [w1_0, w1_1, w1_2, w1_3, w1_4, w1_5, .int s_page_day])), (a2, .inr (7, [.ref a3, w2_1, .int s_sky_many, w2_3])), (a3, .inl (E.2 3, 10, .inr (.inr (.inr (.inr ((kgA G)))))))] : va_W)) ++ kpool E G) := hV77.subP [0, 1, 2, 3] rfl rfl
      have hY85 := hY84.swapT
      clear hY84
      refine kgoiT (krunS (rest := []) X hY85 (List.range _) (c_X11_isShape l E _ p4 r19_81 hc82) mw_190 kb_X11_isShape (kndR _) (krg _ _) rfl hl.1 rfl (Nat.le_of_ble_eq_true rfl) dX11_source_19 (by decide)) X hY85 (fun u89 H locs hV86 => ?_)
      clear hY85 hV77
      have hV90 : kV E A s.heap H locs (([(a0, .inr (11, [w0_0, w0_1, .ref a2, .ref a1, w0_4, w0_5, w0_6, w0_7, w0_8])), (a1, .inr (4, [w1_0, w1_1, w1_2, w1_3, w1_4, w1_5, .int s_page_day])), (a2, .inr (7, [.ref a3, w2_1, .int s_sky_many, w2_3])), (a3, .inl (E.2 3, 10, .inr (.inr (.inr (.inr ((kgA G)))))))] : va_W) ++ kpool E G) := hV86.subP [0, 1, 2, 3] rfl rfl
      clear hV86
      refine lv_if_eq (tgt := 40) hx hb dX11_source_22 (by decide) (fun c91 => ?_) (fun c91 => ?_)
      · have h92 := itS c91 h83
        clear h83 c91
        refine lv_iconst (v := 0) hx hb dX11_source_40 (by decide) ?_
        exact J41 0 _ _ _ h92 hV90 (lv_sub hl [0, 1, 2, 3, 4, 5] rfl)
      · have h93 := ieS c91 h83
        clear h83 c91
        refine lv_iload hx hb dX11_source_25 (lv_at hl 5 rfl) ?_
        refine lv_iconst (v := 0) hx hb dX11_source_27 (by decide) ?_
        refine lv_bipush (v := 127) hx hb dX11_source_28 (by decide) ?_
        obtain ⟨r30_94, hc95, h96⟩ := cb1_s h93
        clear h93
        have hY97 : kV E A s.heap _ _ (([] ++ ([(a0, .inr (11, [w0_0, w0_1, .ref a2, .ref a1, w0_4, w0_5, w0_6, w0_7, w0_8])), (a1, .inr (4, [w1_0, w1_1, w1_2, w1_3, w1_4, w1_5, .int s_page_day])), (a2, .inr (7, [.ref a3, w2_1, .int s_sky_many, w2_3])), (a3, .inl (E.2 3, 10, .inr (.inr (.inr (.inr ((kgA G)))))))] : va_W)) ++ kpool E G) := hV90.subP [0, 1, 2, 3] rfl rfl
        have hY98 := hY97.swapT
        clear hY97
        refine kgoiT (krunS (rest := []) X hY98 (List.range _) (c_X11_isWithin l E _ p5 0 127 r30_94 hc95) mw_187 kb_X11_isWithin (kndR _) (krg _ _) rfl hl.1 rfl (Nat.le_of_ble_eq_true rfl) dX11_source_30 (by decide)) X hY98 (fun u102 H locs hV99 => ?_)
        clear hY98 hV90
        have hV103 : kV E A s.heap H locs (([(a0, .inr (11, [w0_0, w0_1, .ref a2, .ref a1, w0_4, w0_5, w0_6, w0_7, w0_8])), (a1, .inr (4, [w1_0, w1_1, w1_2, w1_3, w1_4, w1_5, .int s_page_day])), (a2, .inr (7, [.ref a3, w2_1, .int s_sky_many, w2_3])), (a3, .inl (E.2 3, 10, .inr (.inr (.inr (.inr ((kgA G)))))))] : va_W) ++ kpool E G) := hV99.subP [0, 1, 2, 3] rfl rfl
        clear hV99
        refine lv_if_eq (tgt := 40) hx hb dX11_source_33 (by decide) (fun c104 => ?_) (fun c104 => ?_)
        · have h105 := itS c104 h96
          clear h96 c104
          refine lv_iconst (v := 0) hx hb dX11_source_40 (by decide) ?_
          exact J41 0 _ _ _ h105 hV103 (lv_sub hl [0, 1, 2, 3, 4, 5] rfl)
        · have h106 := ieS c104 h96
          clear h96 c104
          refine lv_iconst (v := 1) hx hb dX11_source_36 (by decide) ?_
          refine lv_goto (tgt := 41) hx hb dX11_source_37 (by decide) ?_
          exact J41 1 _ _ _ h106 hV103 (lv_sub hl [0, 1, 2, 3, 4, 5] rfl)
noncomputable def f_X11_law (G : kG) (s_page_day : Int32) (s_scribe_length : Int32) (s_scribe_at : Int32) (s_scribe_used : Int32) (s_scribe_fault : Int32) (s_sky_many : Int32) (s_tape_length : Int32) (s_scribe_code : Nat → Int32) (s_scribe_middles : Nat → Int32) (s_scribe_starts : Nat → Int32) (s_tape_bytes : Nat → Int32) (p1 : Int32) (p2 : Int32) : Option (Int32 × Int32 × Int32 × Int32 × Int32 × Int32 × Int32 × (Nat → Int32) × (Nat → Int32) × (Nat → Int32) × Option (Nat × kTv)) :=
    cb1 (f_X7_sourceAt G s_sky_many p1) fun r5_1 =>
    oS G r5_1
    (some ((-1), s_page_day, s_scribe_length, s_scribe_at, s_scribe_used, s_scribe_fault, s_tape_length, s_scribe_code, s_scribe_middles, s_scribe_starts, none))
    fun k_11 s_12 =>
    (cb1 (f_X11_tapeHas s_tape_length p2 120) fun r17_32 =>
      if r17_32 = 0 then
      (some ((-1), s_page_day, s_scribe_length, s_scribe_at, s_scribe_used, s_scribe_fault, s_tape_length, s_scribe_code, s_scribe_middles, s_scribe_starts, none))
      else
      (cb8 (f_X6_writeClauses 200 s_scribe_length s_scribe_at s_scribe_used s_scribe_fault s_tape_bytes s_scribe_code s_scribe_middles s_scribe_starts p2 104) fun o_length39_45 o_at39_46 o_used39_47 o_fault39_48 o_code39_49 o_middles39_50 o_starts39_51 nt39_52 =>
        oN nt39_52
        (cb1 (f_X9_clear s_tape_length) fun o_length48_69 =>
          cb1 (f_X6_faultCode o_at39_46 o_fault39_48) fun r60_79 =>
          some (r60_79, s_page_day, o_length39_45, o_at39_46, o_used39_47, o_fault39_48, o_length48_69, o_code39_49, o_middles39_50, o_starts39_51, none))
        fun v_65 =>
        (cb1 (f_X9_clear s_tape_length) fun o_length48_102 =>
          cb1 (f_X4_forget s_page_day) fun o_day68_112 =>
          some ((v_65.1), o_day68_112, o_length39_45, o_at39_46, o_used39_47, o_fault39_48, o_length48_102, o_code39_49, o_middles39_50, o_starts39_51, (some (k_11, v_65))))))
abbrev r_X11_law : Room := { frames := 113, cells := 4, slots := 149, locals := 7072 }
set_option maxHeartbeats 4000000 in
set_option maxRecDepth 100000 in
theorem c_X11_law (l : Launch) (E : kE) (sz : Nat) (a0 a1 a2 a3 a4 a5 a6 a7 a8 a9 : Nat) (w0_4 w0_5 w0_6 w0_7 w0_8 w1_0 w1_1 w1_2 w1_3 w1_4 w1_5 w2_3 w3_1 w3_3 : Value) (G : kG) (s_page_day : Int32) (s_scribe_length : Int32) (s_scribe_at : Int32) (s_scribe_used : Int32) (s_scribe_fault : Int32) (s_sky_many : Int32) (s_tape_length : Int32) (s_scribe_code : Nat → Int32) (s_scribe_middles : Nat → Int32) (s_scribe_starts : Nat → Int32) (s_tape_bytes : Nat → Int32) (p1 : Int32) (p2 : Int32) (r : Int32) (o_page_day : Int32) (o_scribe_length : Int32) (o_scribe_at : Int32) (o_scribe_used : Int32) (o_scribe_fault : Int32) (o_tape_length : Int32) (o_scribe_code : Nat → Int32) (o_scribe_middles : Nat → Int32) (o_scribe_starts : Nat → Int32) (nt : Option (Nat × kTv)) (h : f_X11_law G s_page_day s_scribe_length s_scribe_at s_scribe_used s_scribe_fault s_sky_many s_tape_length s_scribe_code s_scribe_middles s_scribe_starts s_tape_bytes p1 p2 = some (r, o_page_day, o_scribe_length, o_scribe_at, o_scribe_used, o_scribe_fault, o_tape_length, o_scribe_code, o_scribe_middles, o_scribe_starts, nt)) : kMi l yX11_law cX11_law 5 (some .int) r_X11_law [.ref a0, .int p1, .int p2] E (([(a0, .inr (11, [.ref a4, .ref a2, .ref a3, .ref a1, w0_4, w0_5, w0_6, w0_7, w0_8])), (a1, .inr (4, [w1_0, w1_1, w1_2, w1_3, w1_4, w1_5, .int s_page_day])), (a2, .inr (6, [.ref a5, .ref a7, .ref a6, w2_3, .int s_scribe_length, .int s_scribe_at, .int s_scribe_used, .int s_scribe_fault])), (a3, .inr (7, [.ref a8, w3_1, .int s_sky_many, w3_3])), (a4, .inr (9, [.ref a9, .int s_tape_length])), (a5, .inl (E.2 0, 120, .inl s_scribe_code)), (a6, .inl (E.2 0, 12, .inl s_scribe_middles)), (a7, .inl (E.2 0, 13, .inl s_scribe_starts)), (a8, .inl (E.2 3, 10, .inr (.inr (.inr (.inr ((kgA G))))))), (a9, .inl (E.2 0, 200, .inl s_tape_bytes))] : va_W) ++ kpool E G) sz 4 149 (fun x (u : kG × Value) => x = r ∧ kGT G nt u.1) (fun u => (([(a0, .inr (11, [.ref a4, .ref a2, .ref a3, .ref a1, w0_4, w0_5, w0_6, w0_7, w0_8])), (a1, .inr (4, [w1_0, w1_1, w1_2, w1_3, w1_4, w1_5, .int o_page_day])), (a2, .inr (6, [.ref a5, .ref a7, .ref a6, u.2, .int o_scribe_length, .int o_scribe_at, .int o_scribe_used, .int o_scribe_fault])), (a3, .inr (7, [.ref a8, w3_1, .int s_sky_many, w3_3])), (a4, .inr (9, [.ref a9, .int o_tape_length])), (a5, .inl (E.2 0, 120, .inl o_scribe_code)), (a6, .inl (E.2 0, 12, .inl o_scribe_middles)), (a7, .inl (E.2 0, 13, .inl o_scribe_starts)), (a8, .inl (E.2 3, 10, .inr (.inr (.inr (.inr ((kgA u.1))))))), (a9, .inl (E.2 0, 200, .inl s_tape_bytes))] : va_W) ++ kpool E u.1)) := by
  refine kmeti rfl (Nat.le_of_ble_eq_true rfl) ?_
  intro p e s m args below meth c ls A Q X hV hret hl
  have X : kC p s m c cX11_law 5 RX11 args E A := X
  have hx := X.1
  have hb := X.2.1
  have hl : lv_has ls 5 [(0, .ref a0), (1, .int p1), (2, .int p2)] := hl
  rw [f_X11_law] at h
  refine lv_aload_n hx hb dX11_law_0 rfl (lv_at hl 0 rfl) ?_
  refine kget X hV (ci := 11) inlX11 rfl 0 rfl 2 (by decide) mw_23 rfl dX11_law_1 ?_
  refine lv_iload_n hx hb dX11_law_4 rfl (lv_at hl 1 rfl) ?_
  obtain ⟨r5_1, hc2, h3⟩ := cb1_s h
  clear h
  have hY4 : kV E A s.heap _ _ ((([(a3, .inr (7, [.ref a8, w3_1, .int s_sky_many, w3_3])), (a8, .inl (E.2 3, 10, .inr (.inr (.inr (.inr ((kgA G)))))))] : va_W) ++ ([(a0, .inr (11, [.ref a4, .ref a2, .ref a3, .ref a1, w0_4, w0_5, w0_6, w0_7, w0_8])), (a1, .inr (4, [w1_0, w1_1, w1_2, w1_3, w1_4, w1_5, .int s_page_day])), (a2, .inr (6, [.ref a5, .ref a7, .ref a6, w2_3, .int s_scribe_length, .int s_scribe_at, .int s_scribe_used, .int s_scribe_fault])), (a4, .inr (9, [.ref a9, .int s_tape_length])), (a5, .inl (E.2 0, 120, .inl s_scribe_code)), (a6, .inl (E.2 0, 12, .inl s_scribe_middles)), (a7, .inl (E.2 0, 13, .inl s_scribe_starts)), (a9, .inl (E.2 0, 200, .inl s_tape_bytes))] : va_W)) ++ kpool E G) := hV.subP [3, 8, 0, 1, 2, 4, 5, 6, 7, 9] rfl rfl
  have hY5 := hY4.swap
  clear hY4
  refine kgoq2 (krunV (rest := []) X hY5 (List.range _) (c_X7_sourceAt l E _ a3 a8 (w3_1) (w3_3) G s_sky_many p1 r5_1 hc2) mw_263 kb_X7_sourceAt (ci := 7) rfl rfl (kndR _) (krg _ _) rfl hl.1 rfl (Nat.le_of_ble_eq_true rfl) dX11_law_5 (by decide)) X hY5 (fun x8 u9 H locs hp7 hV6 => ?_)
  clear hY5 hV
  have hV10 : kV E A s.heap H locs (([(a0, .inr (11, [.ref a4, .ref a2, .ref a3, .ref a1, w0_4, w0_5, w0_6, w0_7, w0_8])), (a1, .inr (4, [w1_0, w1_1, w1_2, w1_3, w1_4, w1_5, .int s_page_day])), (a2, .inr (6, [.ref a5, .ref a7, .ref a6, w2_3, .int s_scribe_length, .int s_scribe_at, .int s_scribe_used, .int s_scribe_fault])), (a3, .inr (7, [.ref a8, w3_1, .int s_sky_many, w3_3])), (a4, .inr (9, [.ref a9, .int s_tape_length])), (a5, .inl (E.2 0, 120, .inl s_scribe_code)), (a6, .inl (E.2 0, 12, .inl s_scribe_middles)), (a7, .inl (E.2 0, 13, .inl s_scribe_starts)), (a8, .inl (E.2 3, 10, .inr (.inr (.inr (.inr ((kgA G))))))), (a9, .inl (E.2 0, 200, .inl s_tape_bytes))] : va_W) ++ kpool E G) := kV.subP (X := (([(a0, .inr (11, [.ref a4, .ref a2, .ref a3, .ref a1, w0_4, w0_5, w0_6, w0_7, w0_8])), (a1, .inr (4, [w1_0, w1_1, w1_2, w1_3, w1_4, w1_5, .int s_page_day])), (a2, .inr (6, [.ref a5, .ref a7, .ref a6, w2_3, .int s_scribe_length, .int s_scribe_at, .int s_scribe_used, .int s_scribe_fault])), (a4, .inr (9, [.ref a9, .int s_tape_length])), (a5, .inl (E.2 0, 120, .inl s_scribe_code)), (a6, .inl (E.2 0, 12, .inl s_scribe_middles)), (a7, .inl (E.2 0, 13, .inl s_scribe_starts)), (a9, .inl (E.2 0, 200, .inl s_tape_bytes))] : va_W) ++ ([(a3, .inr (7, [.ref a8, w3_1, .int s_sky_many, w3_3])), (a8, .inl (E.2 3, 10, .inr (.inr (.inr (.inr ((kgA G)))))))] : va_W))) (P := kpool E G) hV6 [0, 1, 2, 8, 3, 4, 5, 6, 9, 7] rfl rfl
  clear hV6
  subst hp7
  refine W.eq (g2 := F0 m 8 ls [va_rf (r5_1.bind (kgA G))]) rfl ?_
  rcases oS_s h3 with ⟨hq13, h14⟩ | ⟨k_11, s_12, hr15, hq13, hk16, ht17, h18⟩
  · skip
    refine ktopq hq13.symm ?_
    refine W.eq (g2 := F0 m 8 ls [.null]) rfl ?_
    refine lv_astore_nN (lv' := [(3, .null), (0, .ref a0), (1, .int p1), (2, .int p2)]) hx hb dX11_law_8 rfl hl (by decide) rfl (fun ls hl19 => ?_)
    clear hl
    refine lv_aload_nN hx hb dX11_law_9 rfl (lv_at hl19 0 rfl) ?_
    refine lv_ifnullN (tgt := 23) hx hb dX11_law_10 (by decide) ?_
    refine lv_iconst (v := (-1)) hx hb dX11_law_23 (by decide) ?_
    obtain ⟨q20, q21, q22, q23, q24, q25, q26, q27, q28, q29, q30⟩ := tup11_s h14
    clear h14
    refine W.widen (k := 4) (n := 149) (by decide) (by decide) ?_
    exact hret _ (G, w2_3) _ _ _ _ ⟨q20, (by rw [← q30]; exact rfl)⟩ rfl (by rw [← q21, ← q22, ← q23, ← q24, ← q25, ← q26, ← q27, ← q28, ← q29]; exact hV10) dX11_law_24
  · skip
    subst hr15
    refine ktopq hq13.symm ?_
    refine W.eq (g2 := F0 m 8 ls [.ref s_12.1]) rfl ?_
    refine lv_astore_n (lv' := [(3, .ref s_12.1), (0, .ref a0), (1, .int p1), (2, .int p2)]) hx hb dX11_law_8 rfl hl (by decide) rfl (fun ls hl31 => ?_)
    clear hl
    refine lv_aload_n hx hb dX11_law_9 rfl (lv_at hl31 0 rfl) ?_
    refine lv_ifnull hx hb dX11_law_10 ?_
    refine lv_aload_n hx hb dX11_law_13 rfl (lv_at hl31 1 rfl) ?_
    refine lv_iload_n hx hb dX11_law_14 rfl (lv_at hl31 3 rfl) ?_
    refine lv_bipush (v := 120) hx hb dX11_law_15 (by decide) ?_
    obtain ⟨r17_32, hc33, h34⟩ := cb1_s h18
    clear h18
    have hY35 : kV E A s.heap _ _ ((([(a0, .inr (11, [.ref a4, .ref a2, .ref a3, .ref a1, w0_4, w0_5, w0_6, w0_7, w0_8])), (a4, .inr (9, [.ref a9, .int s_tape_length]))] : va_W) ++ ([(a1, .inr (4, [w1_0, w1_1, w1_2, w1_3, w1_4, w1_5, .int s_page_day])), (a2, .inr (6, [.ref a5, .ref a7, .ref a6, w2_3, .int s_scribe_length, .int s_scribe_at, .int s_scribe_used, .int s_scribe_fault])), (a3, .inr (7, [.ref a8, w3_1, .int s_sky_many, w3_3])), (a5, .inl (E.2 0, 120, .inl s_scribe_code)), (a6, .inl (E.2 0, 12, .inl s_scribe_middles)), (a7, .inl (E.2 0, 13, .inl s_scribe_starts)), (a8, .inl (E.2 3, 10, .inr (.inr (.inr (.inr ((kgA G))))))), (a9, .inl (E.2 0, 200, .inl s_tape_bytes))] : va_W)) ++ kpool E G) := hV10.subP [0, 4, 1, 2, 3, 5, 6, 7, 8, 9] rfl rfl
    have hY36 := hY35.swapT
    clear hY35
    refine kgoiT (krunV (rest := []) X hY36 (List.range _) (c_X11_tapeHas l E _ a0 a4 (.ref a2) (.ref a3) (.ref a1) (w0_4) (w0_5) (w0_6) (w0_7) (w0_8) (.ref a9) s_tape_length p2 120 r17_32 hc33) mw_267 kb_X11_tapeHas (ci := 11) rfl rfl (kndR _) (krg _ _) rfl hl31.1 rfl (Nat.le_of_ble_eq_true rfl) dX11_law_17 (by decide)) X hY36 (fun u40 H locs hV37 => ?_)
    clear hY36 hV10
    have hV41 : kV E A s.heap H locs (([(a0, .inr (11, [.ref a4, .ref a2, .ref a3, .ref a1, w0_4, w0_5, w0_6, w0_7, w0_8])), (a1, .inr (4, [w1_0, w1_1, w1_2, w1_3, w1_4, w1_5, .int s_page_day])), (a2, .inr (6, [.ref a5, .ref a7, .ref a6, w2_3, .int s_scribe_length, .int s_scribe_at, .int s_scribe_used, .int s_scribe_fault])), (a3, .inr (7, [.ref a8, w3_1, .int s_sky_many, w3_3])), (a4, .inr (9, [.ref a9, .int s_tape_length])), (a5, .inl (E.2 0, 120, .inl s_scribe_code)), (a6, .inl (E.2 0, 12, .inl s_scribe_middles)), (a7, .inl (E.2 0, 13, .inl s_scribe_starts)), (a8, .inl (E.2 3, 10, .inr (.inr (.inr (.inr ((kgA G))))))), (a9, .inl (E.2 0, 200, .inl s_tape_bytes))] : va_W) ++ kpool E G) := hV37.subP [8, 0, 1, 2, 9, 3, 4, 5, 6, 7] rfl rfl
    clear hV37
    refine lv_if_ne (tgt := 25) hx hb dX11_law_20 (by decide) (fun c42 => ?_) (fun c42 => ?_)
    · have h43 := ieS c42 h34
      clear h34 c42
      refine lv_aload_n hx hb dX11_law_25 rfl (lv_at hl31 1 rfl) ?_
      refine kget X hV41 (ci := 11) inlX11 rfl 0 rfl 1 (by decide) mw_19 rfl dX11_law_26 ?_
      refine lv_aload_n hx hb dX11_law_29 rfl (lv_at hl31 1 rfl) ?_
      refine kget X hV41 (ci := 11) inlX11 rfl 0 rfl 0 (by decide) mw_15 rfl dX11_law_30 ?_
      refine kget X hV41 (ci := 9) inlX9 rfl 4 rfl 0 (by decide) mw_260 rfl dX11_law_33 ?_
      refine lv_iload_n hx hb dX11_law_36 rfl (lv_at hl31 3 rfl) ?_
      refine lv_bipush (v := 104) hx hb dX11_law_37 (by decide) ?_
      obtain ⟨o_length39_45, o_at39_46, o_used39_47, o_fault39_48, o_code39_49, o_middles39_50, o_starts39_51, nt39_52, hc53, h54⟩ := cb8_s h43
      clear h43
      have hY55 : kV E A s.heap _ _ ((([(a2, .inr (6, [.ref a5, .ref a7, .ref a6, w2_3, .int s_scribe_length, .int s_scribe_at, .int s_scribe_used, .int s_scribe_fault])), (a9, .inl (E.2 0, 200, .inl s_tape_bytes)), (a5, .inl (E.2 0, 120, .inl s_scribe_code)), (a6, .inl (E.2 0, 12, .inl s_scribe_middles)), (a7, .inl (E.2 0, 13, .inl s_scribe_starts))] : va_W) ++ ([(a0, .inr (11, [.ref a4, .ref a2, .ref a3, .ref a1, w0_4, w0_5, w0_6, w0_7, w0_8])), (a1, .inr (4, [w1_0, w1_1, w1_2, w1_3, w1_4, w1_5, .int s_page_day])), (a3, .inr (7, [.ref a8, w3_1, .int s_sky_many, w3_3])), (a4, .inr (9, [.ref a9, .int s_tape_length])), (a8, .inl (E.2 3, 10, .inr (.inr (.inr (.inr ((kgA G)))))))] : va_W)) ++ kpool E G) := hV41.subP [2, 9, 5, 6, 7, 0, 1, 3, 4, 8] rfl rfl
      have hY56 := hY55.swapT
      clear hY55
      refine kgoqT (krunV (rest := []) X hY56 (List.range _) (c_X6_writeClauses l E _ a2 a9 a5 a6 a7 (w2_3) 200 s_scribe_length s_scribe_at s_scribe_used s_scribe_fault s_tape_bytes s_scribe_code s_scribe_middles s_scribe_starts p2 104 o_length39_45 o_at39_46 o_used39_47 o_fault39_48 o_code39_49 o_middles39_50 o_starts39_51 nt39_52 hc53) mw_271 kb_X6_writeClauses (ci := 6) rfl rfl (kndR _) (krg _ _) rfl hl31.1 rfl (Nat.le_of_ble_eq_true rfl) dX11_law_39 (by decide)) X hY56 (fun x59 u60 H locs hp58 hV57 => ?_)
      clear hY56 hV41
      rcases oN_s h54 with ⟨hn61, h62⟩ | ⟨v_65, hv64, h63⟩
      · obtain rfl : u60 = none := ktN hp58.2 hn61
        have hV67 : kV E A s.heap H locs (([(a0, .inr (11, [.ref a4, .ref a2, .ref a3, .ref a1, w0_4, w0_5, w0_6, w0_7, w0_8])), (a1, .inr (4, [w1_0, w1_1, w1_2, w1_3, w1_4, w1_5, .int s_page_day])), (a2, .inr (6, [.ref a5, .ref a7, .ref a6, .ref a9, .int o_length39_45, .int o_at39_46, .int o_used39_47, .int o_fault39_48])), (a3, .inr (7, [.ref a8, w3_1, .int s_sky_many, w3_3])), (a4, .inr (9, [.ref a9, .int s_tape_length])), (a5, .inl (E.2 0, 120, .inl o_code39_49)), (a6, .inl (E.2 0, 12, .inl o_middles39_50)), (a7, .inl (E.2 0, 13, .inl o_starts39_51)), (a8, .inl (E.2 3, 10, .inr (.inr (.inr (.inr ((kgA G))))))), (a9, .inl (E.2 0, 200, .inl s_tape_bytes))] : va_W) ++ kpool E G) := hV57.subP [0, 1, 5, 2, 3, 7, 8, 9, 4, 6] rfl rfl
        refine ktopq hp58.1.symm ?_
        refine W.eq (g2 := F0 m 42 ls [.null]) rfl ?_
        refine lv_astoreN (lv' := [(4, .null), (3, .ref s_12.1), (0, .ref a0), (1, .int p1), (2, .int p2)]) hx hb dX11_law_42 hl31 (by decide) rfl (fun ls hl68 => ?_)
        clear hl31
        refine lv_aload_n hx hb dX11_law_44 rfl (lv_at hl68 2 rfl) ?_
        refine kget X hV67 (ci := 11) inlX11 rfl 0 rfl 0 (by decide) mw_15 rfl dX11_law_45 ?_
        obtain ⟨o_length48_69, hc70, h71⟩ := cb1_s h62
        clear h62
        have hY72 : kV E A s.heap _ _ ((([(a4, .inr (9, [.ref a9, .int s_tape_length]))] : va_W) ++ ([(a0, .inr (11, [.ref a4, .ref a2, .ref a3, .ref a1, w0_4, w0_5, w0_6, w0_7, w0_8])), (a1, .inr (4, [w1_0, w1_1, w1_2, w1_3, w1_4, w1_5, .int s_page_day])), (a2, .inr (6, [.ref a5, .ref a7, .ref a6, .ref a9, .int o_length39_45, .int o_at39_46, .int o_used39_47, .int o_fault39_48])), (a3, .inr (7, [.ref a8, w3_1, .int s_sky_many, w3_3])), (a5, .inl (E.2 0, 120, .inl o_code39_49)), (a6, .inl (E.2 0, 12, .inl o_middles39_50)), (a7, .inl (E.2 0, 13, .inl o_starts39_51)), (a8, .inl (E.2 3, 10, .inr (.inr (.inr (.inr ((kgA G))))))), (a9, .inl (E.2 0, 200, .inl s_tape_bytes))] : va_W)) ++ kpool E G) := hV67.subP [4, 0, 1, 2, 3, 5, 6, 7, 8, 9] rfl rfl
        have hY73 := hY72.swapT
        clear hY72
        refine kgovT (krunV (rest := []) X hY73 (List.range _) (c_X9_clear l E _ a4 (.ref a9) s_tape_length o_length48_69 hc70) mw_449 kb_X9_clear (ci := 9) rfl rfl (kndR _) (krg _ _) rfl hl68.1 rfl (Nat.le_of_ble_eq_true rfl) dX11_law_48 (by decide)) X hY73 (fun u77 H locs hV74 => ?_)
        clear hY73 hV67
        have hV78 : kV E A s.heap H locs (([(a0, .inr (11, [.ref a4, .ref a2, .ref a3, .ref a1, w0_4, w0_5, w0_6, w0_7, w0_8])), (a1, .inr (4, [w1_0, w1_1, w1_2, w1_3, w1_4, w1_5, .int s_page_day])), (a2, .inr (6, [.ref a5, .ref a7, .ref a6, .ref a9, .int o_length39_45, .int o_at39_46, .int o_used39_47, .int o_fault39_48])), (a3, .inr (7, [.ref a8, w3_1, .int s_sky_many, w3_3])), (a4, .inr (9, [.ref a9, .int o_length48_69])), (a5, .inl (E.2 0, 120, .inl o_code39_49)), (a6, .inl (E.2 0, 12, .inl o_middles39_50)), (a7, .inl (E.2 0, 13, .inl o_starts39_51)), (a8, .inl (E.2 3, 10, .inr (.inr (.inr (.inr ((kgA G))))))), (a9, .inl (E.2 0, 200, .inl s_tape_bytes))] : va_W) ++ kpool E G) := hV74.subP [0, 1, 2, 3, 9, 4, 5, 6, 7, 8] rfl rfl
        clear hV74
        refine lv_aloadN hx hb dX11_law_51 (lv_at hl68 0 rfl) ?_
        refine lv_ifnonnullN hx hb dX11_law_53 ?_
        refine lv_aload_n hx hb dX11_law_56 rfl (lv_at hl68 2 rfl) ?_
        refine kget X hV78 (ci := 11) inlX11 rfl 0 rfl 1 (by decide) mw_19 rfl dX11_law_57 ?_
        obtain ⟨r60_79, hc80, h81⟩ := cb1_s h71
        clear h71
        have hY82 : kV E A s.heap _ _ ((([(a2, .inr (6, [.ref a5, .ref a7, .ref a6, .ref a9, .int o_length39_45, .int o_at39_46, .int o_used39_47, .int o_fault39_48]))] : va_W) ++ ([(a0, .inr (11, [.ref a4, .ref a2, .ref a3, .ref a1, w0_4, w0_5, w0_6, w0_7, w0_8])), (a1, .inr (4, [w1_0, w1_1, w1_2, w1_3, w1_4, w1_5, .int s_page_day])), (a3, .inr (7, [.ref a8, w3_1, .int s_sky_many, w3_3])), (a4, .inr (9, [.ref a9, .int o_length48_69])), (a5, .inl (E.2 0, 120, .inl o_code39_49)), (a6, .inl (E.2 0, 12, .inl o_middles39_50)), (a7, .inl (E.2 0, 13, .inl o_starts39_51)), (a8, .inl (E.2 3, 10, .inr (.inr (.inr (.inr ((kgA G))))))), (a9, .inl (E.2 0, 200, .inl s_tape_bytes))] : va_W)) ++ kpool E G) := hV78.subP [2, 0, 1, 3, 4, 5, 6, 7, 8, 9] rfl rfl
        have hY83 := hY82.swapT
        clear hY82
        refine kgoiT (krunV (rest := []) X hY83 (List.range _) (c_X6_faultCode l E _ a2 (.ref a5) (.ref a7) (.ref a6) (.ref a9) (.int o_length39_45) (.int o_used39_47) o_at39_46 o_fault39_48 r60_79 hc80) mw_453 kb_X6_faultCode (ci := 6) rfl rfl (kndR _) (krg _ _) rfl hl68.1 rfl (Nat.le_of_ble_eq_true rfl) dX11_law_60 (by decide)) X hY83 (fun u87 H locs hV84 => ?_)
        clear hY83 hV78
        have hV88 : kV E A s.heap H locs (([(a0, .inr (11, [.ref a4, .ref a2, .ref a3, .ref a1, w0_4, w0_5, w0_6, w0_7, w0_8])), (a1, .inr (4, [w1_0, w1_1, w1_2, w1_3, w1_4, w1_5, .int s_page_day])), (a2, .inr (6, [.ref a5, .ref a7, .ref a6, .ref a9, .int o_length39_45, .int o_at39_46, .int o_used39_47, .int o_fault39_48])), (a3, .inr (7, [.ref a8, w3_1, .int s_sky_many, w3_3])), (a4, .inr (9, [.ref a9, .int o_length48_69])), (a5, .inl (E.2 0, 120, .inl o_code39_49)), (a6, .inl (E.2 0, 12, .inl o_middles39_50)), (a7, .inl (E.2 0, 13, .inl o_starts39_51)), (a8, .inl (E.2 3, 10, .inr (.inr (.inr (.inr ((kgA G))))))), (a9, .inl (E.2 0, 200, .inl s_tape_bytes))] : va_W) ++ kpool E G) := hV84.subP [0, 1, 9, 2, 3, 4, 5, 6, 7, 8] rfl rfl
        clear hV84
        obtain ⟨q89, q90, q91, q92, q93, q94, q95, q96, q97, q98, q99⟩ := tup11_s h81
        clear h81
        exact hret _ (G, .ref a9) _ _ _ _ ⟨q89, (by rw [← q99]; exact rfl)⟩ rfl (by rw [← q90, ← q91, ← q92, ← q93, ← q94, ← q95, ← q96, ← q97, ← q98]; exact hV88) dX11_law_63
      · obtain ⟨ta66, rfl⟩ := ktS hp58.2 hv64
        have hV100 : kV E A s.heap H locs (([(a0, .inr (11, [.ref a4, .ref a2, .ref a3, .ref a1, w0_4, w0_5, w0_6, w0_7, w0_8])), (a1, .inr (4, [w1_0, w1_1, w1_2, w1_3, w1_4, w1_5, .int s_page_day])), (a2, .inr (6, [.ref a5, .ref a7, .ref a6, .ref a9, .int o_length39_45, .int o_at39_46, .int o_used39_47, .int o_fault39_48])), (a3, .inr (7, [.ref a8, w3_1, .int s_sky_many, w3_3])), (a4, .inr (9, [.ref a9, .int s_tape_length])), (a5, .inl (E.2 0, 120, .inl o_code39_49)), (a6, .inl (E.2 0, 12, .inl o_middles39_50)), (a7, .inl (E.2 0, 13, .inl o_starts39_51)), (a8, .inl (E.2 3, 10, .inr (.inr (.inr (.inr ((kgA G))))))), (a9, .inl (E.2 0, 200, .inl s_tape_bytes)), ((ta66.1), .inr (10, [.int (v_65.1), .ref (ta66.2.1), .ref (ta66.2.2.1), .ref (ta66.2.2.2)])), ((ta66.2.1), .inl (E.2 0, (v_65.2.1.1), .inl ((v_65.2.1.2)))), ((ta66.2.2.1), .inl (E.2 0, (v_65.2.2.1.1), .inl ((v_65.2.2.1.2)))), ((ta66.2.2.2), .inl (E.2 0, (v_65.2.2.2.1), .inl ((v_65.2.2.2.2))))] : va_W) ++ kpool E G) := hV57.subP [0, 1, 5, 2, 3, 7, 8, 9, 4, 6, 10, 11, 12, 13] rfl rfl
        refine ktopq hp58.1.symm ?_
        refine W.eq (g2 := F0 m 42 ls [.ref (ta66.1)]) rfl ?_
        refine lv_astore (lv' := [(4, .ref (ta66.1)), (3, .ref s_12.1), (0, .ref a0), (1, .int p1), (2, .int p2)]) hx hb dX11_law_42 hl31 (by decide) rfl (fun ls hl101 => ?_)
        clear hl31
        refine lv_aload_n hx hb dX11_law_44 rfl (lv_at hl101 2 rfl) ?_
        refine kget X hV100 (ci := 11) inlX11 rfl 0 rfl 0 (by decide) mw_15 rfl dX11_law_45 ?_
        obtain ⟨o_length48_102, hc103, h104⟩ := cb1_s h63
        clear h63
        have hY105 : kV E A s.heap _ _ ((([(a4, .inr (9, [.ref a9, .int s_tape_length]))] : va_W) ++ ([(a0, .inr (11, [.ref a4, .ref a2, .ref a3, .ref a1, w0_4, w0_5, w0_6, w0_7, w0_8])), (a1, .inr (4, [w1_0, w1_1, w1_2, w1_3, w1_4, w1_5, .int s_page_day])), (a2, .inr (6, [.ref a5, .ref a7, .ref a6, .ref a9, .int o_length39_45, .int o_at39_46, .int o_used39_47, .int o_fault39_48])), (a3, .inr (7, [.ref a8, w3_1, .int s_sky_many, w3_3])), (a5, .inl (E.2 0, 120, .inl o_code39_49)), (a6, .inl (E.2 0, 12, .inl o_middles39_50)), (a7, .inl (E.2 0, 13, .inl o_starts39_51)), (a8, .inl (E.2 3, 10, .inr (.inr (.inr (.inr ((kgA G))))))), (a9, .inl (E.2 0, 200, .inl s_tape_bytes)), ((ta66.1), .inr (10, [.int (v_65.1), .ref (ta66.2.1), .ref (ta66.2.2.1), .ref (ta66.2.2.2)])), ((ta66.2.1), .inl (E.2 0, (v_65.2.1.1), .inl ((v_65.2.1.2)))), ((ta66.2.2.1), .inl (E.2 0, (v_65.2.2.1.1), .inl ((v_65.2.2.1.2)))), ((ta66.2.2.2), .inl (E.2 0, (v_65.2.2.2.1), .inl ((v_65.2.2.2.2))))] : va_W)) ++ kpool E G) := hV100.subP [4, 0, 1, 2, 3, 5, 6, 7, 8, 9, 10, 11, 12, 13] rfl rfl
        have hY106 := hY105.swapT
        clear hY105
        refine kgovT (krunV (rest := []) X hY106 (List.range _) (c_X9_clear l E _ a4 (.ref a9) s_tape_length o_length48_102 hc103) mw_449 kb_X9_clear (ci := 9) rfl rfl (kndR _) (krg _ _) rfl hl101.1 rfl (Nat.le_of_ble_eq_true rfl) dX11_law_48 (by decide)) X hY106 (fun u110 H locs hV107 => ?_)
        clear hY106 hV100
        have hV111 : kV E A s.heap H locs (([(a0, .inr (11, [.ref a4, .ref a2, .ref a3, .ref a1, w0_4, w0_5, w0_6, w0_7, w0_8])), (a1, .inr (4, [w1_0, w1_1, w1_2, w1_3, w1_4, w1_5, .int s_page_day])), (a2, .inr (6, [.ref a5, .ref a7, .ref a6, .ref a9, .int o_length39_45, .int o_at39_46, .int o_used39_47, .int o_fault39_48])), (a3, .inr (7, [.ref a8, w3_1, .int s_sky_many, w3_3])), (a4, .inr (9, [.ref a9, .int o_length48_102])), (a5, .inl (E.2 0, 120, .inl o_code39_49)), (a6, .inl (E.2 0, 12, .inl o_middles39_50)), (a7, .inl (E.2 0, 13, .inl o_starts39_51)), (a8, .inl (E.2 3, 10, .inr (.inr (.inr (.inr ((kgA G))))))), (a9, .inl (E.2 0, 200, .inl s_tape_bytes)), ((ta66.1), .inr (10, [.int (v_65.1), .ref (ta66.2.1), .ref (ta66.2.2.1), .ref (ta66.2.2.2)])), ((ta66.2.1), .inl (E.2 0, (v_65.2.1.1), .inl ((v_65.2.1.2)))), ((ta66.2.2.1), .inl (E.2 0, (v_65.2.2.1.1), .inl ((v_65.2.2.1.2)))), ((ta66.2.2.2), .inl (E.2 0, (v_65.2.2.2.1), .inl ((v_65.2.2.2.2))))] : va_W) ++ kpool E G) := hV107.subP [0, 1, 2, 3, 13, 4, 5, 6, 7, 8, 9, 10, 11, 12] rfl rfl
        clear hV107
        refine lv_aload hx hb dX11_law_51 (lv_at hl101 0 rfl) ?_
        refine lv_ifnonnull (tgt := 64) hx hb dX11_law_53 (by decide) ?_
        refine lv_aload_n hx hb dX11_law_64 rfl (lv_at hl101 2 rfl) ?_
        refine kget X hV111 (ci := 11) inlX11 rfl 0 rfl 3 (by decide) mw_27 rfl dX11_law_65 ?_
        obtain ⟨o_day68_112, hc113, h114⟩ := cb1_s h104
        clear h104
        have hY115 : kV E A s.heap _ _ ((([(a1, .inr (4, [w1_0, w1_1, w1_2, w1_3, w1_4, w1_5, .int s_page_day]))] : va_W) ++ ([(a0, .inr (11, [.ref a4, .ref a2, .ref a3, .ref a1, w0_4, w0_5, w0_6, w0_7, w0_8])), (a2, .inr (6, [.ref a5, .ref a7, .ref a6, .ref a9, .int o_length39_45, .int o_at39_46, .int o_used39_47, .int o_fault39_48])), (a3, .inr (7, [.ref a8, w3_1, .int s_sky_many, w3_3])), (a4, .inr (9, [.ref a9, .int o_length48_102])), (a5, .inl (E.2 0, 120, .inl o_code39_49)), (a6, .inl (E.2 0, 12, .inl o_middles39_50)), (a7, .inl (E.2 0, 13, .inl o_starts39_51)), (a8, .inl (E.2 3, 10, .inr (.inr (.inr (.inr ((kgA G))))))), (a9, .inl (E.2 0, 200, .inl s_tape_bytes)), ((ta66.1), .inr (10, [.int (v_65.1), .ref (ta66.2.1), .ref (ta66.2.2.1), .ref (ta66.2.2.2)])), ((ta66.2.1), .inl (E.2 0, (v_65.2.1.1), .inl ((v_65.2.1.2)))), ((ta66.2.2.1), .inl (E.2 0, (v_65.2.2.1.1), .inl ((v_65.2.2.1.2)))), ((ta66.2.2.2), .inl (E.2 0, (v_65.2.2.2.1), .inl ((v_65.2.2.2.2))))] : va_W)) ++ kpool E G) := hV111.subP [1, 0, 2, 3, 4, 5, 6, 7, 8, 9, 10, 11, 12, 13] rfl rfl
        have hY116 := hY115.swapT
        clear hY115
        refine kgovT (krunV (rest := []) X hY116 (List.range _) (c_X4_forget l E _ a1 (w1_0) (w1_1) (w1_2) (w1_3) (w1_4) (w1_5) s_page_day o_day68_112 hc113) mw_193 kb_X4_forget (ci := 4) rfl rfl (kndR _) (krg _ _) rfl hl101.1 rfl (Nat.le_of_ble_eq_true rfl) dX11_law_68 (by decide)) X hY116 (fun u120 H locs hV117 => ?_)
        clear hY116 hV111
        have hV121 : kV E A s.heap H locs (([(a0, .inr (11, [.ref a4, .ref a2, .ref a3, .ref a1, w0_4, w0_5, w0_6, w0_7, w0_8])), (a1, .inr (4, [w1_0, w1_1, w1_2, w1_3, w1_4, w1_5, .int o_day68_112])), (a2, .inr (6, [.ref a5, .ref a7, .ref a6, .ref a9, .int o_length39_45, .int o_at39_46, .int o_used39_47, .int o_fault39_48])), (a3, .inr (7, [.ref a8, w3_1, .int s_sky_many, w3_3])), (a4, .inr (9, [.ref a9, .int o_length48_102])), (a5, .inl (E.2 0, 120, .inl o_code39_49)), (a6, .inl (E.2 0, 12, .inl o_middles39_50)), (a7, .inl (E.2 0, 13, .inl o_starts39_51)), (a8, .inl (E.2 3, 10, .inr (.inr (.inr (.inr ((kgA G))))))), (a9, .inl (E.2 0, 200, .inl s_tape_bytes)), ((ta66.1), .inr (10, [.int (v_65.1), .ref (ta66.2.1), .ref (ta66.2.2.1), .ref (ta66.2.2.2)])), ((ta66.2.1), .inl (E.2 0, (v_65.2.1.1), .inl ((v_65.2.1.2)))), ((ta66.2.2.1), .inl (E.2 0, (v_65.2.2.1.1), .inl ((v_65.2.2.1.2)))), ((ta66.2.2.2), .inl (E.2 0, (v_65.2.2.2.1), .inl ((v_65.2.2.2.2))))] : va_W) ++ kpool E G) := hV117.subP [0, 13, 1, 2, 3, 4, 5, 6, 7, 8, 9, 10, 11, 12] rfl rfl
        clear hV117
        refine lv_aload_n hx hb dX11_law_71 rfl (lv_at hl101 1 rfl) ?_
        refine lv_aload hx hb dX11_law_72 (lv_at hl101 0 rfl) ?_
        have hV122 := kdrL (X := [(a0, .inr (11, [.ref a4, .ref a2, .ref a3, .ref a1, w0_4, w0_5, w0_6, w0_7, w0_8])), (a1, .inr (4, [w1_0, w1_1, w1_2, w1_3, w1_4, w1_5, .int o_day68_112])), (a2, .inr (6, [.ref a5, .ref a7, .ref a6, .ref a9, .int o_length39_45, .int o_at39_46, .int o_used39_47, .int o_fault39_48])), (a3, .inr (7, [.ref a8, w3_1, .int s_sky_many, w3_3])), (a4, .inr (9, [.ref a9, .int o_length48_102])), (a5, .inl (E.2 0, 120, .inl o_code39_49)), (a6, .inl (E.2 0, 12, .inl o_middles39_50)), (a7, .inl (E.2 0, 13, .inl o_starts39_51)), (a8, .inl (E.2 3, 10, .inr (.inr (.inr (.inr ((kgA G))))))), (a9, .inl (E.2 0, 200, .inl s_tape_bytes)), ((ta66.1), .inr (10, [.int (v_65.1), .ref (ta66.2.1), .ref (ta66.2.2.1), .ref (ta66.2.2.2)])), ((ta66.2.1), .inl (E.2 0, (v_65.2.1.1), .inl ((v_65.2.1.2)))), ((ta66.2.2.1), .inl (E.2 0, (v_65.2.2.1.1), .inl ((v_65.2.2.1.2)))), ((ta66.2.2.2), .inl (E.2 0, (v_65.2.2.2.1), .inl ((v_65.2.2.2.2))))]) hk16 ht17 hV121
        refine kput X hV122 (ci := 8) inlX8 rfl tyX8 tyX8_ok nmX8 14 rfl 6 (by decide) mw_261 rfl rfl rfl (Nat.le_of_ble_eq_true rfl) dX11_law_74 (fun H locs hV123 => ?_)
        have hV123 : kV E A s.heap H locs (([(a0, .inr (11, [.ref a4, .ref a2, .ref a3, .ref a1, w0_4, w0_5, w0_6, w0_7, w0_8])), (a1, .inr (4, [w1_0, w1_1, w1_2, w1_3, w1_4, w1_5, .int o_day68_112])), (a2, .inr (6, [.ref a5, .ref a7, .ref a6, .ref a9, .int o_length39_45, .int o_at39_46, .int o_used39_47, .int o_fault39_48])), (a3, .inr (7, [.ref a8, w3_1, .int s_sky_many, w3_3])), (a4, .inr (9, [.ref a9, .int o_length48_102])), (a5, .inl (E.2 0, 120, .inl o_code39_49)), (a6, .inl (E.2 0, 12, .inl o_middles39_50)), (a7, .inl (E.2 0, 13, .inl o_starts39_51)), (a8, .inl (E.2 3, 10, .inr (.inr (.inr (.inr ((kgA G))))))), (a9, .inl (E.2 0, 200, .inl s_tape_bytes)), ((ta66.1), .inr (10, [.int (v_65.1), .ref (ta66.2.1), .ref (ta66.2.2.1), .ref (ta66.2.2.2)])), ((ta66.2.1), .inl (E.2 0, (v_65.2.1.1), .inl ((v_65.2.1.2)))), ((ta66.2.2.1), .inl (E.2 0, (v_65.2.2.1.1), .inl ((v_65.2.2.1.2)))), ((ta66.2.2.2), .inl (E.2 0, (v_65.2.2.2.1), .inl ((v_65.2.2.2.2)))), ((s_12.1), .inr (8, [.int (s_12.2.1), .int (s_12.2.2.1), .int (s_12.2.2.2.1), .int (s_12.2.2.2.2.1), .int (s_12.2.2.2.2.2.1), .int (s_12.2.2.2.2.2.2), .ref (ta66.1)]))] : va_W) ++ kpoolS E G k_11) := hV123
        clear hV121 hV122
        refine lv_aload hx hb dX11_law_77 (lv_at hl101 0 rfl) ?_
        refine kget X hV123 (ci := 10) inlX10 rfl 10 rfl 0 (by decide) mw_262 rfl dX11_law_79 ?_
        obtain ⟨q124, q125, q126, q127, q128, q129, q130, q131, q132, q133, q134⟩ := tup11_s h114
        clear h114
        have hV135 : kV E A s.heap _ _ ((([(a0, .inr (11, [.ref a4, .ref a2, .ref a3, .ref a1, w0_4, w0_5, w0_6, w0_7, w0_8])), (a1, .inr (4, [w1_0, w1_1, w1_2, w1_3, w1_4, w1_5, .int o_day68_112])), (a2, .inr (6, [.ref a5, .ref a7, .ref a6, .ref a9, .int o_length39_45, .int o_at39_46, .int o_used39_47, .int o_fault39_48])), (a3, .inr (7, [.ref a8, w3_1, .int s_sky_many, w3_3])), (a4, .inr (9, [.ref a9, .int o_length48_102])), (a5, .inl (E.2 0, 120, .inl o_code39_49)), (a6, .inl (E.2 0, 12, .inl o_middles39_50)), (a7, .inl (E.2 0, 13, .inl o_starts39_51)), (a8, .inl (E.2 3, 10, .inr (.inr (.inr (.inr ((kgA G))))))), (a9, .inl (E.2 0, 200, .inl s_tape_bytes))] : va_W) ++ (ksc s_12 (some (kta ((ta66, v_65) : kTx))) :: ktc E (ta66, v_65))) ++ kpoolS E G k_11) := hV123.subP [0, 1, 2, 3, 4, 5, 6, 7, 8, 9, 14, 10, 11, 12, 13] rfl rfl
        have hV136 := kclL' hk16 ht17 hV135
        exact hret _ (kuT G k_11 (ta66, v_65), .ref a9) _ _ _ _ ⟨q124, (by rw [← q134]; exact ⟨ta66, rfl⟩)⟩ rfl (by rw [← q125, ← q126, ← q127, ← q128, ← q129, ← q130, ← q131, ← q132, ← q133]; exact hV136) dX11_law_82
    · have h44 := itS c42 h34
      clear h34 c42
      refine lv_iconst (v := (-1)) hx hb dX11_law_23 (by decide) ?_
      obtain ⟨q137, q138, q139, q140, q141, q142, q143, q144, q145, q146, q147⟩ := tup11_s h44
      clear h44
      refine W.widen (k := 4) (n := 149) (by decide) (by decide) ?_
      exact hret _ (G, w2_3) _ _ _ _ ⟨q137, (by rw [← q147]; exact rfl)⟩ rfl (by rw [← q138, ← q139, ← q140, ← q141, ← q142, ← q143, ← q144, ← q145, ← q146]; exact hV41) dX11_law_24
noncomputable def f_X11_way (G : kG) (s_page_readers : Int32) (s_scribe_length : Int32) (s_scribe_at : Int32) (s_scribe_used : Int32) (s_scribe_fault : Int32) (s_tape_length : Int32) (s_scribe_code : Nat → Int32) (s_scribe_middles : Nat → Int32) (s_scribe_starts : Nat → Int32) (s_tape_bytes : Nat → Int32) (p1 : Int32) (p2 : Int32) : Option (Int32 × Int32 × Int32 × Int32 × Int32 × Int32 × Int32 × (Nat → Int32) × (Nat → Int32) × (Nat → Int32) × Option (Nat × kTv)) :=
    cb1 (f_X11_isReader p1) fun r1_1 =>
    if r1_1 = 0 then
    (some ((-1), s_page_readers, s_scribe_length, s_scribe_at, s_scribe_used, s_scribe_fault, s_tape_length, s_scribe_code, s_scribe_middles, s_scribe_starts, none))
    else
    (cb1 (f_X11_tapeHas s_tape_length p2 120) fun r11_25 =>
      if r11_25 = 0 then
      (some ((-1), s_page_readers, s_scribe_length, s_scribe_at, s_scribe_used, s_scribe_fault, s_tape_length, s_scribe_code, s_scribe_middles, s_scribe_starts, none))
      else
      (cb8 (f_X6_writeClauses 200 s_scribe_length s_scribe_at s_scribe_used s_scribe_fault s_tape_bytes s_scribe_code s_scribe_middles s_scribe_starts p2 107) fun o_length33_38 o_at33_39 o_used33_40 o_fault33_41 o_code33_42 o_middles33_43 o_starts33_44 nt33_45 =>
        oN nt33_45
        (cb1 (f_X9_clear s_tape_length) fun o_length41_62 =>
          cb1 (f_X6_faultCode o_at33_39 o_fault33_41) fun r52_72 =>
          some (r52_72, s_page_readers, o_length33_38, o_at33_39, o_used33_40, o_fault33_41, o_length41_62, o_code33_42, o_middles33_43, o_starts33_44, none))
        fun v_58 =>
        (cb1 (f_X9_clear s_tape_length) fun o_length41_95 =>
          cb1 (f_X4_forgetReader s_page_readers p1) fun o_readers61_105 =>
          gdN 4 p1 <|
          some ((v_58.1), o_readers61_105, o_length33_38, o_at33_39, o_used33_40, o_fault33_41, o_length41_95, o_code33_42, o_middles33_43, o_starts33_44, (some ((10 + Int32.toNatClampNeg p1), v_58))))))
abbrev r_X11_way : Room := { frames := 113, cells := 4, slots := 149, locals := 7072 }
set_option maxHeartbeats 4000000 in
set_option maxRecDepth 100000 in
theorem c_X11_way (l : Launch) (E : kE) (sz : Nat) (a0 a1 a2 a3 a4 a5 a6 a7 a8 : Nat) (w0_2 w0_5 w0_6 w0_7 w0_8 w1_0 w1_1 w1_2 w1_3 w1_4 w1_6 w2_3 : Value) (G : kG) (s_page_readers : Int32) (s_scribe_length : Int32) (s_scribe_at : Int32) (s_scribe_used : Int32) (s_scribe_fault : Int32) (s_tape_length : Int32) (s_scribe_code : Nat → Int32) (s_scribe_middles : Nat → Int32) (s_scribe_starts : Nat → Int32) (s_tape_bytes : Nat → Int32) (p1 : Int32) (p2 : Int32) (r : Int32) (o_page_readers : Int32) (o_scribe_length : Int32) (o_scribe_at : Int32) (o_scribe_used : Int32) (o_scribe_fault : Int32) (o_tape_length : Int32) (o_scribe_code : Nat → Int32) (o_scribe_middles : Nat → Int32) (o_scribe_starts : Nat → Int32) (nt : Option (Nat × kTv)) (h : f_X11_way G s_page_readers s_scribe_length s_scribe_at s_scribe_used s_scribe_fault s_tape_length s_scribe_code s_scribe_middles s_scribe_starts s_tape_bytes p1 p2 = some (r, o_page_readers, o_scribe_length, o_scribe_at, o_scribe_used, o_scribe_fault, o_tape_length, o_scribe_code, o_scribe_middles, o_scribe_starts, nt)) : kMi l yX11_way cX11_way 4 (some .int) r_X11_way [.ref a0, .int p1, .int p2] E (([(a0, .inr (11, [.ref a3, .ref a2, w0_2, .ref a1, .ref a4, w0_5, w0_6, w0_7, w0_8])), (a1, .inr (4, [w1_0, w1_1, w1_2, w1_3, w1_4, .int s_page_readers, w1_6])), (a2, .inr (6, [.ref a5, .ref a7, .ref a6, w2_3, .int s_scribe_length, .int s_scribe_at, .int s_scribe_used, .int s_scribe_fault])), (a3, .inr (9, [.ref a8, .int s_tape_length])), (a4, .inl (E.2 4, 4, .inr (.inr (.inr (.inr ((kgW G))))))), (a5, .inl (E.2 0, 120, .inl s_scribe_code)), (a6, .inl (E.2 0, 12, .inl s_scribe_middles)), (a7, .inl (E.2 0, 13, .inl s_scribe_starts)), (a8, .inl (E.2 0, 200, .inl s_tape_bytes))] : va_W) ++ kpool E G) sz 4 149 (fun x (u : kG × Value) => x = r ∧ kGT G nt u.1) (fun u => (([(a0, .inr (11, [.ref a3, .ref a2, w0_2, .ref a1, .ref a4, w0_5, w0_6, w0_7, w0_8])), (a1, .inr (4, [w1_0, w1_1, w1_2, w1_3, w1_4, .int o_page_readers, w1_6])), (a2, .inr (6, [.ref a5, .ref a7, .ref a6, u.2, .int o_scribe_length, .int o_scribe_at, .int o_scribe_used, .int o_scribe_fault])), (a3, .inr (9, [.ref a8, .int o_tape_length])), (a4, .inl (E.2 4, 4, .inr (.inr (.inr (.inr ((kgW u.1))))))), (a5, .inl (E.2 0, 120, .inl o_scribe_code)), (a6, .inl (E.2 0, 12, .inl o_scribe_middles)), (a7, .inl (E.2 0, 13, .inl o_scribe_starts)), (a8, .inl (E.2 0, 200, .inl s_tape_bytes))] : va_W) ++ kpool E u.1)) := by
  refine kmeti rfl (Nat.le_of_ble_eq_true rfl) ?_
  intro p e s m args below meth c ls A Q X hV hret hl
  have X : kC p s m c cX11_way 4 RX11 args E A := X
  have hx := X.1
  have hb := X.2.1
  have hl : lv_has ls 4 [(0, .ref a0), (1, .int p1), (2, .int p2)] := hl
  rw [f_X11_way] at h
  refine lv_iload_n hx hb dX11_way_0 rfl (lv_at hl 1 rfl) ?_
  obtain ⟨r1_1, hc2, h3⟩ := cb1_s h
  clear h
  have hY4 : kV E A s.heap _ _ (([] ++ ([(a0, .inr (11, [.ref a3, .ref a2, w0_2, .ref a1, .ref a4, w0_5, w0_6, w0_7, w0_8])), (a1, .inr (4, [w1_0, w1_1, w1_2, w1_3, w1_4, .int s_page_readers, w1_6])), (a2, .inr (6, [.ref a5, .ref a7, .ref a6, w2_3, .int s_scribe_length, .int s_scribe_at, .int s_scribe_used, .int s_scribe_fault])), (a3, .inr (9, [.ref a8, .int s_tape_length])), (a4, .inl (E.2 4, 4, .inr (.inr (.inr (.inr ((kgW G))))))), (a5, .inl (E.2 0, 120, .inl s_scribe_code)), (a6, .inl (E.2 0, 12, .inl s_scribe_middles)), (a7, .inl (E.2 0, 13, .inl s_scribe_starts)), (a8, .inl (E.2 0, 200, .inl s_tape_bytes))] : va_W)) ++ kpool E G) := hV.subP [0, 1, 2, 3, 4, 5, 6, 7, 8] rfl rfl
  have hY5 := hY4.swapT
  clear hY4
  refine kgoiT (krunS (rest := []) X hY5 (List.range _) (c_X11_isReader l E _ p1 r1_1 hc2) mw_584 kb_X11_isReader (kndR _) (krg _ _) rfl hl.1 rfl (Nat.le_of_ble_eq_true rfl) dX11_way_1 (by decide)) X hY5 (fun u9 H locs hV6 => ?_)
  clear hY5 hV
  have hV10 : kV E A s.heap H locs (([(a0, .inr (11, [.ref a3, .ref a2, w0_2, .ref a1, .ref a4, w0_5, w0_6, w0_7, w0_8])), (a1, .inr (4, [w1_0, w1_1, w1_2, w1_3, w1_4, .int s_page_readers, w1_6])), (a2, .inr (6, [.ref a5, .ref a7, .ref a6, w2_3, .int s_scribe_length, .int s_scribe_at, .int s_scribe_used, .int s_scribe_fault])), (a3, .inr (9, [.ref a8, .int s_tape_length])), (a4, .inl (E.2 4, 4, .inr (.inr (.inr (.inr ((kgW G))))))), (a5, .inl (E.2 0, 120, .inl s_scribe_code)), (a6, .inl (E.2 0, 12, .inl s_scribe_middles)), (a7, .inl (E.2 0, 13, .inl s_scribe_starts)), (a8, .inl (E.2 0, 200, .inl s_tape_bytes))] : va_W) ++ kpool E G) := hV6.subP [0, 1, 2, 3, 4, 5, 6, 7, 8] rfl rfl
  clear hV6
  refine lv_if_eq (tgt := 17) hx hb dX11_way_4 (by decide) (fun c11 => ?_) (fun c11 => ?_)
  · have h12 := itS c11 h3
    clear h3 c11
    refine lv_iconst (v := (-1)) hx hb dX11_way_17 (by decide) ?_
    obtain ⟨q14, q15, q16, q17, q18, q19, q20, q21, q22, q23, q24⟩ := tup11_s h12
    clear h12
    refine W.widen (k := 4) (n := 149) (by decide) (by decide) ?_
    exact hret _ (G, w2_3) _ _ _ _ ⟨q14, (by rw [← q24]; exact rfl)⟩ rfl (by rw [← q15, ← q16, ← q17, ← q18, ← q19, ← q20, ← q21, ← q22, ← q23]; exact hV10) dX11_way_18
  · have h13 := ieS c11 h3
    clear h3 c11
    refine lv_aload_n hx hb dX11_way_7 rfl (lv_at hl 0 rfl) ?_
    refine lv_iload_n hx hb dX11_way_8 rfl (lv_at hl 2 rfl) ?_
    refine lv_bipush (v := 120) hx hb dX11_way_9 (by decide) ?_
    obtain ⟨r11_25, hc26, h27⟩ := cb1_s h13
    clear h13
    have hY28 : kV E A s.heap _ _ ((([(a0, .inr (11, [.ref a3, .ref a2, w0_2, .ref a1, .ref a4, w0_5, w0_6, w0_7, w0_8])), (a3, .inr (9, [.ref a8, .int s_tape_length]))] : va_W) ++ ([(a1, .inr (4, [w1_0, w1_1, w1_2, w1_3, w1_4, .int s_page_readers, w1_6])), (a2, .inr (6, [.ref a5, .ref a7, .ref a6, w2_3, .int s_scribe_length, .int s_scribe_at, .int s_scribe_used, .int s_scribe_fault])), (a4, .inl (E.2 4, 4, .inr (.inr (.inr (.inr ((kgW G))))))), (a5, .inl (E.2 0, 120, .inl s_scribe_code)), (a6, .inl (E.2 0, 12, .inl s_scribe_middles)), (a7, .inl (E.2 0, 13, .inl s_scribe_starts)), (a8, .inl (E.2 0, 200, .inl s_tape_bytes))] : va_W)) ++ kpool E G) := hV10.subP [0, 3, 1, 2, 4, 5, 6, 7, 8] rfl rfl
    have hY29 := hY28.swapT
    clear hY28
    refine kgoiT (krunV (rest := []) X hY29 (List.range _) (c_X11_tapeHas l E _ a0 a3 (.ref a2) (w0_2) (.ref a1) (.ref a4) (w0_5) (w0_6) (w0_7) (w0_8) (.ref a8) s_tape_length p2 120 r11_25 hc26) mw_267 kb_X11_tapeHas (ci := 11) rfl rfl (kndR _) (krg _ _) rfl hl.1 rfl (Nat.le_of_ble_eq_true rfl) dX11_way_11 (by decide)) X hY29 (fun u33 H locs hV30 => ?_)
    clear hY29 hV10
    have hV34 : kV E A s.heap H locs (([(a0, .inr (11, [.ref a3, .ref a2, w0_2, .ref a1, .ref a4, w0_5, w0_6, w0_7, w0_8])), (a1, .inr (4, [w1_0, w1_1, w1_2, w1_3, w1_4, .int s_page_readers, w1_6])), (a2, .inr (6, [.ref a5, .ref a7, .ref a6, w2_3, .int s_scribe_length, .int s_scribe_at, .int s_scribe_used, .int s_scribe_fault])), (a3, .inr (9, [.ref a8, .int s_tape_length])), (a4, .inl (E.2 4, 4, .inr (.inr (.inr (.inr ((kgW G))))))), (a5, .inl (E.2 0, 120, .inl s_scribe_code)), (a6, .inl (E.2 0, 12, .inl s_scribe_middles)), (a7, .inl (E.2 0, 13, .inl s_scribe_starts)), (a8, .inl (E.2 0, 200, .inl s_tape_bytes))] : va_W) ++ kpool E G) := hV30.subP [7, 0, 1, 8, 2, 3, 4, 5, 6] rfl rfl
    clear hV30
    refine lv_if_ne (tgt := 19) hx hb dX11_way_14 (by decide) (fun c35 => ?_) (fun c35 => ?_)
    · have h36 := ieS c35 h27
      clear h27 c35
      refine lv_aload_n hx hb dX11_way_19 rfl (lv_at hl 0 rfl) ?_
      refine kget X hV34 (ci := 11) inlX11 rfl 0 rfl 1 (by decide) mw_19 rfl dX11_way_20 ?_
      refine lv_aload_n hx hb dX11_way_23 rfl (lv_at hl 0 rfl) ?_
      refine kget X hV34 (ci := 11) inlX11 rfl 0 rfl 0 (by decide) mw_15 rfl dX11_way_24 ?_
      refine kget X hV34 (ci := 9) inlX9 rfl 3 rfl 0 (by decide) mw_260 rfl dX11_way_27 ?_
      refine lv_iload_n hx hb dX11_way_30 rfl (lv_at hl 2 rfl) ?_
      refine lv_bipush (v := 107) hx hb dX11_way_31 (by decide) ?_
      obtain ⟨o_length33_38, o_at33_39, o_used33_40, o_fault33_41, o_code33_42, o_middles33_43, o_starts33_44, nt33_45, hc46, h47⟩ := cb8_s h36
      clear h36
      have hY48 : kV E A s.heap _ _ ((([(a2, .inr (6, [.ref a5, .ref a7, .ref a6, w2_3, .int s_scribe_length, .int s_scribe_at, .int s_scribe_used, .int s_scribe_fault])), (a8, .inl (E.2 0, 200, .inl s_tape_bytes)), (a5, .inl (E.2 0, 120, .inl s_scribe_code)), (a6, .inl (E.2 0, 12, .inl s_scribe_middles)), (a7, .inl (E.2 0, 13, .inl s_scribe_starts))] : va_W) ++ ([(a0, .inr (11, [.ref a3, .ref a2, w0_2, .ref a1, .ref a4, w0_5, w0_6, w0_7, w0_8])), (a1, .inr (4, [w1_0, w1_1, w1_2, w1_3, w1_4, .int s_page_readers, w1_6])), (a3, .inr (9, [.ref a8, .int s_tape_length])), (a4, .inl (E.2 4, 4, .inr (.inr (.inr (.inr ((kgW G)))))))] : va_W)) ++ kpool E G) := hV34.subP [2, 8, 5, 6, 7, 0, 1, 3, 4] rfl rfl
      have hY49 := hY48.swapT
      clear hY48
      refine kgoqT (krunV (rest := []) X hY49 (List.range _) (c_X6_writeClauses l E _ a2 a8 a5 a6 a7 (w2_3) 200 s_scribe_length s_scribe_at s_scribe_used s_scribe_fault s_tape_bytes s_scribe_code s_scribe_middles s_scribe_starts p2 107 o_length33_38 o_at33_39 o_used33_40 o_fault33_41 o_code33_42 o_middles33_43 o_starts33_44 nt33_45 hc46) mw_271 kb_X6_writeClauses (ci := 6) rfl rfl (kndR _) (krg _ _) rfl hl.1 rfl (Nat.le_of_ble_eq_true rfl) dX11_way_33 (by decide)) X hY49 (fun x52 u53 H locs hp51 hV50 => ?_)
      clear hY49 hV34
      rcases oN_s h47 with ⟨hn54, h55⟩ | ⟨v_58, hv57, h56⟩
      · obtain rfl : u53 = none := ktN hp51.2 hn54
        have hV60 : kV E A s.heap H locs (([(a0, .inr (11, [.ref a3, .ref a2, w0_2, .ref a1, .ref a4, w0_5, w0_6, w0_7, w0_8])), (a1, .inr (4, [w1_0, w1_1, w1_2, w1_3, w1_4, .int s_page_readers, w1_6])), (a2, .inr (6, [.ref a5, .ref a7, .ref a6, .ref a8, .int o_length33_38, .int o_at33_39, .int o_used33_40, .int o_fault33_41])), (a3, .inr (9, [.ref a8, .int s_tape_length])), (a4, .inl (E.2 4, 4, .inr (.inr (.inr (.inr ((kgW G))))))), (a5, .inl (E.2 0, 120, .inl o_code33_42)), (a6, .inl (E.2 0, 12, .inl o_middles33_43)), (a7, .inl (E.2 0, 13, .inl o_starts33_44)), (a8, .inl (E.2 0, 200, .inl s_tape_bytes))] : va_W) ++ kpool E G) := hV50.subP [0, 1, 4, 2, 3, 6, 7, 8, 5] rfl rfl
        refine ktopq hp51.1.symm ?_
        refine W.eq (g2 := F0 m 36 ls [.null]) rfl ?_
        refine lv_astore_nN (lv' := [(3, .null), (0, .ref a0), (1, .int p1), (2, .int p2)]) hx hb dX11_way_36 rfl hl (by decide) rfl (fun ls hl61 => ?_)
        clear hl
        refine lv_aload_n hx hb dX11_way_37 rfl (lv_at hl61 1 rfl) ?_
        refine kget X hV60 (ci := 11) inlX11 rfl 0 rfl 0 (by decide) mw_15 rfl dX11_way_38 ?_
        obtain ⟨o_length41_62, hc63, h64⟩ := cb1_s h55
        clear h55
        have hY65 : kV E A s.heap _ _ ((([(a3, .inr (9, [.ref a8, .int s_tape_length]))] : va_W) ++ ([(a0, .inr (11, [.ref a3, .ref a2, w0_2, .ref a1, .ref a4, w0_5, w0_6, w0_7, w0_8])), (a1, .inr (4, [w1_0, w1_1, w1_2, w1_3, w1_4, .int s_page_readers, w1_6])), (a2, .inr (6, [.ref a5, .ref a7, .ref a6, .ref a8, .int o_length33_38, .int o_at33_39, .int o_used33_40, .int o_fault33_41])), (a4, .inl (E.2 4, 4, .inr (.inr (.inr (.inr ((kgW G))))))), (a5, .inl (E.2 0, 120, .inl o_code33_42)), (a6, .inl (E.2 0, 12, .inl o_middles33_43)), (a7, .inl (E.2 0, 13, .inl o_starts33_44)), (a8, .inl (E.2 0, 200, .inl s_tape_bytes))] : va_W)) ++ kpool E G) := hV60.subP [3, 0, 1, 2, 4, 5, 6, 7, 8] rfl rfl
        have hY66 := hY65.swapT
        clear hY65
        refine kgovT (krunV (rest := []) X hY66 (List.range _) (c_X9_clear l E _ a3 (.ref a8) s_tape_length o_length41_62 hc63) mw_449 kb_X9_clear (ci := 9) rfl rfl (kndR _) (krg _ _) rfl hl61.1 rfl (Nat.le_of_ble_eq_true rfl) dX11_way_41 (by decide)) X hY66 (fun u70 H locs hV67 => ?_)
        clear hY66 hV60
        have hV71 : kV E A s.heap H locs (([(a0, .inr (11, [.ref a3, .ref a2, w0_2, .ref a1, .ref a4, w0_5, w0_6, w0_7, w0_8])), (a1, .inr (4, [w1_0, w1_1, w1_2, w1_3, w1_4, .int s_page_readers, w1_6])), (a2, .inr (6, [.ref a5, .ref a7, .ref a6, .ref a8, .int o_length33_38, .int o_at33_39, .int o_used33_40, .int o_fault33_41])), (a3, .inr (9, [.ref a8, .int o_length41_62])), (a4, .inl (E.2 4, 4, .inr (.inr (.inr (.inr ((kgW G))))))), (a5, .inl (E.2 0, 120, .inl o_code33_42)), (a6, .inl (E.2 0, 12, .inl o_middles33_43)), (a7, .inl (E.2 0, 13, .inl o_starts33_44)), (a8, .inl (E.2 0, 200, .inl s_tape_bytes))] : va_W) ++ kpool E G) := hV67.subP [0, 1, 2, 8, 3, 4, 5, 6, 7] rfl rfl
        clear hV67
        refine lv_aload_nN hx hb dX11_way_44 rfl (lv_at hl61 0 rfl) ?_
        refine lv_ifnonnullN hx hb dX11_way_45 ?_
        refine lv_aload_n hx hb dX11_way_48 rfl (lv_at hl61 1 rfl) ?_
        refine kget X hV71 (ci := 11) inlX11 rfl 0 rfl 1 (by decide) mw_19 rfl dX11_way_49 ?_
        obtain ⟨r52_72, hc73, h74⟩ := cb1_s h64
        clear h64
        have hY75 : kV E A s.heap _ _ ((([(a2, .inr (6, [.ref a5, .ref a7, .ref a6, .ref a8, .int o_length33_38, .int o_at33_39, .int o_used33_40, .int o_fault33_41]))] : va_W) ++ ([(a0, .inr (11, [.ref a3, .ref a2, w0_2, .ref a1, .ref a4, w0_5, w0_6, w0_7, w0_8])), (a1, .inr (4, [w1_0, w1_1, w1_2, w1_3, w1_4, .int s_page_readers, w1_6])), (a3, .inr (9, [.ref a8, .int o_length41_62])), (a4, .inl (E.2 4, 4, .inr (.inr (.inr (.inr ((kgW G))))))), (a5, .inl (E.2 0, 120, .inl o_code33_42)), (a6, .inl (E.2 0, 12, .inl o_middles33_43)), (a7, .inl (E.2 0, 13, .inl o_starts33_44)), (a8, .inl (E.2 0, 200, .inl s_tape_bytes))] : va_W)) ++ kpool E G) := hV71.subP [2, 0, 1, 3, 4, 5, 6, 7, 8] rfl rfl
        have hY76 := hY75.swapT
        clear hY75
        refine kgoiT (krunV (rest := []) X hY76 (List.range _) (c_X6_faultCode l E _ a2 (.ref a5) (.ref a7) (.ref a6) (.ref a8) (.int o_length33_38) (.int o_used33_40) o_at33_39 o_fault33_41 r52_72 hc73) mw_453 kb_X6_faultCode (ci := 6) rfl rfl (kndR _) (krg _ _) rfl hl61.1 rfl (Nat.le_of_ble_eq_true rfl) dX11_way_52 (by decide)) X hY76 (fun u80 H locs hV77 => ?_)
        clear hY76 hV71
        have hV81 : kV E A s.heap H locs (([(a0, .inr (11, [.ref a3, .ref a2, w0_2, .ref a1, .ref a4, w0_5, w0_6, w0_7, w0_8])), (a1, .inr (4, [w1_0, w1_1, w1_2, w1_3, w1_4, .int s_page_readers, w1_6])), (a2, .inr (6, [.ref a5, .ref a7, .ref a6, .ref a8, .int o_length33_38, .int o_at33_39, .int o_used33_40, .int o_fault33_41])), (a3, .inr (9, [.ref a8, .int o_length41_62])), (a4, .inl (E.2 4, 4, .inr (.inr (.inr (.inr ((kgW G))))))), (a5, .inl (E.2 0, 120, .inl o_code33_42)), (a6, .inl (E.2 0, 12, .inl o_middles33_43)), (a7, .inl (E.2 0, 13, .inl o_starts33_44)), (a8, .inl (E.2 0, 200, .inl s_tape_bytes))] : va_W) ++ kpool E G) := hV77.subP [0, 1, 8, 2, 3, 4, 5, 6, 7] rfl rfl
        clear hV77
        obtain ⟨q82, q83, q84, q85, q86, q87, q88, q89, q90, q91, q92⟩ := tup11_s h74
        clear h74
        exact hret _ (G, .ref a8) _ _ _ _ ⟨q82, (by rw [← q92]; exact rfl)⟩ rfl (by rw [← q83, ← q84, ← q85, ← q86, ← q87, ← q88, ← q89, ← q90, ← q91]; exact hV81) dX11_way_55
      · obtain ⟨ta59, rfl⟩ := ktS hp51.2 hv57
        have hV93 : kV E A s.heap H locs (([(a0, .inr (11, [.ref a3, .ref a2, w0_2, .ref a1, .ref a4, w0_5, w0_6, w0_7, w0_8])), (a1, .inr (4, [w1_0, w1_1, w1_2, w1_3, w1_4, .int s_page_readers, w1_6])), (a2, .inr (6, [.ref a5, .ref a7, .ref a6, .ref a8, .int o_length33_38, .int o_at33_39, .int o_used33_40, .int o_fault33_41])), (a3, .inr (9, [.ref a8, .int s_tape_length])), (a4, .inl (E.2 4, 4, .inr (.inr (.inr (.inr ((kgW G))))))), (a5, .inl (E.2 0, 120, .inl o_code33_42)), (a6, .inl (E.2 0, 12, .inl o_middles33_43)), (a7, .inl (E.2 0, 13, .inl o_starts33_44)), (a8, .inl (E.2 0, 200, .inl s_tape_bytes)), ((ta59.1), .inr (10, [.int (v_58.1), .ref (ta59.2.1), .ref (ta59.2.2.1), .ref (ta59.2.2.2)])), ((ta59.2.1), .inl (E.2 0, (v_58.2.1.1), .inl ((v_58.2.1.2)))), ((ta59.2.2.1), .inl (E.2 0, (v_58.2.2.1.1), .inl ((v_58.2.2.1.2)))), ((ta59.2.2.2), .inl (E.2 0, (v_58.2.2.2.1), .inl ((v_58.2.2.2.2))))] : va_W) ++ kpool E G) := hV50.subP [0, 1, 4, 2, 3, 6, 7, 8, 5, 9, 10, 11, 12] rfl rfl
        refine ktopq hp51.1.symm ?_
        refine W.eq (g2 := F0 m 36 ls [.ref (ta59.1)]) rfl ?_
        refine lv_astore_n (lv' := [(3, .ref (ta59.1)), (0, .ref a0), (1, .int p1), (2, .int p2)]) hx hb dX11_way_36 rfl hl (by decide) rfl (fun ls hl94 => ?_)
        clear hl
        refine lv_aload_n hx hb dX11_way_37 rfl (lv_at hl94 1 rfl) ?_
        refine kget X hV93 (ci := 11) inlX11 rfl 0 rfl 0 (by decide) mw_15 rfl dX11_way_38 ?_
        obtain ⟨o_length41_95, hc96, h97⟩ := cb1_s h56
        clear h56
        have hY98 : kV E A s.heap _ _ ((([(a3, .inr (9, [.ref a8, .int s_tape_length]))] : va_W) ++ ([(a0, .inr (11, [.ref a3, .ref a2, w0_2, .ref a1, .ref a4, w0_5, w0_6, w0_7, w0_8])), (a1, .inr (4, [w1_0, w1_1, w1_2, w1_3, w1_4, .int s_page_readers, w1_6])), (a2, .inr (6, [.ref a5, .ref a7, .ref a6, .ref a8, .int o_length33_38, .int o_at33_39, .int o_used33_40, .int o_fault33_41])), (a4, .inl (E.2 4, 4, .inr (.inr (.inr (.inr ((kgW G))))))), (a5, .inl (E.2 0, 120, .inl o_code33_42)), (a6, .inl (E.2 0, 12, .inl o_middles33_43)), (a7, .inl (E.2 0, 13, .inl o_starts33_44)), (a8, .inl (E.2 0, 200, .inl s_tape_bytes)), ((ta59.1), .inr (10, [.int (v_58.1), .ref (ta59.2.1), .ref (ta59.2.2.1), .ref (ta59.2.2.2)])), ((ta59.2.1), .inl (E.2 0, (v_58.2.1.1), .inl ((v_58.2.1.2)))), ((ta59.2.2.1), .inl (E.2 0, (v_58.2.2.1.1), .inl ((v_58.2.2.1.2)))), ((ta59.2.2.2), .inl (E.2 0, (v_58.2.2.2.1), .inl ((v_58.2.2.2.2))))] : va_W)) ++ kpool E G) := hV93.subP [3, 0, 1, 2, 4, 5, 6, 7, 8, 9, 10, 11, 12] rfl rfl
        have hY99 := hY98.swapT
        clear hY98
        refine kgovT (krunV (rest := []) X hY99 (List.range _) (c_X9_clear l E _ a3 (.ref a8) s_tape_length o_length41_95 hc96) mw_449 kb_X9_clear (ci := 9) rfl rfl (kndR _) (krg _ _) rfl hl94.1 rfl (Nat.le_of_ble_eq_true rfl) dX11_way_41 (by decide)) X hY99 (fun u103 H locs hV100 => ?_)
        clear hY99 hV93
        have hV104 : kV E A s.heap H locs (([(a0, .inr (11, [.ref a3, .ref a2, w0_2, .ref a1, .ref a4, w0_5, w0_6, w0_7, w0_8])), (a1, .inr (4, [w1_0, w1_1, w1_2, w1_3, w1_4, .int s_page_readers, w1_6])), (a2, .inr (6, [.ref a5, .ref a7, .ref a6, .ref a8, .int o_length33_38, .int o_at33_39, .int o_used33_40, .int o_fault33_41])), (a3, .inr (9, [.ref a8, .int o_length41_95])), (a4, .inl (E.2 4, 4, .inr (.inr (.inr (.inr ((kgW G))))))), (a5, .inl (E.2 0, 120, .inl o_code33_42)), (a6, .inl (E.2 0, 12, .inl o_middles33_43)), (a7, .inl (E.2 0, 13, .inl o_starts33_44)), (a8, .inl (E.2 0, 200, .inl s_tape_bytes)), ((ta59.1), .inr (10, [.int (v_58.1), .ref (ta59.2.1), .ref (ta59.2.2.1), .ref (ta59.2.2.2)])), ((ta59.2.1), .inl (E.2 0, (v_58.2.1.1), .inl ((v_58.2.1.2)))), ((ta59.2.2.1), .inl (E.2 0, (v_58.2.2.1.1), .inl ((v_58.2.2.1.2)))), ((ta59.2.2.2), .inl (E.2 0, (v_58.2.2.2.1), .inl ((v_58.2.2.2.2))))] : va_W) ++ kpool E G) := hV100.subP [0, 1, 2, 12, 3, 4, 5, 6, 7, 8, 9, 10, 11] rfl rfl
        clear hV100
        refine lv_aload_n hx hb dX11_way_44 rfl (lv_at hl94 0 rfl) ?_
        refine lv_ifnonnull (tgt := 56) hx hb dX11_way_45 (by decide) ?_
        refine lv_aload_n hx hb dX11_way_56 rfl (lv_at hl94 1 rfl) ?_
        refine kget X hV104 (ci := 11) inlX11 rfl 0 rfl 3 (by decide) mw_27 rfl dX11_way_57 ?_
        refine lv_iload_n hx hb dX11_way_60 rfl (lv_at hl94 2 rfl) ?_
        obtain ⟨o_readers61_105, hc106, h107⟩ := cb1_s h97
        clear h97
        have hY108 : kV E A s.heap _ _ ((([(a1, .inr (4, [w1_0, w1_1, w1_2, w1_3, w1_4, .int s_page_readers, w1_6]))] : va_W) ++ ([(a0, .inr (11, [.ref a3, .ref a2, w0_2, .ref a1, .ref a4, w0_5, w0_6, w0_7, w0_8])), (a2, .inr (6, [.ref a5, .ref a7, .ref a6, .ref a8, .int o_length33_38, .int o_at33_39, .int o_used33_40, .int o_fault33_41])), (a3, .inr (9, [.ref a8, .int o_length41_95])), (a4, .inl (E.2 4, 4, .inr (.inr (.inr (.inr ((kgW G))))))), (a5, .inl (E.2 0, 120, .inl o_code33_42)), (a6, .inl (E.2 0, 12, .inl o_middles33_43)), (a7, .inl (E.2 0, 13, .inl o_starts33_44)), (a8, .inl (E.2 0, 200, .inl s_tape_bytes)), ((ta59.1), .inr (10, [.int (v_58.1), .ref (ta59.2.1), .ref (ta59.2.2.1), .ref (ta59.2.2.2)])), ((ta59.2.1), .inl (E.2 0, (v_58.2.1.1), .inl ((v_58.2.1.2)))), ((ta59.2.2.1), .inl (E.2 0, (v_58.2.2.1.1), .inl ((v_58.2.2.1.2)))), ((ta59.2.2.2), .inl (E.2 0, (v_58.2.2.2.1), .inl ((v_58.2.2.2.2))))] : va_W)) ++ kpool E G) := hV104.subP [1, 0, 2, 3, 4, 5, 6, 7, 8, 9, 10, 11, 12] rfl rfl
        have hY109 := hY108.swapT
        clear hY108
        refine kgovT (krunV (rest := []) X hY109 (List.range _) (c_X4_forgetReader l E _ a1 (w1_0) (w1_1) (w1_2) (w1_3) (w1_4) (w1_6) s_page_readers p1 o_readers61_105 hc106) mw_587 kb_X4_forgetReader (ci := 4) rfl rfl (kndR _) (krg _ _) rfl hl94.1 rfl (Nat.le_of_ble_eq_true rfl) dX11_way_61 (by decide)) X hY109 (fun u113 H locs hV110 => ?_)
        clear hY109 hV104
        have hV114 : kV E A s.heap H locs (([(a0, .inr (11, [.ref a3, .ref a2, w0_2, .ref a1, .ref a4, w0_5, w0_6, w0_7, w0_8])), (a1, .inr (4, [w1_0, w1_1, w1_2, w1_3, w1_4, .int o_readers61_105, w1_6])), (a2, .inr (6, [.ref a5, .ref a7, .ref a6, .ref a8, .int o_length33_38, .int o_at33_39, .int o_used33_40, .int o_fault33_41])), (a3, .inr (9, [.ref a8, .int o_length41_95])), (a4, .inl (E.2 4, 4, .inr (.inr (.inr (.inr ((kgW G))))))), (a5, .inl (E.2 0, 120, .inl o_code33_42)), (a6, .inl (E.2 0, 12, .inl o_middles33_43)), (a7, .inl (E.2 0, 13, .inl o_starts33_44)), (a8, .inl (E.2 0, 200, .inl s_tape_bytes)), ((ta59.1), .inr (10, [.int (v_58.1), .ref (ta59.2.1), .ref (ta59.2.2.1), .ref (ta59.2.2.2)])), ((ta59.2.1), .inl (E.2 0, (v_58.2.1.1), .inl ((v_58.2.1.2)))), ((ta59.2.2.1), .inl (E.2 0, (v_58.2.2.1.1), .inl ((v_58.2.2.1.2)))), ((ta59.2.2.2), .inl (E.2 0, (v_58.2.2.2.1), .inl ((v_58.2.2.2.2))))] : va_W) ++ kpool E G) := hV110.subP [0, 12, 1, 2, 3, 4, 5, 6, 7, 8, 9, 10, 11] rfl rfl
        clear hV110
        refine lv_aload_n hx hb dX11_way_64 rfl (lv_at hl94 1 rfl) ?_
        refine kget X hV114 (ci := 11) inlX11 rfl 0 rfl 4 (by decide) mw_29 rfl dX11_way_65 ?_
        refine lv_iload_n hx hb dX11_way_68 rfl (lv_at hl94 2 rfl) ?_
        refine lv_aload_n hx hb dX11_way_69 rfl (lv_at hl94 0 rfl) ?_
        obtain ⟨hi115, h116⟩ := gdN_s h107
        clear h107
        refine kaast X hV114 4 4 9 10 rfl rfl rfl rfl hi115 rfl dX11_way_70 (fun H locs hV117 => ?_)
        have hV117 : kV E A s.heap H locs (([(a0, .inr (11, [.ref a3, .ref a2, w0_2, .ref a1, .ref a4, w0_5, w0_6, w0_7, w0_8])), (a1, .inr (4, [w1_0, w1_1, w1_2, w1_3, w1_4, .int o_readers61_105, w1_6])), (a2, .inr (6, [.ref a5, .ref a7, .ref a6, .ref a8, .int o_length33_38, .int o_at33_39, .int o_used33_40, .int o_fault33_41])), (a3, .inr (9, [.ref a8, .int o_length41_95])), (a4, .inl (E.2 4, 4, .inr (.inr (.inr (.inr ((va_up (kgW G) (Int32.toNatClampNeg p1) (some (ta59.1))))))))), (a5, .inl (E.2 0, 120, .inl o_code33_42)), (a6, .inl (E.2 0, 12, .inl o_middles33_43)), (a7, .inl (E.2 0, 13, .inl o_starts33_44)), (a8, .inl (E.2 0, 200, .inl s_tape_bytes)), ((ta59.1), .inr (10, [.int (v_58.1), .ref (ta59.2.1), .ref (ta59.2.2.1), .ref (ta59.2.2.2)])), ((ta59.2.1), .inl (E.2 0, (v_58.2.1.1), .inl ((v_58.2.1.2)))), ((ta59.2.2.1), .inl (E.2 0, (v_58.2.2.1.1), .inl ((v_58.2.2.1.2)))), ((ta59.2.2.2), .inl (E.2 0, (v_58.2.2.2.1), .inl ((v_58.2.2.2.2))))] : va_W) ++ kpool E G) := hV117
        clear hV114
        refine lv_aload_n hx hb dX11_way_71 rfl (lv_at hl94 0 rfl) ?_
        refine kget X hV117 (ci := 10) inlX10 rfl 9 rfl 0 (by decide) mw_262 rfl dX11_way_72 ?_
        obtain ⟨q118, q119, q120, q121, q122, q123, q124, q125, q126, q127, q128⟩ := tup11_s h116
        clear h116
        have hk20 : (10 + Int32.toNatClampNeg p1) < 20 := by have := kvn hi115; omega
        have hV129 : kV E A s.heap _ _ ((([(a0, .inr (11, [.ref a3, .ref a2, w0_2, .ref a1, .ref a4, w0_5, w0_6, w0_7, w0_8])), (a1, .inr (4, [w1_0, w1_1, w1_2, w1_3, w1_4, .int o_readers61_105, w1_6])), (a2, .inr (6, [.ref a5, .ref a7, .ref a6, .ref a8, .int o_length33_38, .int o_at33_39, .int o_used33_40, .int o_fault33_41])), (a3, .inr (9, [.ref a8, .int o_length41_95])), (a4, .inl (E.2 4, 4, .inr (.inr (.inr (.inr ((va_up (kgW G) (Int32.toNatClampNeg p1) (some (ta59.1))))))))), (a5, .inl (E.2 0, 120, .inl o_code33_42)), (a6, .inl (E.2 0, 12, .inl o_middles33_43)), (a7, .inl (E.2 0, 13, .inl o_starts33_44)), (a8, .inl (E.2 0, 200, .inl s_tape_bytes))] : va_W) ++ ktc E (ta59, v_58)) ++ kpool E G) := hV117.subP [0, 1, 2, 3, 4, 5, 6, 7, 8, 9, 10, 11, 12] rfl rfl
        have hV130 := kclT' hk20 (by omega) (kdrT hk20 hV129)
        rw [show (va_up (kgW G) (Int32.toNatClampNeg p1) (some (ta59.1))) = kgW (kuT G (10 + Int32.toNatClampNeg p1) (ta59, v_58)) from kgWup (t := (ta59, v_58))] at hV130
        exact hret _ (kuT G (10 + Int32.toNatClampNeg p1) (ta59, v_58), .ref a8) _ _ _ _ ⟨q118, (by rw [← q128]; exact ⟨ta59, rfl⟩)⟩ rfl (by rw [← q119, ← q120, ← q121, ← q122, ← q123, ← q124, ← q125, ← q126, ← q127]; exact hV130) dX11_way_75
    · have h37 := itS c35 h27
      clear h27 c35
      refine lv_iconst (v := (-1)) hx hb dX11_way_17 (by decide) ?_
      obtain ⟨q131, q132, q133, q134, q135, q136, q137, q138, q139, q140, q141⟩ := tup11_s h37
      clear h37
      refine W.widen (k := 4) (n := 149) (by decide) (by decide) ?_
      exact hret _ (G, w2_3) _ _ _ _ ⟨q131, (by rw [← q141]; exact rfl)⟩ rfl (by rw [← q132, ← q133, ← q134, ← q135, ← q136, ← q137, ← q138, ← q139, ← q140]; exact hV34) dX11_way_18
noncomputable def f_X11_story (G : kG) (s_scribe_length : Int32) (s_scribe_at : Int32) (s_scribe_used : Int32) (s_scribe_fault : Int32) (s_tape_length : Int32) (s_scribe_code : Nat → Int32) (s_scribe_middles : Nat → Int32) (s_scribe_starts : Nat → Int32) (s_tape_bytes : Nat → Int32) (p1 : Int32) (p2 : Int32) : Option (Int32 × Int32 × Int32 × Int32 × Int32 × Int32 × (Nat → Int32) × (Nat → Int32) × (Nat → Int32) × Option (Nat × kTv)) :=
    cb1 (f_X11_isStory p1) fun r1_1 =>
    if r1_1 = 0 then
    (some ((-1), s_scribe_length, s_scribe_at, s_scribe_used, s_scribe_fault, s_tape_length, s_scribe_code, s_scribe_middles, s_scribe_starts, none))
    else
    (cb1 (f_X11_tapeHas s_tape_length p2 60) fun r11_24 =>
      if r11_24 = 0 then
      (some ((-1), s_scribe_length, s_scribe_at, s_scribe_used, s_scribe_fault, s_tape_length, s_scribe_code, s_scribe_middles, s_scribe_starts, none))
      else
      (cb8 (f_X6_writeExpression 200 s_scribe_length s_scribe_at s_scribe_used s_scribe_fault s_tape_bytes s_scribe_code s_scribe_middles s_scribe_starts p2) fun o_length31_37 o_at31_38 o_used31_39 o_fault31_40 o_code31_41 o_middles31_42 o_starts31_43 nt31_44 =>
        oN nt31_44
        (cb1 (f_X9_clear s_tape_length) fun o_length39_61 =>
          cb1 (f_X6_faultCode o_at31_38 o_fault31_40) fun r50_71 =>
          some (r50_71, o_length31_37, o_at31_38, o_used31_39, o_fault31_40, o_length39_61, o_code31_41, o_middles31_42, o_starts31_43, none))
        fun v_57 =>
        (cb1 (f_X9_clear s_tape_length) fun o_length39_93 =>
          gdN 6 p1 <|
          some ((v_57.1), o_length31_37, o_at31_38, o_used31_39, o_fault31_40, o_length39_93, o_code31_41, o_middles31_42, o_starts31_43, (some ((14 + Int32.toNatClampNeg p1), v_57))))))
abbrev r_X11_story : Room := { frames := 112, cells := 4, slots := 149, locals := 7048 }
set_option maxHeartbeats 4000000 in
set_option maxRecDepth 100000 in
theorem c_X11_story (l : Launch) (E : kE) (sz : Nat) (a0 a1 a2 a3 a4 a5 a6 a7 a8 : Nat) (w0_2 w0_3 w0_4 w0_5 w0_6 w0_8 w1_0 w1_1 w1_2 w1_3 w1_5 w2_3 : Value) (G : kG) (s_scribe_length : Int32) (s_scribe_at : Int32) (s_scribe_used : Int32) (s_scribe_fault : Int32) (s_tape_length : Int32) (s_scribe_code : Nat → Int32) (s_scribe_middles : Nat → Int32) (s_scribe_starts : Nat → Int32) (s_tape_bytes : Nat → Int32) (p1 : Int32) (p2 : Int32) (r : Int32) (o_scribe_length : Int32) (o_scribe_at : Int32) (o_scribe_used : Int32) (o_scribe_fault : Int32) (o_tape_length : Int32) (o_scribe_code : Nat → Int32) (o_scribe_middles : Nat → Int32) (o_scribe_starts : Nat → Int32) (nt : Option (Nat × kTv)) (h : f_X11_story G s_scribe_length s_scribe_at s_scribe_used s_scribe_fault s_tape_length s_scribe_code s_scribe_middles s_scribe_starts s_tape_bytes p1 p2 = some (r, o_scribe_length, o_scribe_at, o_scribe_used, o_scribe_fault, o_tape_length, o_scribe_code, o_scribe_middles, o_scribe_starts, nt)) : kMi l yX11_story cX11_story 4 (some .int) r_X11_story [.ref a0, .int p1, .int p2] E (([(a0, .inr (11, [.ref a3, .ref a2, w0_2, w0_3, w0_4, w0_5, w0_6, .ref a1, w0_8])), (a1, .inr (2, [w1_0, w1_1, w1_2, w1_3, .ref a4, w1_5])), (a2, .inr (6, [.ref a5, .ref a7, .ref a6, w2_3, .int s_scribe_length, .int s_scribe_at, .int s_scribe_used, .int s_scribe_fault])), (a3, .inr (9, [.ref a8, .int s_tape_length])), (a4, .inl (E.2 4, 6, .inr (.inr (.inr (.inr ((kgT G))))))), (a5, .inl (E.2 0, 120, .inl s_scribe_code)), (a6, .inl (E.2 0, 12, .inl s_scribe_middles)), (a7, .inl (E.2 0, 13, .inl s_scribe_starts)), (a8, .inl (E.2 0, 200, .inl s_tape_bytes))] : va_W) ++ kpool E G) sz 4 149 (fun x (u : kG × Value) => x = r ∧ kGT G nt u.1) (fun u => (([(a0, .inr (11, [.ref a3, .ref a2, w0_2, w0_3, w0_4, w0_5, w0_6, .ref a1, w0_8])), (a1, .inr (2, [w1_0, w1_1, w1_2, w1_3, .ref a4, w1_5])), (a2, .inr (6, [.ref a5, .ref a7, .ref a6, u.2, .int o_scribe_length, .int o_scribe_at, .int o_scribe_used, .int o_scribe_fault])), (a3, .inr (9, [.ref a8, .int o_tape_length])), (a4, .inl (E.2 4, 6, .inr (.inr (.inr (.inr ((kgT u.1))))))), (a5, .inl (E.2 0, 120, .inl o_scribe_code)), (a6, .inl (E.2 0, 12, .inl o_scribe_middles)), (a7, .inl (E.2 0, 13, .inl o_scribe_starts)), (a8, .inl (E.2 0, 200, .inl s_tape_bytes))] : va_W) ++ kpool E u.1)) := by
  refine kmeti rfl (Nat.le_of_ble_eq_true rfl) ?_
  intro p e s m args below meth c ls A Q X hV hret hl
  have X : kC p s m c cX11_story 4 RX11 args E A := X
  have hx := X.1
  have hb := X.2.1
  have hl : lv_has ls 4 [(0, .ref a0), (1, .int p1), (2, .int p2)] := hl
  rw [f_X11_story] at h
  refine lv_iload_n hx hb dX11_story_0 rfl (lv_at hl 1 rfl) ?_
  obtain ⟨r1_1, hc2, h3⟩ := cb1_s h
  clear h
  have hY4 : kV E A s.heap _ _ (([] ++ ([(a0, .inr (11, [.ref a3, .ref a2, w0_2, w0_3, w0_4, w0_5, w0_6, .ref a1, w0_8])), (a1, .inr (2, [w1_0, w1_1, w1_2, w1_3, .ref a4, w1_5])), (a2, .inr (6, [.ref a5, .ref a7, .ref a6, w2_3, .int s_scribe_length, .int s_scribe_at, .int s_scribe_used, .int s_scribe_fault])), (a3, .inr (9, [.ref a8, .int s_tape_length])), (a4, .inl (E.2 4, 6, .inr (.inr (.inr (.inr ((kgT G))))))), (a5, .inl (E.2 0, 120, .inl s_scribe_code)), (a6, .inl (E.2 0, 12, .inl s_scribe_middles)), (a7, .inl (E.2 0, 13, .inl s_scribe_starts)), (a8, .inl (E.2 0, 200, .inl s_tape_bytes))] : va_W)) ++ kpool E G) := hV.subP [0, 1, 2, 3, 4, 5, 6, 7, 8] rfl rfl
  have hY5 := hY4.swapT
  clear hY4
  refine kgoiT (krunS (rest := []) X hY5 (List.range _) (c_X11_isStory l E _ p1 r1_1 hc2) mw_603 kb_X11_isStory (kndR _) (krg _ _) rfl hl.1 rfl (Nat.le_of_ble_eq_true rfl) dX11_story_1 (by decide)) X hY5 (fun u9 H locs hV6 => ?_)
  clear hY5 hV
  have hV10 : kV E A s.heap H locs (([(a0, .inr (11, [.ref a3, .ref a2, w0_2, w0_3, w0_4, w0_5, w0_6, .ref a1, w0_8])), (a1, .inr (2, [w1_0, w1_1, w1_2, w1_3, .ref a4, w1_5])), (a2, .inr (6, [.ref a5, .ref a7, .ref a6, w2_3, .int s_scribe_length, .int s_scribe_at, .int s_scribe_used, .int s_scribe_fault])), (a3, .inr (9, [.ref a8, .int s_tape_length])), (a4, .inl (E.2 4, 6, .inr (.inr (.inr (.inr ((kgT G))))))), (a5, .inl (E.2 0, 120, .inl s_scribe_code)), (a6, .inl (E.2 0, 12, .inl s_scribe_middles)), (a7, .inl (E.2 0, 13, .inl s_scribe_starts)), (a8, .inl (E.2 0, 200, .inl s_tape_bytes))] : va_W) ++ kpool E G) := hV6.subP [0, 1, 2, 3, 4, 5, 6, 7, 8] rfl rfl
  clear hV6
  refine lv_if_eq (tgt := 17) hx hb dX11_story_4 (by decide) (fun c11 => ?_) (fun c11 => ?_)
  · have h12 := itS c11 h3
    clear h3 c11
    refine lv_iconst (v := (-1)) hx hb dX11_story_17 (by decide) ?_
    obtain ⟨q14, q15, q16, q17, q18, q19, q20, q21, q22, q23⟩ := tup10_s h12
    clear h12
    refine W.widen (k := 4) (n := 149) (by decide) (by decide) ?_
    exact hret _ (G, w2_3) _ _ _ _ ⟨q14, (by rw [← q23]; exact rfl)⟩ rfl (by rw [← q15, ← q16, ← q17, ← q18, ← q19, ← q20, ← q21, ← q22]; exact hV10) dX11_story_18
  · have h13 := ieS c11 h3
    clear h3 c11
    refine lv_aload_n hx hb dX11_story_7 rfl (lv_at hl 0 rfl) ?_
    refine lv_iload_n hx hb dX11_story_8 rfl (lv_at hl 2 rfl) ?_
    refine lv_bipush (v := 60) hx hb dX11_story_9 (by decide) ?_
    obtain ⟨r11_24, hc25, h26⟩ := cb1_s h13
    clear h13
    have hY27 : kV E A s.heap _ _ ((([(a0, .inr (11, [.ref a3, .ref a2, w0_2, w0_3, w0_4, w0_5, w0_6, .ref a1, w0_8])), (a3, .inr (9, [.ref a8, .int s_tape_length]))] : va_W) ++ ([(a1, .inr (2, [w1_0, w1_1, w1_2, w1_3, .ref a4, w1_5])), (a2, .inr (6, [.ref a5, .ref a7, .ref a6, w2_3, .int s_scribe_length, .int s_scribe_at, .int s_scribe_used, .int s_scribe_fault])), (a4, .inl (E.2 4, 6, .inr (.inr (.inr (.inr ((kgT G))))))), (a5, .inl (E.2 0, 120, .inl s_scribe_code)), (a6, .inl (E.2 0, 12, .inl s_scribe_middles)), (a7, .inl (E.2 0, 13, .inl s_scribe_starts)), (a8, .inl (E.2 0, 200, .inl s_tape_bytes))] : va_W)) ++ kpool E G) := hV10.subP [0, 3, 1, 2, 4, 5, 6, 7, 8] rfl rfl
    have hY28 := hY27.swapT
    clear hY27
    refine kgoiT (krunV (rest := []) X hY28 (List.range _) (c_X11_tapeHas l E _ a0 a3 (.ref a2) (w0_2) (w0_3) (w0_4) (w0_5) (w0_6) (.ref a1) (w0_8) (.ref a8) s_tape_length p2 60 r11_24 hc25) mw_267 kb_X11_tapeHas (ci := 11) rfl rfl (kndR _) (krg _ _) rfl hl.1 rfl (Nat.le_of_ble_eq_true rfl) dX11_story_11 (by decide)) X hY28 (fun u32 H locs hV29 => ?_)
    clear hY28 hV10
    have hV33 : kV E A s.heap H locs (([(a0, .inr (11, [.ref a3, .ref a2, w0_2, w0_3, w0_4, w0_5, w0_6, .ref a1, w0_8])), (a1, .inr (2, [w1_0, w1_1, w1_2, w1_3, .ref a4, w1_5])), (a2, .inr (6, [.ref a5, .ref a7, .ref a6, w2_3, .int s_scribe_length, .int s_scribe_at, .int s_scribe_used, .int s_scribe_fault])), (a3, .inr (9, [.ref a8, .int s_tape_length])), (a4, .inl (E.2 4, 6, .inr (.inr (.inr (.inr ((kgT G))))))), (a5, .inl (E.2 0, 120, .inl s_scribe_code)), (a6, .inl (E.2 0, 12, .inl s_scribe_middles)), (a7, .inl (E.2 0, 13, .inl s_scribe_starts)), (a8, .inl (E.2 0, 200, .inl s_tape_bytes))] : va_W) ++ kpool E G) := hV29.subP [7, 0, 1, 8, 2, 3, 4, 5, 6] rfl rfl
    clear hV29
    refine lv_if_ne (tgt := 19) hx hb dX11_story_14 (by decide) (fun c34 => ?_) (fun c34 => ?_)
    · have h35 := ieS c34 h26
      clear h26 c34
      refine lv_aload_n hx hb dX11_story_19 rfl (lv_at hl 0 rfl) ?_
      refine kget X hV33 (ci := 11) inlX11 rfl 0 rfl 1 (by decide) mw_19 rfl dX11_story_20 ?_
      refine lv_aload_n hx hb dX11_story_23 rfl (lv_at hl 0 rfl) ?_
      refine kget X hV33 (ci := 11) inlX11 rfl 0 rfl 0 (by decide) mw_15 rfl dX11_story_24 ?_
      refine kget X hV33 (ci := 9) inlX9 rfl 3 rfl 0 (by decide) mw_260 rfl dX11_story_27 ?_
      refine lv_iload_n hx hb dX11_story_30 rfl (lv_at hl 2 rfl) ?_
      obtain ⟨o_length31_37, o_at31_38, o_used31_39, o_fault31_40, o_code31_41, o_middles31_42, o_starts31_43, nt31_44, hc45, h46⟩ := cb8_s h35
      clear h35
      have hY47 : kV E A s.heap _ _ ((([(a2, .inr (6, [.ref a5, .ref a7, .ref a6, w2_3, .int s_scribe_length, .int s_scribe_at, .int s_scribe_used, .int s_scribe_fault])), (a8, .inl (E.2 0, 200, .inl s_tape_bytes)), (a5, .inl (E.2 0, 120, .inl s_scribe_code)), (a6, .inl (E.2 0, 12, .inl s_scribe_middles)), (a7, .inl (E.2 0, 13, .inl s_scribe_starts))] : va_W) ++ ([(a0, .inr (11, [.ref a3, .ref a2, w0_2, w0_3, w0_4, w0_5, w0_6, .ref a1, w0_8])), (a1, .inr (2, [w1_0, w1_1, w1_2, w1_3, .ref a4, w1_5])), (a3, .inr (9, [.ref a8, .int s_tape_length])), (a4, .inl (E.2 4, 6, .inr (.inr (.inr (.inr ((kgT G)))))))] : va_W)) ++ kpool E G) := hV33.subP [2, 8, 5, 6, 7, 0, 1, 3, 4] rfl rfl
      have hY48 := hY47.swapT
      clear hY47
      refine kgoqT (krunV (rest := []) X hY48 (List.range _) (c_X6_writeExpression l E _ a2 a8 a5 a6 a7 (w2_3) 200 s_scribe_length s_scribe_at s_scribe_used s_scribe_fault s_tape_bytes s_scribe_code s_scribe_middles s_scribe_starts p2 o_length31_37 o_at31_38 o_used31_39 o_fault31_40 o_code31_41 o_middles31_42 o_starts31_43 nt31_44 hc45) mw_606 kb_X6_writeExpression (ci := 6) rfl rfl (kndR _) (krg _ _) rfl hl.1 rfl (Nat.le_of_ble_eq_true rfl) dX11_story_31 (by decide)) X hY48 (fun x51 u52 H locs hp50 hV49 => ?_)
      clear hY48 hV33
      rcases oN_s h46 with ⟨hn53, h54⟩ | ⟨v_57, hv56, h55⟩
      · obtain rfl : u52 = none := ktN hp50.2 hn53
        have hV59 : kV E A s.heap H locs (([(a0, .inr (11, [.ref a3, .ref a2, w0_2, w0_3, w0_4, w0_5, w0_6, .ref a1, w0_8])), (a1, .inr (2, [w1_0, w1_1, w1_2, w1_3, .ref a4, w1_5])), (a2, .inr (6, [.ref a5, .ref a7, .ref a6, .ref a8, .int o_length31_37, .int o_at31_38, .int o_used31_39, .int o_fault31_40])), (a3, .inr (9, [.ref a8, .int s_tape_length])), (a4, .inl (E.2 4, 6, .inr (.inr (.inr (.inr ((kgT G))))))), (a5, .inl (E.2 0, 120, .inl o_code31_41)), (a6, .inl (E.2 0, 12, .inl o_middles31_42)), (a7, .inl (E.2 0, 13, .inl o_starts31_43)), (a8, .inl (E.2 0, 200, .inl s_tape_bytes))] : va_W) ++ kpool E G) := hV49.subP [0, 1, 4, 2, 3, 6, 7, 8, 5] rfl rfl
        refine ktopq hp50.1.symm ?_
        refine W.eq (g2 := F0 m 34 ls [.null]) rfl ?_
        refine lv_astore_nN (lv' := [(3, .null), (0, .ref a0), (1, .int p1), (2, .int p2)]) hx hb dX11_story_34 rfl hl (by decide) rfl (fun ls hl60 => ?_)
        clear hl
        refine lv_aload_n hx hb dX11_story_35 rfl (lv_at hl60 1 rfl) ?_
        refine kget X hV59 (ci := 11) inlX11 rfl 0 rfl 0 (by decide) mw_15 rfl dX11_story_36 ?_
        obtain ⟨o_length39_61, hc62, h63⟩ := cb1_s h54
        clear h54
        have hY64 : kV E A s.heap _ _ ((([(a3, .inr (9, [.ref a8, .int s_tape_length]))] : va_W) ++ ([(a0, .inr (11, [.ref a3, .ref a2, w0_2, w0_3, w0_4, w0_5, w0_6, .ref a1, w0_8])), (a1, .inr (2, [w1_0, w1_1, w1_2, w1_3, .ref a4, w1_5])), (a2, .inr (6, [.ref a5, .ref a7, .ref a6, .ref a8, .int o_length31_37, .int o_at31_38, .int o_used31_39, .int o_fault31_40])), (a4, .inl (E.2 4, 6, .inr (.inr (.inr (.inr ((kgT G))))))), (a5, .inl (E.2 0, 120, .inl o_code31_41)), (a6, .inl (E.2 0, 12, .inl o_middles31_42)), (a7, .inl (E.2 0, 13, .inl o_starts31_43)), (a8, .inl (E.2 0, 200, .inl s_tape_bytes))] : va_W)) ++ kpool E G) := hV59.subP [3, 0, 1, 2, 4, 5, 6, 7, 8] rfl rfl
        have hY65 := hY64.swapT
        clear hY64
        refine kgovT (krunV (rest := []) X hY65 (List.range _) (c_X9_clear l E _ a3 (.ref a8) s_tape_length o_length39_61 hc62) mw_449 kb_X9_clear (ci := 9) rfl rfl (kndR _) (krg _ _) rfl hl60.1 rfl (Nat.le_of_ble_eq_true rfl) dX11_story_39 (by decide)) X hY65 (fun u69 H locs hV66 => ?_)
        clear hY65 hV59
        have hV70 : kV E A s.heap H locs (([(a0, .inr (11, [.ref a3, .ref a2, w0_2, w0_3, w0_4, w0_5, w0_6, .ref a1, w0_8])), (a1, .inr (2, [w1_0, w1_1, w1_2, w1_3, .ref a4, w1_5])), (a2, .inr (6, [.ref a5, .ref a7, .ref a6, .ref a8, .int o_length31_37, .int o_at31_38, .int o_used31_39, .int o_fault31_40])), (a3, .inr (9, [.ref a8, .int o_length39_61])), (a4, .inl (E.2 4, 6, .inr (.inr (.inr (.inr ((kgT G))))))), (a5, .inl (E.2 0, 120, .inl o_code31_41)), (a6, .inl (E.2 0, 12, .inl o_middles31_42)), (a7, .inl (E.2 0, 13, .inl o_starts31_43)), (a8, .inl (E.2 0, 200, .inl s_tape_bytes))] : va_W) ++ kpool E G) := hV66.subP [0, 1, 2, 8, 3, 4, 5, 6, 7] rfl rfl
        clear hV66
        refine lv_aload_nN hx hb dX11_story_42 rfl (lv_at hl60 0 rfl) ?_
        refine lv_ifnonnullN hx hb dX11_story_43 ?_
        refine lv_aload_n hx hb dX11_story_46 rfl (lv_at hl60 1 rfl) ?_
        refine kget X hV70 (ci := 11) inlX11 rfl 0 rfl 1 (by decide) mw_19 rfl dX11_story_47 ?_
        obtain ⟨r50_71, hc72, h73⟩ := cb1_s h63
        clear h63
        have hY74 : kV E A s.heap _ _ ((([(a2, .inr (6, [.ref a5, .ref a7, .ref a6, .ref a8, .int o_length31_37, .int o_at31_38, .int o_used31_39, .int o_fault31_40]))] : va_W) ++ ([(a0, .inr (11, [.ref a3, .ref a2, w0_2, w0_3, w0_4, w0_5, w0_6, .ref a1, w0_8])), (a1, .inr (2, [w1_0, w1_1, w1_2, w1_3, .ref a4, w1_5])), (a3, .inr (9, [.ref a8, .int o_length39_61])), (a4, .inl (E.2 4, 6, .inr (.inr (.inr (.inr ((kgT G))))))), (a5, .inl (E.2 0, 120, .inl o_code31_41)), (a6, .inl (E.2 0, 12, .inl o_middles31_42)), (a7, .inl (E.2 0, 13, .inl o_starts31_43)), (a8, .inl (E.2 0, 200, .inl s_tape_bytes))] : va_W)) ++ kpool E G) := hV70.subP [2, 0, 1, 3, 4, 5, 6, 7, 8] rfl rfl
        have hY75 := hY74.swapT
        clear hY74
        refine kgoiT (krunV (rest := []) X hY75 (List.range _) (c_X6_faultCode l E _ a2 (.ref a5) (.ref a7) (.ref a6) (.ref a8) (.int o_length31_37) (.int o_used31_39) o_at31_38 o_fault31_40 r50_71 hc72) mw_453 kb_X6_faultCode (ci := 6) rfl rfl (kndR _) (krg _ _) rfl hl60.1 rfl (Nat.le_of_ble_eq_true rfl) dX11_story_50 (by decide)) X hY75 (fun u79 H locs hV76 => ?_)
        clear hY75 hV70
        have hV80 : kV E A s.heap H locs (([(a0, .inr (11, [.ref a3, .ref a2, w0_2, w0_3, w0_4, w0_5, w0_6, .ref a1, w0_8])), (a1, .inr (2, [w1_0, w1_1, w1_2, w1_3, .ref a4, w1_5])), (a2, .inr (6, [.ref a5, .ref a7, .ref a6, .ref a8, .int o_length31_37, .int o_at31_38, .int o_used31_39, .int o_fault31_40])), (a3, .inr (9, [.ref a8, .int o_length39_61])), (a4, .inl (E.2 4, 6, .inr (.inr (.inr (.inr ((kgT G))))))), (a5, .inl (E.2 0, 120, .inl o_code31_41)), (a6, .inl (E.2 0, 12, .inl o_middles31_42)), (a7, .inl (E.2 0, 13, .inl o_starts31_43)), (a8, .inl (E.2 0, 200, .inl s_tape_bytes))] : va_W) ++ kpool E G) := hV76.subP [0, 1, 8, 2, 3, 4, 5, 6, 7] rfl rfl
        clear hV76
        obtain ⟨q81, q82, q83, q84, q85, q86, q87, q88, q89, q90⟩ := tup10_s h73
        clear h73
        exact hret _ (G, .ref a8) _ _ _ _ ⟨q81, (by rw [← q90]; exact rfl)⟩ rfl (by rw [← q82, ← q83, ← q84, ← q85, ← q86, ← q87, ← q88, ← q89]; exact hV80) dX11_story_53
      · obtain ⟨ta58, rfl⟩ := ktS hp50.2 hv56
        have hV91 : kV E A s.heap H locs (([(a0, .inr (11, [.ref a3, .ref a2, w0_2, w0_3, w0_4, w0_5, w0_6, .ref a1, w0_8])), (a1, .inr (2, [w1_0, w1_1, w1_2, w1_3, .ref a4, w1_5])), (a2, .inr (6, [.ref a5, .ref a7, .ref a6, .ref a8, .int o_length31_37, .int o_at31_38, .int o_used31_39, .int o_fault31_40])), (a3, .inr (9, [.ref a8, .int s_tape_length])), (a4, .inl (E.2 4, 6, .inr (.inr (.inr (.inr ((kgT G))))))), (a5, .inl (E.2 0, 120, .inl o_code31_41)), (a6, .inl (E.2 0, 12, .inl o_middles31_42)), (a7, .inl (E.2 0, 13, .inl o_starts31_43)), (a8, .inl (E.2 0, 200, .inl s_tape_bytes)), ((ta58.1), .inr (10, [.int (v_57.1), .ref (ta58.2.1), .ref (ta58.2.2.1), .ref (ta58.2.2.2)])), ((ta58.2.1), .inl (E.2 0, (v_57.2.1.1), .inl ((v_57.2.1.2)))), ((ta58.2.2.1), .inl (E.2 0, (v_57.2.2.1.1), .inl ((v_57.2.2.1.2)))), ((ta58.2.2.2), .inl (E.2 0, (v_57.2.2.2.1), .inl ((v_57.2.2.2.2))))] : va_W) ++ kpool E G) := hV49.subP [0, 1, 4, 2, 3, 6, 7, 8, 5, 9, 10, 11, 12] rfl rfl
        refine ktopq hp50.1.symm ?_
        refine W.eq (g2 := F0 m 34 ls [.ref (ta58.1)]) rfl ?_
        refine lv_astore_n (lv' := [(3, .ref (ta58.1)), (0, .ref a0), (1, .int p1), (2, .int p2)]) hx hb dX11_story_34 rfl hl (by decide) rfl (fun ls hl92 => ?_)
        clear hl
        refine lv_aload_n hx hb dX11_story_35 rfl (lv_at hl92 1 rfl) ?_
        refine kget X hV91 (ci := 11) inlX11 rfl 0 rfl 0 (by decide) mw_15 rfl dX11_story_36 ?_
        obtain ⟨o_length39_93, hc94, h95⟩ := cb1_s h55
        clear h55
        have hY96 : kV E A s.heap _ _ ((([(a3, .inr (9, [.ref a8, .int s_tape_length]))] : va_W) ++ ([(a0, .inr (11, [.ref a3, .ref a2, w0_2, w0_3, w0_4, w0_5, w0_6, .ref a1, w0_8])), (a1, .inr (2, [w1_0, w1_1, w1_2, w1_3, .ref a4, w1_5])), (a2, .inr (6, [.ref a5, .ref a7, .ref a6, .ref a8, .int o_length31_37, .int o_at31_38, .int o_used31_39, .int o_fault31_40])), (a4, .inl (E.2 4, 6, .inr (.inr (.inr (.inr ((kgT G))))))), (a5, .inl (E.2 0, 120, .inl o_code31_41)), (a6, .inl (E.2 0, 12, .inl o_middles31_42)), (a7, .inl (E.2 0, 13, .inl o_starts31_43)), (a8, .inl (E.2 0, 200, .inl s_tape_bytes)), ((ta58.1), .inr (10, [.int (v_57.1), .ref (ta58.2.1), .ref (ta58.2.2.1), .ref (ta58.2.2.2)])), ((ta58.2.1), .inl (E.2 0, (v_57.2.1.1), .inl ((v_57.2.1.2)))), ((ta58.2.2.1), .inl (E.2 0, (v_57.2.2.1.1), .inl ((v_57.2.2.1.2)))), ((ta58.2.2.2), .inl (E.2 0, (v_57.2.2.2.1), .inl ((v_57.2.2.2.2))))] : va_W)) ++ kpool E G) := hV91.subP [3, 0, 1, 2, 4, 5, 6, 7, 8, 9, 10, 11, 12] rfl rfl
        have hY97 := hY96.swapT
        clear hY96
        refine kgovT (krunV (rest := []) X hY97 (List.range _) (c_X9_clear l E _ a3 (.ref a8) s_tape_length o_length39_93 hc94) mw_449 kb_X9_clear (ci := 9) rfl rfl (kndR _) (krg _ _) rfl hl92.1 rfl (Nat.le_of_ble_eq_true rfl) dX11_story_39 (by decide)) X hY97 (fun u101 H locs hV98 => ?_)
        clear hY97 hV91
        have hV102 : kV E A s.heap H locs (([(a0, .inr (11, [.ref a3, .ref a2, w0_2, w0_3, w0_4, w0_5, w0_6, .ref a1, w0_8])), (a1, .inr (2, [w1_0, w1_1, w1_2, w1_3, .ref a4, w1_5])), (a2, .inr (6, [.ref a5, .ref a7, .ref a6, .ref a8, .int o_length31_37, .int o_at31_38, .int o_used31_39, .int o_fault31_40])), (a3, .inr (9, [.ref a8, .int o_length39_93])), (a4, .inl (E.2 4, 6, .inr (.inr (.inr (.inr ((kgT G))))))), (a5, .inl (E.2 0, 120, .inl o_code31_41)), (a6, .inl (E.2 0, 12, .inl o_middles31_42)), (a7, .inl (E.2 0, 13, .inl o_starts31_43)), (a8, .inl (E.2 0, 200, .inl s_tape_bytes)), ((ta58.1), .inr (10, [.int (v_57.1), .ref (ta58.2.1), .ref (ta58.2.2.1), .ref (ta58.2.2.2)])), ((ta58.2.1), .inl (E.2 0, (v_57.2.1.1), .inl ((v_57.2.1.2)))), ((ta58.2.2.1), .inl (E.2 0, (v_57.2.2.1.1), .inl ((v_57.2.2.1.2)))), ((ta58.2.2.2), .inl (E.2 0, (v_57.2.2.2.1), .inl ((v_57.2.2.2.2))))] : va_W) ++ kpool E G) := hV98.subP [0, 1, 2, 12, 3, 4, 5, 6, 7, 8, 9, 10, 11] rfl rfl
        clear hV98
        refine lv_aload_n hx hb dX11_story_42 rfl (lv_at hl92 0 rfl) ?_
        refine lv_ifnonnull (tgt := 54) hx hb dX11_story_43 (by decide) ?_
        refine lv_aload_n hx hb dX11_story_54 rfl (lv_at hl92 1 rfl) ?_
        refine kget X hV102 (ci := 11) inlX11 rfl 0 rfl 7 (by decide) mw_41 rfl dX11_story_55 ?_
        refine kget X hV102 (ci := 2) inlX2 rfl 1 rfl 4 (by decide) mw_602 rfl dX11_story_58 ?_
        refine lv_iload_n hx hb dX11_story_61 rfl (lv_at hl92 2 rfl) ?_
        refine lv_aload_n hx hb dX11_story_62 rfl (lv_at hl92 0 rfl) ?_
        obtain ⟨hi103, h104⟩ := gdN_s h95
        clear h95
        refine kaast X hV102 4 4 9 10 rfl rfl rfl rfl hi103 rfl dX11_story_63 (fun H locs hV105 => ?_)
        have hV105 : kV E A s.heap H locs (([(a0, .inr (11, [.ref a3, .ref a2, w0_2, w0_3, w0_4, w0_5, w0_6, .ref a1, w0_8])), (a1, .inr (2, [w1_0, w1_1, w1_2, w1_3, .ref a4, w1_5])), (a2, .inr (6, [.ref a5, .ref a7, .ref a6, .ref a8, .int o_length31_37, .int o_at31_38, .int o_used31_39, .int o_fault31_40])), (a3, .inr (9, [.ref a8, .int o_length39_93])), (a4, .inl (E.2 4, 6, .inr (.inr (.inr (.inr ((va_up (kgT G) (Int32.toNatClampNeg p1) (some (ta58.1))))))))), (a5, .inl (E.2 0, 120, .inl o_code31_41)), (a6, .inl (E.2 0, 12, .inl o_middles31_42)), (a7, .inl (E.2 0, 13, .inl o_starts31_43)), (a8, .inl (E.2 0, 200, .inl s_tape_bytes)), ((ta58.1), .inr (10, [.int (v_57.1), .ref (ta58.2.1), .ref (ta58.2.2.1), .ref (ta58.2.2.2)])), ((ta58.2.1), .inl (E.2 0, (v_57.2.1.1), .inl ((v_57.2.1.2)))), ((ta58.2.2.1), .inl (E.2 0, (v_57.2.2.1.1), .inl ((v_57.2.2.1.2)))), ((ta58.2.2.2), .inl (E.2 0, (v_57.2.2.2.1), .inl ((v_57.2.2.2.2))))] : va_W) ++ kpool E G) := hV105
        clear hV102
        refine lv_aload_n hx hb dX11_story_64 rfl (lv_at hl92 0 rfl) ?_
        refine kget X hV105 (ci := 10) inlX10 rfl 9 rfl 0 (by decide) mw_262 rfl dX11_story_65 ?_
        obtain ⟨q106, q107, q108, q109, q110, q111, q112, q113, q114, q115⟩ := tup10_s h104
        clear h104
        have hk20 : (14 + Int32.toNatClampNeg p1) < 20 := by have := kvn hi103; omega
        have hV116 : kV E A s.heap _ _ ((([(a0, .inr (11, [.ref a3, .ref a2, w0_2, w0_3, w0_4, w0_5, w0_6, .ref a1, w0_8])), (a1, .inr (2, [w1_0, w1_1, w1_2, w1_3, .ref a4, w1_5])), (a2, .inr (6, [.ref a5, .ref a7, .ref a6, .ref a8, .int o_length31_37, .int o_at31_38, .int o_used31_39, .int o_fault31_40])), (a3, .inr (9, [.ref a8, .int o_length39_93])), (a4, .inl (E.2 4, 6, .inr (.inr (.inr (.inr ((va_up (kgT G) (Int32.toNatClampNeg p1) (some (ta58.1))))))))), (a5, .inl (E.2 0, 120, .inl o_code31_41)), (a6, .inl (E.2 0, 12, .inl o_middles31_42)), (a7, .inl (E.2 0, 13, .inl o_starts31_43)), (a8, .inl (E.2 0, 200, .inl s_tape_bytes))] : va_W) ++ ktc E (ta58, v_57)) ++ kpool E G) := hV105.subP [0, 1, 2, 3, 4, 5, 6, 7, 8, 9, 10, 11, 12] rfl rfl
        have hV117 := kclT' hk20 (by omega) (kdrT hk20 hV116)
        rw [show (va_up (kgT G) (Int32.toNatClampNeg p1) (some (ta58.1))) = kgT (kuT G (14 + Int32.toNatClampNeg p1) (ta58, v_57)) from kgTup (t := (ta58, v_57))] at hV117
        exact hret _ (kuT G (14 + Int32.toNatClampNeg p1) (ta58, v_57), .ref a8) _ _ _ _ ⟨q106, (by rw [← q115]; exact ⟨ta58, rfl⟩)⟩ rfl (by rw [← q107, ← q108, ← q109, ← q110, ← q111, ← q112, ← q113, ← q114]; exact hV117) dX11_story_68
    · have h36 := itS c34 h26
      clear h26 c34
      refine lv_iconst (v := (-1)) hx hb dX11_story_17 (by decide) ?_
      obtain ⟨q118, q119, q120, q121, q122, q123, q124, q125, q126, q127⟩ := tup10_s h36
      clear h36
      refine W.widen (k := 4) (n := 149) (by decide) (by decide) ?_
      exact hret _ (G, w2_3) _ _ _ _ ⟨q118, (by rw [← q127]; exact rfl)⟩ rfl (by rw [← q119, ← q120, ← q121, ← q122, ← q123, ← q124, ← q125, ← q126]; exact hV33) dX11_story_18
