set_option maxHeartbeats 4000000 in
set_option maxRecDepth 100000 in
theorem l_body {p : Program} {l : Launch} {e : Env} {s : State} {m : MethodId} {below : List Frame} {meth : Method} {c : Code} {E : kE} {A : Nat → Prop} {b : Nat} {xs : Nat → Int32} {H : Heap} {locs : List Loc} {ls : Array Slot} {ad : Nat → Nat} (X : kC p s m c code 4 RL #[Value.ref b] E A) (hr : meth.sig.returnType = ret) (hlocks : meth.locks = false) (hAs : ∀ q, A q → s.heap.size ≤ q) (hX : va_X b 6 xs s s.heap) (hbl : b < s.heap.size) (hbA : ¬ A b) (hV : kV E A s.heap H locs (lW E ad)) (hl : lv_has ls 4 [(3, .int 0), (2, .ref (ad 42)), (1, .ref (ad 0)), (0, .ref b)]) : W p l e room_1 s m #[Value.ref b] below meth c H locs 900 90000 (lw_Z below #[Value.ref b] s) (F0 m 27 ls []) := by
  have hx := X.1
  have hb := X.2.1
  have T := fun (H : Heap) (locs : List Loc) (ls : Array Slot) (hS : va_S A s.heap H locs) (hl : lv_has ls 4 [(3, .int 0), (2, .ref (ad 42)), (1, .ref (ad 0)), (0, .ref b)]) => l_tail (l := l) (e := e) (below := below) X hr hlocks hAs hX hbl hbA (k := 1000) (n := 100000) (by decide) (by decide) hS hl
  refine lv_aload_n hx hb dL_law_27 rfl (lv_at hl 3 rfl) ?_
  refine lv_iload_n hx hb dL_law_28 rfl (lv_at hl 0 rfl) ?_
  refine ksld X hX hbl hbA hV (v := xs 0) (vp_in_iff.mpr (by decide)) (congrArg xs (by decide)) dL_law_29 ?_
  refine lv_bipush (v := 31) hx hb dL_law_30 (by decide) ?_
  refine lv_iand hx hb dL_law_32 ?_
  obtain ⟨j, hj, ej⟩ := pk_andE (xs 0) (m := 31) 5 (by decide)
  refine ktopi ej.symm ?_
  match j, hj with
  | 0, _ =>
    refine lv_tableIn (tgt := 176) (off := 143) hx hb dL_law_33 (by decide) (by decide) (by decide) (by decide) ?_
    obtain ⟨r, x_o_page_day, x_o_sky_many, m_o_sources, m_o_byStar, m_o_minuteOf, m_o_shape, m_o_weekdays, m_o_wide, h1, h2⟩ := pf_0 (xs 1) (xs 2) (xs 3) (xs 4) (xs 5)
    exact lc_0 X hX hbl hbA hV hl r x_o_page_day x_o_sky_many m_o_sources m_o_byStar m_o_minuteOf m_o_shape m_o_weekdays m_o_wide h1 h2 T
  | 1, _ =>
    refine lv_tableIn (tgt := 255) (off := 222) hx hb dL_law_33 (by decide) (by decide) (by decide) (by decide) ?_
    obtain ⟨r, x_o_page_day, x_o_sky_seed, m_o_seed, h1, h2⟩ := pf_1 (xs 1)
    exact lc_1 X hX hbl hbA hV hl r x_o_page_day x_o_sky_seed m_o_seed h1 h2 T
  | 2, _ =>
    refine lv_tableIn (tgt := 278) (off := 245) hx hb dL_law_33 (by decide) (by decide) (by decide) (by decide) ?_
    obtain ⟨r, x_o_tape_length, x_o_tape_bytes, m_o_taped, m_o_tape, h1, h2⟩ := pf_2 (xs 1) (xs 2) (xs 3) (xs 4) (xs 5)
    exact lc_2 X hX hbl hbA hV hl r x_o_tape_length x_o_tape_bytes m_o_taped m_o_tape h1 h2 T
  | 3, _ =>
    refine lv_tableIn (tgt := 341) (off := 308) hx hb dL_law_33 (by decide) (by decide) (by decide) (by decide) ?_
    obtain ⟨r, h1, h2⟩ := pf_3 (xs 1) (xs 2)
    exact lc_3 X hX hbl hbA hV hl r h1 h2 T
  | 4, _ =>
    refine lv_tableIn (tgt := 374) (off := 341) hx hb dL_law_33 (by decide) (by decide) (by decide) (by decide) ?_
    obtain ⟨r, h1, h2⟩ := pf_4 (xs 1) (xs 2)
    exact lc_4 X hX hbl hbA hV hl r h1 h2 T
  | 5, _ =>
    refine lv_tableIn (tgt := 407) (off := 374) hx hb dL_law_33 (by decide) (by decide) (by decide) (by decide) ?_
    obtain ⟨r, h1, h2⟩ := pf_5 (xs 1) (xs 2)
    exact lc_5 X hX hbl hbA hV hl r h1 h2 T
  | 6, _ =>
    refine lv_tableIn (tgt := 440) (off := 407) hx hb dL_law_33 (by decide) (by decide) (by decide) (by decide) ?_
    obtain ⟨r, h1, h2⟩ := pf_6 (xs 1) (xs 2)
    exact lc_6 X hX hbl hbA hV hl r h1 h2 T
  | 7, _ =>
    refine lv_tableIn (tgt := 473) (off := 440) hx hb dL_law_33 (by decide) (by decide) (by decide) (by decide) ?_
    obtain ⟨r, h1, h2⟩ := pf_7 (xs 1) (xs 2) (xs 3)
    exact lc_7 X hX hbl hbA hV hl r h1 h2 T
  | 8, _ =>
    refine lv_tableIn (tgt := 516) (off := 483) hx hb dL_law_33 (by decide) (by decide) (by decide) (by decide) ?_
    obtain ⟨r, x_o_page_readers, x_o_page_day, x_o_page_heights, x_o_page_highest, x_o_page_shapes, m_o_paperHigh, m_o_paperShape, h1, h2⟩ := pf_8 (xs 1) (xs 2) (xs 3)
    exact lc_8 X hX hbl hbA hV hl r x_o_page_readers x_o_page_day x_o_page_heights x_o_page_highest x_o_page_shapes m_o_paperHigh m_o_paperShape h1 h2 T
  | 9, _ =>
    refine lv_tableIn (tgt := 559) (off := 526) hx hb dL_law_33 (by decide) (by decide) (by decide) (by decide) ?_
    obtain ⟨r, x_o_page_readers, x_o_page_day, x_o_page_heights, x_o_page_highest, x_o_page_marked, x_o_page_shapes, x_o_page_reckoner_letters, m_o_atA, m_o_atB, m_o_atD, m_o_atF, m_o_atG, m_o_atH, m_o_atL, m_o_atM, m_o_atN, m_o_atS, m_o_atT, m_o_atU, m_o_atX, m_o_paperHigh, m_o_paperShape, m_o_first, m_o_greatest, m_o_highAt, m_o_last, m_o_marked, m_o_shapeAt, h1, h2⟩ := pf_9 (xs 1) (xs 2) (xs 3)
    exact lc_9 X hX hbl hbA hV hl r x_o_page_readers x_o_page_day x_o_page_heights x_o_page_highest x_o_page_marked x_o_page_shapes x_o_page_reckoner_letters m_o_atA m_o_atB m_o_atD m_o_atF m_o_atG m_o_atH m_o_atL m_o_atM m_o_atN m_o_atS m_o_atT m_o_atU m_o_atX m_o_paperHigh m_o_paperShape m_o_first m_o_greatest m_o_highAt m_o_last m_o_marked m_o_shapeAt h1 h2 T
  | 10, _ =>
    refine lv_tableIn (tgt := 602) (off := 569) hx hb dL_law_33 (by decide) (by decide) (by decide) (by decide) ?_
    obtain ⟨r, x_o_page_readers, x_o_page_day, x_o_page_heights, x_o_page_highest, x_o_page_marked, x_o_page_shapes, x_o_page_reckoner_letters, m_o_atA, m_o_atB, m_o_atD, m_o_atF, m_o_atG, m_o_atH, m_o_atL, m_o_atM, m_o_atN, m_o_atS, m_o_atT, m_o_atU, m_o_atX, m_o_paperHigh, m_o_paperShape, m_o_first, m_o_greatest, m_o_highAt, m_o_last, m_o_marked, m_o_shapeAt, h1, h2⟩ := pf_10 (xs 1) (xs 2) (xs 3) (xs 4) (xs 5)
    exact lc_10 X hX hbl hbA hV hl r x_o_page_readers x_o_page_day x_o_page_heights x_o_page_highest x_o_page_marked x_o_page_shapes x_o_page_reckoner_letters m_o_atA m_o_atB m_o_atD m_o_atF m_o_atG m_o_atH m_o_atL m_o_atM m_o_atN m_o_atS m_o_atT m_o_atU m_o_atX m_o_paperHigh m_o_paperShape m_o_first m_o_greatest m_o_highAt m_o_last m_o_marked m_o_shapeAt h1 h2 T
  | 11, _ =>
    refine lv_tableIn (tgt := 665) (off := 632) hx hb dL_law_33 (by decide) (by decide) (by decide) (by decide) ?_
    obtain ⟨r, x_o_notes_many, x_o_notes_days, x_o_notes_minutes, x_o_notes_shapes, m_o_notes, m_o_noteDay, m_o_noteMinute, m_o_noteShape, h1, h2⟩ := pf_11 (xs 1) (xs 2) (xs 3)
    exact lc_11 X hX hbl hbA hV hl r x_o_notes_many x_o_notes_days x_o_notes_minutes x_o_notes_shapes m_o_notes m_o_noteDay m_o_noteMinute m_o_noteShape h1 h2 T
  | 12, _ =>
    refine lv_tableIn (tgt := 708) (off := 675) hx hb dL_law_33 (by decide) (by decide) (by decide) (by decide) ?_
    obtain ⟨r, x_o_notes_gathered, h1, h2⟩ := pf_12 (xs 1) (xs 2)
    exact lc_12 X hX hbl hbA hV hl r x_o_notes_gathered h1 h2 T
  | 13, _ =>
    refine lv_tableIn (tgt := 741) (off := 708) hx hb dL_law_33 (by decide) (by decide) (by decide) (by decide) ?_
    obtain ⟨r, x_o_notes_gathered, h1, h2⟩ := pf_13 (xs 1) (xs 2)
    exact lc_13 X hX hbl hbA hV hl r x_o_notes_gathered h1 h2 T
  | 14, _ =>
    refine lv_tableIn (tgt := 774) (off := 741) hx hb dL_law_33 (by decide) (by decide) (by decide) (by decide) ?_
    obtain ⟨r, x_o_notes_gathered, h1, h2⟩ := pf_14 (xs 1) (xs 2) (xs 3)
    exact lc_14 X hX hbl hbA hV hl r x_o_notes_gathered h1 h2 T
  | 15, _ =>
    refine lv_tableIn (tgt := 817) (off := 784) hx hb dL_law_33 (by decide) (by decide) (by decide) (by decide) ?_
    obtain ⟨r, x_o_blips_many, x_o_blips_times, m_o_blips, m_o_time, h1, h2⟩ := pf_15 (xs 1)
    exact lc_15 X hX hbl hbA hV hl r x_o_blips_many x_o_blips_times m_o_blips m_o_time h1 h2 T
  | 16, _ =>
    refine lv_tableIn (tgt := 840) (off := 807) hx hb dL_law_33 (by decide) (by decide) (by decide) (by decide) ?_
    obtain ⟨r, h1, h2⟩ := pf_16 (xs 1) (xs 2)
    exact lc_16 X hX hbl hbA hV hl r h1 h2 T
  | 17, _ =>
    refine lv_tableIn (tgt := 873) (off := 840) hx hb dL_law_33 (by decide) (by decide) (by decide) (by decide) ?_
    obtain ⟨r, h1, h2⟩ := pf_17 (xs 1) (xs 2) (xs 3) (xs 4)
    exact lc_17 X hX hbl hbA hV hl r h1 h2 T
  | 18, _ =>
    refine lv_tableIn (tgt := 926) (off := 893) hx hb dL_law_33 (by decide) (by decide) (by decide) (by decide) ?_
    obtain ⟨r, h1, h2⟩ := pf_18 (xs 1) (xs 2)
    exact lc_18 X hX hbl hbA hV hl r h1 h2 T
  | 19, _ =>
    refine lv_tableIn (tgt := 959) (off := 926) hx hb dL_law_33 (by decide) (by decide) (by decide) (by decide) ?_
    obtain ⟨r, h1, h2⟩ := pf_19 (xs 1) (xs 2) (xs 3)
    exact lc_19 X hX hbl hbA hV hl r h1 h2 T
  | 20, _ =>
    refine lv_tableIn (tgt := 1002) (off := 969) hx hb dL_law_33 (by decide) (by decide) (by decide) (by decide) ?_
    obtain ⟨r, h1, h2⟩ := pf_20 (xs 1) (xs 2) (xs 3)
    exact lc_20 X hX hbl hbA hV hl r h1 h2 T
  | 21, _ =>
    refine lv_tableIn (tgt := 1045) (off := 1012) hx hb dL_law_33 (by decide) (by decide) (by decide) (by decide) ?_
    obtain ⟨r, x_o_nights_many, x_o_nights_days, x_o_nights_shifts, m_o_nights, m_o_found, m_o_nightDay, h1, h2⟩ := pf_21 (xs 1) (xs 2)
    exact lc_21 X hX hbl hbA hV hl r x_o_nights_many x_o_nights_days x_o_nights_shifts m_o_nights m_o_found m_o_nightDay h1 h2 T
  | 22, _ =>
    refine lv_tableIn (tgt := 1078) (off := 1045) hx hb dL_law_33 (by decide) (by decide) (by decide) (by decide) ?_
    obtain ⟨r, h1, h2⟩ := pf_22 (xs 1) (xs 2)
    exact lc_22 X hX hbl hbA hV hl r h1 h2 T
  | 23, _ =>
    refine lv_tableIn (tgt := 1111) (off := 1078) hx hb dL_law_33 (by decide) (by decide) (by decide) (by decide) ?_
    obtain ⟨r, h1, h2⟩ := pf_23 (xs 1) (xs 2)
    exact lc_23 X hX hbl hbA hV hl r h1 h2 T
  | 24, _ =>
    refine lv_tableIn (tgt := 1144) (off := 1111) hx hb dL_law_33 (by decide) (by decide) (by decide) (by decide) ?_
    obtain ⟨r, x_o_nights_fallen, h1, h2⟩ := pf_24 (xs 1) (xs 2)
    exact lc_24 X hX hbl hbA hV hl r x_o_nights_fallen h1 h2 T
  | 25, _ =>
    refine lv_tableIn (tgt := 1177) (off := 1144) hx hb dL_law_33 (by decide) (by decide) (by decide) (by decide) ?_
    obtain ⟨r, h1, h2⟩ := pf_25 (xs 1) (xs 2)
    exact lc_25 X hX hbl hbA hV hl r h1 h2 T
  | 26, _ =>
    refine lv_tableIn (tgt := 1210) (off := 1177) hx hb dL_law_33 (by decide) (by decide) (by decide) (by decide) ?_
    obtain ⟨r, x_o_lots_tens, m_o_ten, h1, h2⟩ := pf_26 (xs 1) (xs 2)
    exact lc_26 X hX hbl hbA hV hl r x_o_lots_tens m_o_ten h1 h2 T
  | 27, _ =>
    refine lv_tableIn (tgt := 1243) (off := 1210) hx hb dL_law_33 (by decide) (by decide) (by decide) (by decide) ?_
    obtain ⟨r, x_o_lots_unseen, x_o_lots_best, x_o_lots_chosen, m_o_leastFrom, h1, h2⟩ := pf_27 (xs 1) (xs 2) (xs 3)
    exact lc_27 X hX hbl hbA hV hl r x_o_lots_unseen x_o_lots_best x_o_lots_chosen m_o_leastFrom h1 h2 T
  | 28, _ =>
    refine lv_tableIn (tgt := 1286) (off := 1253) hx hb dL_law_33 (by decide) (by decide) (by decide) (by decide) ?_
    obtain ⟨r, h1, h2⟩ := pf_28 (xs 1) (xs 2) (xs 3) (xs 4) (xs 5)
    exact lc_28 X hX hbl hbA hV hl r h1 h2 T
  | 29, _ =>
    refine lv_tableIn (tgt := 1350) (off := 1317) hx hb dL_law_33 (by decide) (by decide) (by decide) (by decide) ?_
    obtain ⟨r, h1, h2⟩ := pf_29 (xs 1) (xs 2) (xs 3) (xs 4) (xs 5)
    exact lc_29 X hX hbl hbA hV hl r h1 h2 T
  | 30, _ =>
    refine lv_tableIn (tgt := 1413) (off := 1380) hx hb dL_law_33 (by decide) (by decide) (by decide) (by decide) ?_
    obtain ⟨r, x_o_page_readers, x_o_page_day, x_o_tape_length, x_o_page_heights, x_o_page_highest, x_o_page_marked, x_o_page_shapes, x_o_page_reckoner_letters, m_o_taped, m_o_atA, m_o_atB, m_o_atD, m_o_atF, m_o_atG, m_o_atH, m_o_atL, m_o_atM, m_o_atN, m_o_atS, m_o_atT, m_o_atU, m_o_atX, m_o_paperHigh, m_o_paperShape, m_o_first, m_o_greatest, m_o_highAt, m_o_last, m_o_marked, m_o_shapeAt, h1, h2⟩ := pf_30 (xs 1) (xs 2) (xs 3)
    exact lc_30 X hX hbl hbA hV hl r x_o_page_readers x_o_page_day x_o_tape_length x_o_page_heights x_o_page_highest x_o_page_marked x_o_page_shapes x_o_page_reckoner_letters m_o_taped m_o_atA m_o_atB m_o_atD m_o_atF m_o_atG m_o_atH m_o_atL m_o_atM m_o_atN m_o_atS m_o_atT m_o_atU m_o_atX m_o_paperHigh m_o_paperShape m_o_first m_o_greatest m_o_highAt m_o_last m_o_marked m_o_shapeAt h1 h2 T
  | 31, _ =>
    refine lv_tableIn (tgt := 1456) (off := 1423) hx hb dL_law_33 (by decide) (by decide) (by decide) (by decide) ?_
    obtain ⟨r, h1, h2⟩ := pf_31 (xs 1)
    exact lc_31 X hX hbl hbA hV hl r h1 h2 T
  | j + 32, hj => exact absurd hj (by omega)
set_option maxHeartbeats 4000000 in
set_option maxRecDepth 100000 in
theorem whole_start {p : Program} {e : Env} {s : State} {m : MethodId} {below : List Frame} {meth : Method} {c : Code} (l : Launch) {b L : Nat} {xs : Nat → Int32} (hL : L ≤ 6) (C0 : lw_At p s m meth c b L xs) : W p l e room_1 s m #[Value.ref b] below meth c s.heap [] 0 0 (lw_Z below #[Value.ref b] s) (entryFrame m ([Value.ref b] : List Value).toArray 4) := by
  obtain ⟨hx, hb, hr, hml, hown, hts, hX, hbl, hlocks, hgv⟩ := C0
  obtain ⟨E, hE⟩ := kstart hts
  have hbA : ¬ (fun q : Nat => s.heap.size ≤ q) b := Nat.not_le.mpr hbl
  have hAs : ∀ q, (fun q : Nat => s.heap.size ≤ q) q → s.heap.size ≤ q := fun _ h => h
  have hA : ∀ q : Nat, s.heap.size ≤ q → (fun q : Nat => s.heap.size ≤ q) q := fun _ h => h
  generalize (fun q : Nat => s.heap.size ≤ q) = A at hbA hAs hA
  have X : kC p s m c code 4 RL #[Value.ref b] E A := ⟨hx, hb, hml, hown, fun w h => hts w (wsL_law_in w h), hE, hA⟩
  have hV : kV E A s.heap s.heap [] [] := ⟨fun k q h => by simp at h, ⟨fun i j p q h => by simp at h, fun k q h => by simp at h⟩, va_S.rf⟩
  have hl := lv_entry ([.ref b]) (n := 4) (Nat.le_of_ble_eq_true rfl)
  rw [lg_entry_eq]
  generalize (lg_sl ([.ref b]) ++ List.replicate (4 - (lg_sl ([.ref b])).length) Slot.unset).toArray = ls at hl ⊢
  have hl : lv_has ls 4 [(0, .ref b)] := hl
  refine knew X hV (ci := 11) (fs := [.null, .null, .null, .null, .null, .null, .null, .null, .null]) inlX11 rfl tyX11 tyX11_ok mw_0 mw_1 mw_2 (fun j hj => by rcases (show j = 0 ∨ j = 1 ∨ j = 2 ∨ j = 3 ∨ j = 4 ∨ j = 5 ∨ j = 6 ∨ j = 7 ∨ j = 8 by omega) with rfl | rfl | rfl | rfl | rfl | rfl | rfl | rfl | rfl <;> rfl) (by decide) (by decide) dL_law_0 (fun o0 H hV1 => ?_)
  have hV1 : kV E A s.heap H _ [(o0, .inr (11, [.null, .null, .null, .null, .null, .null, .null, .null, .null]))] := hV1
  clear hV
  refine W.widen (k := 1) (n := 9) (by decide) (by decide) ?_
  refine lv_dup hx hb dL_law_3 rfl ?_
  refine kgov (krunI (rest := [.ref o0]) X hV1 [0] (c_X11_init l E _ o0) mw_6 kb_X11_init (by decide) rfl rfl hl.1 rfl (Nat.le_of_ble_eq_true rfl) dL_law_4 (by decide)) X hV1 [0] [] rfl rfl rfl (by decide) (fun u H locs hp hV2 => ?_)
  obtain ⟨o0_0, o0_1, o0_2, o0_3, o0_4, o0_5, o0_6, o0_7, o0_8, o0_9, o0_10, o0_11, o0_12, o0_13, o0_14, o0_15, o0_16, o0_17, o0_18, o0_19, o0_20, o0_21, o0_22, o0_23, o0_24, o0_25, o0_26, o0_27, o0_28, o0_29, o0_30, o0_31, o0_32, o0_33, o0_34, o0_35, o0_36, o0_37, o0_38, o0_39, o0_40⟩ := u
  have hV2 : kV E A s.heap H locs [(o0, .inr (11, [.ref o0_0, .ref o0_2, .ref o0_7, .ref o0_12, .ref o0_20, .ref o0_21, .ref o0_26, .ref o0_29, .ref o0_37])), (o0_0, .inr (9, [.ref o0_1, .int 0])), (o0_1, .inl (E.2 0, 200, .inl (fun _ => 0))), (o0_2, .inr (6, [.ref o0_3, .ref o0_4, .ref o0_5, .ref o0_6, .int 0, .int 0, .int 0, .int 0])), (o0_3, .inl (E.2 0, 120, .inl (fun _ => 0))), (o0_4, .inl (E.2 0, 13, .inl (fun _ => 0))), (o0_5, .inl (E.2 0, 12, .inl (fun _ => 0))), (o0_6, .inl (E.2 0, 0, .inl (fun _ => 0))), (o0_7, .inr (7, [.ref o0_8, .ref o0_9, .int 0, .int 0])), (o0_8, .inl (E.2 3, 10, .inr (.inr (.inr (.inr (fun _ => none)))))), (o0_9, .inr (5, [.ref o0_10, .ref o0_11])), (o0_10, .inl (E.2 0, 128, .inl (fun _ => 0))), (o0_11, .inl (E.2 0, 32, .inl (fun _ => 0))), (o0_12, .inr (4, [.ref o0_13, .ref o0_14, .ref o0_15, .ref o0_16, .ref o0_17, .int 0, .int (-1)])), (o0_13, .inl (E.2 0, 1440, .inl (fun _ => 0))), (o0_14, .inl (E.2 0, 1440, .inl (fun _ => 0))), (o0_15, .inl (E.2 0, 1440, .inl (fun _ => 0))), (o0_16, .inl (E.2 0, 1440, .inl (fun _ => 0))), (o0_17, .inr (5, [.ref o0_18, .ref o0_19])), (o0_18, .inl (E.2 0, 128, .inl (fun _ => 0))), (o0_19, .inl (E.2 0, 32, .inl (fun _ => 0))), (o0_20, .inl (E.2 4, 4, .inr (.inr (.inr (.inr (fun _ => none)))))), (o0_21, .inr (3, [.ref o0_22, .ref o0_23, .ref o0_24, .ref o0_25, .int 0])), (o0_22, .inl (E.2 0, 40, .inl (fun _ => 0))), (o0_23, .inl (E.2 0, 40, .inl (fun _ => 0))), (o0_24, .inl (E.2 0, 40, .inl (fun _ => 0))), (o0_25, .inl (E.2 0, 40, .inl (fun _ => 0))), (o0_26, .inr (0, [.ref o0_27, .ref o0_28, .int 0, .int 0, .int (-1), .int (-1)])), (o0_27, .inl (E.2 0, 40, .inl (fun _ => 0))), (o0_28, .inl (E.2 0, 40, .inl (fun _ => 0))), (o0_29, .inr (2, [.ref o0_30, .ref o0_31, .ref o0_32, .ref o0_33, .ref o0_36, .int 0])), (o0_30, .inl (E.2 0, 30, .inl (fun _ => 0))), (o0_31, .inl (E.2 0, 30, .inl (fun _ => 0))), (o0_32, .inl (E.2 0, 6, .inl (fun _ => 0))), (o0_33, .inr (5, [.ref o0_34, .ref o0_35])), (o0_34, .inl (E.2 0, 128, .inl (fun _ => 0))), (o0_35, .inl (E.2 0, 32, .inl (fun _ => 0))), (o0_36, .inl (E.2 4, 6, .inr (.inr (.inr (.inr (fun _ => none)))))), (o0_37, .inr (1, [.ref o0_38, .ref o0_39, .ref o0_40, .int 0])), (o0_38, .inl (E.2 0, 40, .inl (fun _ => 0))), (o0_39, .inl (E.2 0, 6, .inl (fun _ => 0))), (o0_40, .inl (E.2 0, 287, .inl (fun _ => 0)))] := hV2
  clear hV1
  refine W.widen (k := 42) (n := 7301) (by decide) (by decide) ?_
  refine lv_astore_n (lv' := [(1, .ref o0), (0, .ref b)]) hx hb dL_law_7 rfl hl (by decide) rfl (fun ls hl => ?_)
  refine knew X hV2 (ci := 12) (fs := [.null, .int 0, .int 0, .int 0, .int 0, .int 0, .int 0, .null, .null, .null, .null, .null, .null, .null, .null, .null, .null, .null, .int 0, .int 0, .int 0, .int 0, .int 0, .int 0, .int 0, .int 0, .int 0, .null, .int 0, .int 0, .int 0, .int 0, .int 0, .int 0, .int 0, .int 0, .int 0, .int 0, .int 0, .int 0, .int 0, .null, .null, .null, .null, .null, .null, .null, .int 0, .int 0, .null, .null, .null, .null, .null, .null, .null, .null, .null, .null, .int 0, .int 0, .int 0, .null, .null, .null, .null]) inlX12 rfl tyX12 tyX12_ok mw_3 mw_4 mw_5 (fun j hj => by rcases (show j = 0 ∨ j = 1 ∨ j = 2 ∨ j = 3 ∨ j = 4 ∨ j = 5 ∨ j = 6 ∨ j = 7 ∨ j = 8 ∨ j = 9 ∨ j = 10 ∨ j = 11 ∨ j = 12 ∨ j = 13 ∨ j = 14 ∨ j = 15 ∨ j = 16 ∨ j = 17 ∨ j = 18 ∨ j = 19 ∨ j = 20 ∨ j = 21 ∨ j = 22 ∨ j = 23 ∨ j = 24 ∨ j = 25 ∨ j = 26 ∨ j = 27 ∨ j = 28 ∨ j = 29 ∨ j = 30 ∨ j = 31 ∨ j = 32 ∨ j = 33 ∨ j = 34 ∨ j = 35 ∨ j = 36 ∨ j = 37 ∨ j = 38 ∨ j = 39 ∨ j = 40 ∨ j = 41 ∨ j = 42 ∨ j = 43 ∨ j = 44 ∨ j = 45 ∨ j = 46 ∨ j = 47 ∨ j = 48 ∨ j = 49 ∨ j = 50 ∨ j = 51 ∨ j = 52 ∨ j = 53 ∨ j = 54 ∨ j = 55 ∨ j = 56 ∨ j = 57 ∨ j = 58 ∨ j = 59 ∨ j = 60 ∨ j = 61 ∨ j = 62 ∨ j = 63 ∨ j = 64 ∨ j = 65 ∨ j = 66 by omega) with rfl | rfl | rfl | rfl | rfl | rfl | rfl | rfl | rfl | rfl | rfl | rfl | rfl | rfl | rfl | rfl | rfl | rfl | rfl | rfl | rfl | rfl | rfl | rfl | rfl | rfl | rfl | rfl | rfl | rfl | rfl | rfl | rfl | rfl | rfl | rfl | rfl | rfl | rfl | rfl | rfl | rfl | rfl | rfl | rfl | rfl | rfl | rfl | rfl | rfl | rfl | rfl | rfl | rfl | rfl | rfl | rfl | rfl | rfl | rfl | rfl | rfl | rfl | rfl | rfl | rfl | rfl <;> rfl) (by decide) (by decide) dL_law_8 (fun o8 H hV3 => ?_)
  have hV3 : kV E A s.heap H _ [(o0, .inr (11, [.ref o0_0, .ref o0_2, .ref o0_7, .ref o0_12, .ref o0_20, .ref o0_21, .ref o0_26, .ref o0_29, .ref o0_37])), (o0_0, .inr (9, [.ref o0_1, .int 0])), (o0_1, .inl (E.2 0, 200, .inl (fun _ => 0))), (o0_2, .inr (6, [.ref o0_3, .ref o0_4, .ref o0_5, .ref o0_6, .int 0, .int 0, .int 0, .int 0])), (o0_3, .inl (E.2 0, 120, .inl (fun _ => 0))), (o0_4, .inl (E.2 0, 13, .inl (fun _ => 0))), (o0_5, .inl (E.2 0, 12, .inl (fun _ => 0))), (o0_6, .inl (E.2 0, 0, .inl (fun _ => 0))), (o0_7, .inr (7, [.ref o0_8, .ref o0_9, .int 0, .int 0])), (o0_8, .inl (E.2 3, 10, .inr (.inr (.inr (.inr (fun _ => none)))))), (o0_9, .inr (5, [.ref o0_10, .ref o0_11])), (o0_10, .inl (E.2 0, 128, .inl (fun _ => 0))), (o0_11, .inl (E.2 0, 32, .inl (fun _ => 0))), (o0_12, .inr (4, [.ref o0_13, .ref o0_14, .ref o0_15, .ref o0_16, .ref o0_17, .int 0, .int (-1)])), (o0_13, .inl (E.2 0, 1440, .inl (fun _ => 0))), (o0_14, .inl (E.2 0, 1440, .inl (fun _ => 0))), (o0_15, .inl (E.2 0, 1440, .inl (fun _ => 0))), (o0_16, .inl (E.2 0, 1440, .inl (fun _ => 0))), (o0_17, .inr (5, [.ref o0_18, .ref o0_19])), (o0_18, .inl (E.2 0, 128, .inl (fun _ => 0))), (o0_19, .inl (E.2 0, 32, .inl (fun _ => 0))), (o0_20, .inl (E.2 4, 4, .inr (.inr (.inr (.inr (fun _ => none)))))), (o0_21, .inr (3, [.ref o0_22, .ref o0_23, .ref o0_24, .ref o0_25, .int 0])), (o0_22, .inl (E.2 0, 40, .inl (fun _ => 0))), (o0_23, .inl (E.2 0, 40, .inl (fun _ => 0))), (o0_24, .inl (E.2 0, 40, .inl (fun _ => 0))), (o0_25, .inl (E.2 0, 40, .inl (fun _ => 0))), (o0_26, .inr (0, [.ref o0_27, .ref o0_28, .int 0, .int 0, .int (-1), .int (-1)])), (o0_27, .inl (E.2 0, 40, .inl (fun _ => 0))), (o0_28, .inl (E.2 0, 40, .inl (fun _ => 0))), (o0_29, .inr (2, [.ref o0_30, .ref o0_31, .ref o0_32, .ref o0_33, .ref o0_36, .int 0])), (o0_30, .inl (E.2 0, 30, .inl (fun _ => 0))), (o0_31, .inl (E.2 0, 30, .inl (fun _ => 0))), (o0_32, .inl (E.2 0, 6, .inl (fun _ => 0))), (o0_33, .inr (5, [.ref o0_34, .ref o0_35])), (o0_34, .inl (E.2 0, 128, .inl (fun _ => 0))), (o0_35, .inl (E.2 0, 32, .inl (fun _ => 0))), (o0_36, .inl (E.2 4, 6, .inr (.inr (.inr (.inr (fun _ => none)))))), (o0_37, .inr (1, [.ref o0_38, .ref o0_39, .ref o0_40, .int 0])), (o0_38, .inl (E.2 0, 40, .inl (fun _ => 0))), (o0_39, .inl (E.2 0, 6, .inl (fun _ => 0))), (o0_40, .inl (E.2 0, 287, .inl (fun _ => 0))), (o8, .inr (12, [.null, .int 0, .int 0, .int 0, .int 0, .int 0, .int 0, .null, .null, .null, .null, .null, .null, .null, .null, .null, .null, .null, .int 0, .int 0, .int 0, .int 0, .int 0, .int 0, .int 0, .int 0, .int 0, .null, .int 0, .int 0, .int 0, .int 0, .int 0, .int 0, .int 0, .int 0, .int 0, .int 0, .int 0, .int 0, .int 0, .null, .null, .null, .null, .null, .null, .null, .int 0, .int 0, .null, .null, .null, .null, .null, .null, .null, .null, .null, .null, .int 0, .int 0, .int 0, .null, .null, .null, .null]))] := hV3
  clear hV2
  refine W.widen (k := 43) (n := 7368) (by decide) (by decide) ?_
  refine lv_dup hx hb dL_law_11 rfl ?_
  refine kgov (krunI (rest := [.ref o8]) X hV3 [42] (c_X12_init l E _ o8) mw_136 kb_X12_init (by decide) rfl rfl hl.1 rfl (Nat.le_of_ble_eq_true rfl) dL_law_12 (by decide)) X hV3 [42] [0, 1, 2, 3, 4, 5, 6, 7, 8, 9, 10, 11, 12, 13, 14, 15, 16, 17, 18, 19, 20, 21, 22, 23, 24, 25, 26, 27, 28, 29, 30, 31, 32, 33, 34, 35, 36, 37, 38, 39, 40, 41] rfl rfl rfl (by decide) (fun u H locs hp hV4 => ?_)
  obtain ⟨o8_0, o8_1, o8_2, o8_3, o8_4, o8_5, o8_6, o8_7, o8_8, o8_9, o8_10, o8_11, o8_12, o8_13, o8_14, o8_15, o8_16, o8_17, o8_18, o8_19, o8_20, o8_21, o8_22, o8_23, o8_24, o8_25, o8_26, o8_27, o8_28, o8_29, o8_30, o8_31, o8_32, o8_33⟩ := u
  have hV4 : kV E A s.heap H locs [(o0, .inr (11, [.ref o0_0, .ref o0_2, .ref o0_7, .ref o0_12, .ref o0_20, .ref o0_21, .ref o0_26, .ref o0_29, .ref o0_37])), (o0_0, .inr (9, [.ref o0_1, .int 0])), (o0_1, .inl (E.2 0, 200, .inl (fun _ => 0))), (o0_2, .inr (6, [.ref o0_3, .ref o0_4, .ref o0_5, .ref o0_6, .int 0, .int 0, .int 0, .int 0])), (o0_3, .inl (E.2 0, 120, .inl (fun _ => 0))), (o0_4, .inl (E.2 0, 13, .inl (fun _ => 0))), (o0_5, .inl (E.2 0, 12, .inl (fun _ => 0))), (o0_6, .inl (E.2 0, 0, .inl (fun _ => 0))), (o0_7, .inr (7, [.ref o0_8, .ref o0_9, .int 0, .int 0])), (o0_8, .inl (E.2 3, 10, .inr (.inr (.inr (.inr (fun _ => none)))))), (o0_9, .inr (5, [.ref o0_10, .ref o0_11])), (o0_10, .inl (E.2 0, 128, .inl (fun _ => 0))), (o0_11, .inl (E.2 0, 32, .inl (fun _ => 0))), (o0_12, .inr (4, [.ref o0_13, .ref o0_14, .ref o0_15, .ref o0_16, .ref o0_17, .int 0, .int (-1)])), (o0_13, .inl (E.2 0, 1440, .inl (fun _ => 0))), (o0_14, .inl (E.2 0, 1440, .inl (fun _ => 0))), (o0_15, .inl (E.2 0, 1440, .inl (fun _ => 0))), (o0_16, .inl (E.2 0, 1440, .inl (fun _ => 0))), (o0_17, .inr (5, [.ref o0_18, .ref o0_19])), (o0_18, .inl (E.2 0, 128, .inl (fun _ => 0))), (o0_19, .inl (E.2 0, 32, .inl (fun _ => 0))), (o0_20, .inl (E.2 4, 4, .inr (.inr (.inr (.inr (fun _ => none)))))), (o0_21, .inr (3, [.ref o0_22, .ref o0_23, .ref o0_24, .ref o0_25, .int 0])), (o0_22, .inl (E.2 0, 40, .inl (fun _ => 0))), (o0_23, .inl (E.2 0, 40, .inl (fun _ => 0))), (o0_24, .inl (E.2 0, 40, .inl (fun _ => 0))), (o0_25, .inl (E.2 0, 40, .inl (fun _ => 0))), (o0_26, .inr (0, [.ref o0_27, .ref o0_28, .int 0, .int 0, .int (-1), .int (-1)])), (o0_27, .inl (E.2 0, 40, .inl (fun _ => 0))), (o0_28, .inl (E.2 0, 40, .inl (fun _ => 0))), (o0_29, .inr (2, [.ref o0_30, .ref o0_31, .ref o0_32, .ref o0_33, .ref o0_36, .int 0])), (o0_30, .inl (E.2 0, 30, .inl (fun _ => 0))), (o0_31, .inl (E.2 0, 30, .inl (fun _ => 0))), (o0_32, .inl (E.2 0, 6, .inl (fun _ => 0))), (o0_33, .inr (5, [.ref o0_34, .ref o0_35])), (o0_34, .inl (E.2 0, 128, .inl (fun _ => 0))), (o0_35, .inl (E.2 0, 32, .inl (fun _ => 0))), (o0_36, .inl (E.2 4, 6, .inr (.inr (.inr (.inr (fun _ => none)))))), (o0_37, .inr (1, [.ref o0_38, .ref o0_39, .ref o0_40, .int 0])), (o0_38, .inl (E.2 0, 40, .inl (fun _ => 0))), (o0_39, .inl (E.2 0, 6, .inl (fun _ => 0))), (o0_40, .inl (E.2 0, 287, .inl (fun _ => 0))), (o8, .inr (12, [.ref o8_0, .int 0, .int 0, .int 0, .int 0, .int 0, .int 0, .ref o8_1, .ref o8_2, .ref o8_3, .ref o8_4, .ref o8_5, .ref o8_6, .ref o8_7, .ref o8_8, .ref o8_9, .ref o8_10, .ref o8_11, .int 0, .int 0, .int 0, .int 0, .int 0, .int 0, .int 0, .int 0, .int 0, .ref o8_12, .int 0, .int 0, .int 0, .int 0, .int 0, .int 0, .int 0, .int 0, .int 0, .int 0, .int 0, .int 0, .int 0, .ref o8_13, .ref o8_14, .ref o8_15, .ref o8_16, .ref o8_17, .ref o8_18, .ref o8_19, .int 0, .int 0, .ref o8_20, .ref o8_21, .ref o8_22, .ref o8_23, .ref o8_24, .ref o8_25, .ref o8_26, .ref o8_27, .ref o8_28, .ref o8_29, .int 0, .int 0, .int 0, .ref o8_30, .ref o8_31, .ref o8_32, .ref o8_33])), (o8_0, .inl (E.2 1, 200, .inl (fun _ => 0))), (o8_1, .inl (E.2 0, 20, .inl (fun _ => 0))), (o8_2, .inl (E.2 0, 240, .inl (fun _ => 0))), (o8_3, .inl (E.2 0, 240, .inl (fun _ => 0))), (o8_4, .inl (E.2 0, 240, .inl (fun _ => 0))), (o8_5, .inl (E.2 0, 2400, .inl (fun _ => 0))), (o8_6, .inl (E.2 0, 2400, .inl (fun _ => 0))), (o8_7, .inl (E.2 0, 12, .inl (fun _ => 0))), (o8_8, .inl (E.2 0, 12, .inl (fun _ => 0))), (o8_9, .inl (E.2 0, 12, .inl (fun _ => 0))), (o8_10, .inl (E.2 0, 120, .inl (fun _ => 0))), (o8_11, .inl (E.2 0, 120, .inl (fun _ => 0))), (o8_12, .inl (E.2 0, 160, .inl (fun _ => 0))), (o8_13, .inl (E.2 0, 200, .inl (fun _ => 0))), (o8_14, .inl (E.2 2, 200, .inl (fun _ => 0))), (o8_15, .inl (E.2 2, 10, .inl (fun _ => 0))), (o8_16, .inl (E.2 0, 10, .inl (fun _ => 0))), (o8_17, .inl (E.2 0, 10, .inl (fun _ => 0))), (o8_18, .inl (E.2 0, 10, .inl (fun _ => 0))), (o8_19, .inl (E.2 0, 10, .inl (fun _ => 0))), (o8_20, .inl (E.2 0, 1440, .inl (fun _ => 0))), (o8_21, .inl (E.2 0, 1440, .inl (fun _ => 0))), (o8_22, .inl (E.2 0, 1440, .inl (fun _ => 0))), (o8_23, .inl (E.2 0, 1440, .inl (fun _ => 0))), (o8_24, .inl (E.2 0, 1440, .inl (fun _ => 0))), (o8_25, .inl (E.2 0, 2, .inl (fun _ => 0))), (o8_26, .inl (E.2 0, 40, .inl (fun _ => 0))), (o8_27, .inl (E.2 0, 40, .inl (fun _ => 0))), (o8_28, .inl (E.2 0, 40, .inl (fun _ => 0))), (o8_29, .inl (E.2 0, 40, .inl (fun _ => 0))), (o8_30, .inl (E.2 0, 30, .inl (fun _ => 0))), (o8_31, .inl (E.2 0, 30, .inl (fun _ => 0))), (o8_32, .inl (E.2 0, 40, .inl (fun _ => 0))), (o8_33, .inl (E.2 0, 371, .inl (fun _ => 0)))] := hV4
  clear hV3
  refine W.widen (k := 77) (n := 21827) (by decide) (by decide) ?_
  refine lv_astore_n (lv' := [(2, .ref o8), (1, .ref o0), (0, .ref b)]) hx hb dL_law_15 rfl hl (by decide) rfl (fun ls hl => ?_)
  obtain ⟨ad, had⟩ : ∃ ad : Nat → Nat, ad = fun k => [o0, o0_0, o0_1, o0_2, o0_3, o0_4, o0_5, o0_6, o0_7, o0_8, o0_9, o0_10, o0_11, o0_12, o0_13, o0_14, o0_15, o0_16, o0_17, o0_18, o0_19, o0_20, o0_21, o0_22, o0_23, o0_24, o0_25, o0_26, o0_27, o0_28, o0_29, o0_30, o0_31, o0_32, o0_33, o0_34, o0_35, o0_36, o0_37, o0_38, o0_39, o0_40, o8, o8_0, o8_1, o8_2, o8_3, o8_4, o8_5, o8_6, o8_7, o8_8, o8_9, o8_10, o8_11, o8_12, o8_13, o8_14, o8_15, o8_16, o8_17, o8_18, o8_19, o8_20, o8_21, o8_22, o8_23, o8_24, o8_25, o8_26, o8_27, o8_28, o8_29, o8_30, o8_31, o8_32, o8_33].getD k 0 := ⟨_, rfl⟩
  have hV9 : kV E A s.heap H locs (lW E ad) := by rw [had]; exact hV4
  clear hV4
  have hl : lv_has ls 4 [(2, .ref (ad 42)), (1, .ref (ad 0)), (0, .ref b)] := by rw [had]; exact hl
  refine lv_iconst (v := 0) hx hb dL_law_16 (by decide) ?_
  refine lv_istore_n (lv' := [(3, .int 0), (2, .ref (ad 42)), (1, .ref (ad 0)), (0, .ref b)]) hx hb dL_law_17 rfl hl (by decide) rfl (fun ls hl => ?_)
  refine W.widen (k := 900) (n := 90000) (by decide) (by decide) ?_
  refine l_head X hr hlocks hAs hX hbl hbA (by decide) (by decide) hV9.2.2 hl (fun h6 => ?_)
  have hL6 : L = 6 := by
    rcases (show L = 0 ∨ L = 1 ∨ L = 2 ∨ L = 3 ∨ L = 4 ∨ L = 5 ∨ L = 6 by omega) with q | q | q | q | q | q | q
    · exact absurd (by rw [q]; decide) h6
    · exact absurd (by rw [q]; decide) h6
    · exact absurd (by rw [q]; decide) h6
    · exact absurd (by rw [q]; decide) h6
    · exact absurd (by rw [q]; decide) h6
    · exact absurd (by rw [q]; decide) h6
    · exact q
  subst hL6
  exact l_body X hr hlocks hAs hX hbl hbA hV9 hl
