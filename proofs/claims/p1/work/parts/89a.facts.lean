theorem tapeHas_e (y m : Int32) : f_X11_tapeHas 0 y m = some 0 := by
  simp only [f_X11_tapeHas, W_iff, cb1_o, bI_0, i32_1]
  by_cases h : 1 ≤ y.toInt ∧ y.toInt ≤ m.toInt
  · have h2 : (0 : Int32) < y := by rw [Int32.lt_iff_toInt_lt, i32_0]; omega
    simp [h, h2]
  · simp [h]
theorem canRead_e (y m : Int32) : f_X12_canRead 0 y m = some 0 := by
  simp only [f_X12_canRead, L_iff, t64, cb1_o, bI_0, i64_1]
  by_cases h : 1 ≤ y.toInt ∧ y.toInt ≤ m.toInt
  · have h2 : (0 : Int32) < y := by rw [Int32.lt_iff_toInt_lt, i32_0]; omega
    simp [h, h2]
  · simp [h]
theorem gather_e (d ga mi sh : Nat → Int32) (s q b : Int32) : f_X3_gather 0 d ga mi sh s q b = some (0, ga) := by
  obtain ⟨m, hm⟩ := FU_s 1 (by decide)
  rw [f_X3_gather, hm, f_X3_gather_L6, if_pos (by decide)]
theorem knownDay_e (d ga mi sh : Nat → Int32) (s w : Int32) : f_X3_knownDay 0 d ga mi sh s w = some (-1, ga) := by
  obtain ⟨m, hm⟩ := FU_s 1 (by decide)
  rw [f_X3_knownDay, hm, f_X3_knownDay_L2, if_pos (by decide)]
theorem manyOf_e (d sh : Nat → Int32) (s q : Int32) : f_X12_manyOf 0 d sh s q = some 0 := by
  obtain ⟨m, hm⟩ := FU_s 1 (by decide)
  rw [f_X12_manyOf, hm, f_X12_manyOf_L5, if_pos (by decide)]
theorem canScan_e (a b e : Int32) : f_X11_canScan 0 a b e = some 0 := by
  have hJ : ∀ t, f_X11_canScan_J30 0 a b e t = some 0 := by
    intro t
    unfold f_X11_canScan_J30
    repeat' split
    all_goals first | rfl | (rename_i h; exact absurd (by decide) h)
  simp only [f_X11_canScan, isBeat_e, W_iff, cb1_o, hJ, ite_self]
theorem canBeat_e (a b e : Int32) : f_X12_canBeat 0 a b e = some 0 := by
  simp only [f_X12_canBeat, misBeat_e, L_iff, cb1_o]
  repeat' split
  all_goals first | rfl | (rename_i h; exact absurd (by decide) h)
theorem pf_4 (y1 : Int32) (y2 : Int32) : ∃ (r : Int32), f_X11_way 0 y1 y2 = some (r) ∧ f_X12_way 0 y1 y2 = some (r) := by
  refine ⟨-1, ?_, ?_⟩
  · simp only [f_X11_way, isReader_e, tapeHas_e, cb1_o, if_true, ite_self]
  · simp only [f_X12_way, misReader_e, canRead_e, cb1_o, if_true, ite_self]
theorem pf_5 (y1 : Int32) (y2 : Int32) : ∃ (r : Int32), f_X11_story 0 y1 y2 = some (r) ∧ f_X12_story 0 y1 y2 = some (r) := by
  refine ⟨-1, ?_, ?_⟩
  · simp only [f_X11_story, isStory_e, tapeHas_e, cb1_o, if_true, ite_self]
  · simp only [f_X12_story, misTale_e, canRead_e, cb1_o, if_true, ite_self]
theorem pf_11 (y1 : Int32) (y2 : Int32) (y3 : Int32) : ∃ (r : Int32) (x_o_notes_many : Int32) (x_o_notes_days : Nat → Int32) (x_o_notes_minutes : Nat → Int32) (x_o_notes_shapes : Nat → Int32) (m_o_notes : Int32) (m_o_noteDay : Nat → Int32) (m_o_noteMinute : Nat → Int32) (m_o_noteShape : Nat → Int32), f_X11_note 0 (fun _ => 0) (fun _ => 0) (fun _ => 0) y1 y2 y3 = some (r, x_o_notes_many, x_o_notes_days, x_o_notes_minutes, x_o_notes_shapes) ∧ f_X12_note 0 (fun _ => 0) (fun _ => 0) (fun _ => 0) y1 y2 y3 = some (r, m_o_notes, m_o_noteDay, m_o_noteMinute, m_o_noteShape) := by
  simp only [f_X11_note, f_X12_note, f_X11_note_J26, f_X12_note_J59, f_X3_add, f_X3_add_J33, isDay_e, isMinute_e, isShape_e, misDay_e, misMinute_e, L_iff, t64, cb1_o, bI_0, i32_0, i64_0, i32_1, i64_1, i32_2, i64_2, i32_3, i64_3, i32_4, i64_4, i32_5, i64_5, i32_6, i64_6, i32_9, i64_9, i32_10, i64_10, i32_20, i64_20, i32_23, i64_23, i32_30, i64_30, i32_35, i64_35, i32_39, i64_39, i32_40, i64_40, i32_60, i64_60, i32_120, i64_120, i32_127, i64_127, i32_180, i64_180, i32_399, i64_399, i32_400, i64_400, i32_700, i64_700, i32_999, i64_999, i32_1000, i64_1000, i32_1439, i64_1439, i32_1440, i64_1440, i32_2000, i64_2000, i32_1000000, i64_1000000, i32_1000000000, i64_1000000000, i32_100000, i64_100000, i32_n1, i64_n1, i32_n100000, i64_n100000]
  by_cases h1 : 0 ≤ y1.toInt ∧ y1.toInt ≤ 399
  · by_cases h2 : 0 ≤ y2.toInt ∧ y2.toInt ≤ 1439
    · by_cases h3 : 0 ≤ y3.toInt ∧ y3.toInt ≤ 3
      · simp only [h1, h2, h3, and_self, not_true, if_false]
        exact ⟨_, _, _, _, _, _, _, _, _, rfl, rfl⟩
      · simp only [h1, h2, h3, and_self, not_true, not_false_eq_true, if_false, if_true]
        exact ⟨_, _, _, _, _, _, _, _, _, rfl, rfl⟩
    · simp only [h1, h2, and_self, not_true, not_false_eq_true, if_false, if_true]
      exact ⟨_, _, _, _, _, _, _, _, _, rfl, rfl⟩
  · simp only [h1, not_false_eq_true, if_true]
    exact ⟨_, _, _, _, _, _, _, _, _, rfl, rfl⟩
theorem pf_12 (y1 : Int32) (y2 : Int32) : ∃ (r : Int32) (x_o_notes_gathered : Nat → Int32), f_X11_one 0 (fun _ => 0) (fun _ => 0) (fun _ => 0) (fun _ => 0) y1 y2 = some (r, x_o_notes_gathered) ∧ f_X12_one 0 (fun _ => 0) (fun _ => 0) y1 y2 = some (r) := by
  simp only [f_X11_one, f_X12_one, f_X3_oneBy, gather_e, manyOf_e, isShape_e, misShape_e, misWithin_e, W_iff, cb1_o, cb2_o, bI_0, i32_0, i64_0, i32_1, i64_1, i32_2, i64_2, i32_3, i64_3, i32_4, i64_4, i32_5, i64_5, i32_6, i64_6, i32_9, i64_9, i32_10, i64_10, i32_20, i64_20, i32_23, i64_23, i32_30, i64_30, i32_35, i64_35, i32_39, i64_39, i32_40, i64_40, i32_60, i64_60, i32_120, i64_120, i32_127, i64_127, i32_180, i64_180, i32_399, i64_399, i32_400, i64_400, i32_700, i64_700, i32_999, i64_999, i32_1000, i64_1000, i32_1439, i64_1439, i32_1440, i64_1440, i32_2000, i64_2000, i32_1000000, i64_1000000, i32_1000000000, i64_1000000000, i32_100000, i64_100000, i32_n1, i64_n1, i32_n100000, i64_n100000]
  by_cases h1 : 0 ≤ y1.toInt ∧ y1.toInt ≤ 3 <;> by_cases h2 : 0 ≤ y2.toInt ∧ y2.toInt ≤ 700 <;> simp only [h1, h2, and_self, not_true, not_false_eq_true, if_false, if_true] <;> exact ⟨_, _, rfl, rfl⟩
theorem pf_13 (y1 : Int32) (y2 : Int32) : ∃ (r : Int32) (x_o_notes_gathered : Nat → Int32), f_X11_known 0 (fun _ => 0) (fun _ => 0) (fun _ => 0) (fun _ => 0) y1 y2 = some (r, x_o_notes_gathered) ∧ f_X12_known 0 (fun _ => 0) (fun _ => 0) y1 y2 = some (r) := by
  obtain ⟨m, hm⟩ := FU_s 1 (by decide)
  have hk : ∀ (K : Int32 → Option Int32), f_X12_known_L18 0 (fun _ => 0) (fun _ => 0) y1 K FU 0 = some (-1) := by
    intro K
    rw [hm, f_X12_known_L18, if_pos (by decide)]
  simp only [f_X11_known, f_X12_known, knownDay_e, hk, isShape_e, misShape_e, misWithin_e, W_iff, cb1_o, cb2_o, bI_0, i32_0, i64_0, i32_1, i64_1, i32_2, i64_2, i32_3, i64_3, i32_4, i64_4, i32_5, i64_5, i32_6, i64_6, i32_9, i64_9, i32_10, i64_10, i32_20, i64_20, i32_23, i64_23, i32_30, i64_30, i32_35, i64_35, i32_39, i64_39, i32_40, i64_40, i32_60, i64_60, i32_120, i64_120, i32_127, i64_127, i32_180, i64_180, i32_399, i64_399, i32_400, i64_400, i32_700, i64_700, i32_999, i64_999, i32_1000, i64_1000, i32_1439, i64_1439, i32_1440, i64_1440, i32_2000, i64_2000, i32_1000000, i64_1000000, i32_1000000000, i64_1000000000, i32_100000, i64_100000, i32_n1, i64_n1, i32_n100000, i64_n100000]
  by_cases h1 : 0 ≤ y1.toInt ∧ y1.toInt ≤ 3 <;> by_cases h2 : 0 ≤ y2.toInt ∧ y2.toInt ≤ 700 <;> simp only [h1, h2, and_self, not_true, not_false_eq_true, if_false, if_true] <;> exact ⟨_, _, rfl, rfl⟩
theorem pf_14 (y1 : Int32) (y2 : Int32) (y3 : Int32) : ∃ (r : Int32) (x_o_notes_gathered : Nat → Int32), f_X11_row 0 (fun _ => 0) (fun _ => 0) (fun _ => 0) (fun _ => 0) y1 y2 y3 = some (r, x_o_notes_gathered) ∧ f_X12_row 0 (fun _ => 0) (fun _ => 0) y1 y2 y3 = some (r) := by
  simp only [f_X11_row, f_X12_row, f_X3_longestRow, gather_e, manyOf_e, isShape_e, misShape_e, misWithin_e, W_iff, L_iff, t64, cb1_o, cb2_o, bI_0, i32_0, i64_0, i32_1, i64_1, i32_2, i64_2, i32_3, i64_3, i32_4, i64_4, i32_5, i64_5, i32_6, i64_6, i32_9, i64_9, i32_10, i64_10, i32_20, i64_20, i32_23, i64_23, i32_30, i64_30, i32_35, i64_35, i32_39, i64_39, i32_40, i64_40, i32_60, i64_60, i32_120, i64_120, i32_127, i64_127, i32_180, i64_180, i32_399, i64_399, i32_400, i64_400, i32_700, i64_700, i32_999, i64_999, i32_1000, i64_1000, i32_1439, i64_1439, i32_1440, i64_1440, i32_2000, i64_2000, i32_1000000, i64_1000000, i32_1000000000, i64_1000000000, i32_100000, i64_100000, i32_n1, i64_n1, i32_n100000, i64_n100000]
  by_cases h1 : 0 ≤ y1.toInt ∧ y1.toInt ≤ 3 <;> by_cases h2 : 0 ≤ y2.toInt ∧ y2.toInt ≤ 700 <;> by_cases h3 : 0 ≤ y3.toInt ∧ y3.toInt ≤ 1 <;> by_cases h4 : y3 = 0 <;> simp only [h1, h2, h3, h4, and_self, not_true, not_false_eq_true, if_false, if_true, ite_self] <;> exact ⟨_, _, rfl, rfl⟩
theorem pf_15 (y1 : Int32) : ∃ (r : Int32) (x_o_blips_many : Int32) (x_o_blips_times : Nat → Int32) (m_o_blips : Int32) (m_o_time : Nat → Int32), f_X11_blip 0 (fun _ => 0) y1 = some (r, x_o_blips_many, x_o_blips_times) ∧ f_X12_blip 0 (fun _ => 0) y1 = some (r, m_o_blips, m_o_time) := by
  simp only [f_X11_blip, f_X12_blip, f_X12_blip_J45, f_X0_add, f_X0_add_J33, W_iff, L_iff, t64, cb1_o, bI_0, i32_0, i64_0, i32_1, i64_1, i32_2, i64_2, i32_3, i64_3, i32_4, i64_4, i32_5, i64_5, i32_6, i64_6, i32_9, i64_9, i32_10, i64_10, i32_20, i64_20, i32_23, i64_23, i32_30, i64_30, i32_35, i64_35, i32_39, i64_39, i32_40, i64_40, i32_60, i64_60, i32_120, i64_120, i32_127, i64_127, i32_180, i64_180, i32_399, i64_399, i32_400, i64_400, i32_700, i64_700, i32_999, i64_999, i32_1000, i64_1000, i32_1439, i64_1439, i32_1440, i64_1440, i32_2000, i64_2000, i32_1000000, i64_1000000, i32_1000000000, i64_1000000000, i32_100000, i64_100000, i32_n1, i64_n1, i32_n100000, i64_n100000]
  by_cases h1 : 0 ≤ y1.toInt ∧ y1.toInt ≤ 1000000000 <;> simp only [h1, and_self, not_true, not_false_eq_true, if_false, if_true] <;> exact ⟨_, _, _, _, _, rfl, rfl⟩
theorem pf_16 (y1 : Int32) (y2 : Int32) : ∃ (r : Int32), f_X11_fits 0 y1 y2 = some (r) ∧ f_X12_fits 0 y1 y2 = some (r) := by
  refine ⟨-1, ?_, ?_⟩
  · simp only [f_X11_fits, isBeat_e, W_iff, cb1_o, show ¬ ((2 : Int32) ≤ 0) from by decide, if_false, ite_self]
  · simp only [f_X12_fits, misBeat_e, L_iff, cb1_o, show ((0 : Int32) ≤ 1) from by decide, if_true, ite_self]
theorem pf_17 (y1 : Int32) (y2 : Int32) (y3 : Int32) (y4 : Int32) : ∃ (r : Int32), f_X11_beats 0 y1 y2 y3 y4 = some (r) ∧ f_X12_beats 0 y1 y2 y3 y4 = some (r) := by
  refine ⟨-1, ?_, ?_⟩
  · simp only [f_X11_beats, canScan_e, cb1_o, if_true]
  · simp only [f_X12_beats, canBeat_e, cb1_o, if_true]
theorem pf_19 (y1 : Int32) (y2 : Int32) (y3 : Int32) : ∃ (r : Int32), f_X11_sure 0 y1 y2 y3 = some (r) ∧ f_X12_sure 0 y1 y2 y3 = some (r) := by
  refine ⟨-1, ?_, ?_⟩
  · simp only [f_X11_sure, canScan_e, cb1_o, if_true]
  · simp only [f_X12_sure, canBeat_e, cb1_o, if_true]
theorem pf_20 (y1 : Int32) (y2 : Int32) (y3 : Int32) : ∃ (r : Int32), f_X11_lost 0 y1 y2 y3 = some (r) ∧ f_X12_lost 0 y1 y2 y3 = some (r) := by
  refine ⟨-1, ?_, ?_⟩
  · simp only [f_X11_lost, canScan_e, cb1_o, if_true]
  · simp only [f_X12_lost, canBeat_e, cb1_o, if_true]
theorem pf_18 (y1 : Int32) (y2 : Int32) : ∃ (r : Int32), f_X11_counted 0 y1 y2 = some (r) ∧ f_X12_counted 0 y1 y2 = some (r) := by
  have h0 : bI ((0 : Int) ≤ y1.toInt ∧ y1.toInt ≤ -1) = 0 := by rw [bI_0]; omega
  refine ⟨-1, ?_, ?_⟩
  · simp only [f_X11_counted, isBeat_e, W_iff, cb1_o, s01, i32_0, i32_n1, h0, if_true, ite_self]
  · simp only [f_X12_counted, misBeat_e, L_iff, t64, cb1_o, s01, i64_0, i32_n1, h0, if_true, ite_self]
theorem pf_21 (y1 : Int32) (y2 : Int32) : ∃ (r : Int32) (x_o_nights_many : Int32) (x_o_nights_days : Nat → Int32) (x_o_nights_shifts : Nat → Int32) (m_o_nights : Int32) (m_o_found : Nat → Int32) (m_o_nightDay : Nat → Int32), f_X11_night 0 (fun _ => 0) (fun _ => 0) y1 y2 = some (r, x_o_nights_many, x_o_nights_days, x_o_nights_shifts) ∧ f_X12_night 0 (fun _ => 0) (fun _ => 0) y1 y2 = some (r, m_o_nights, m_o_found, m_o_nightDay) := by
  simp only [f_X11_night, f_X12_night, f_X2_add, isDay_e, misDay_e, W_iff, L_iff, t64, cb1_o, bI_0, i32_0, i64_0, i32_1, i64_1, i32_2, i64_2, i32_3, i64_3, i32_4, i64_4, i32_5, i64_5, i32_6, i64_6, i32_9, i64_9, i32_10, i64_10, i32_20, i64_20, i32_23, i64_23, i32_30, i64_30, i32_35, i64_35, i32_39, i64_39, i32_40, i64_40, i32_60, i64_60, i32_120, i64_120, i32_127, i64_127, i32_180, i64_180, i32_399, i64_399, i32_400, i64_400, i32_700, i64_700, i32_999, i64_999, i32_1000, i64_1000, i32_1439, i64_1439, i32_1440, i64_1440, i32_2000, i64_2000, i32_1000000, i64_1000000, i32_1000000000, i64_1000000000, i32_100000, i64_100000, i32_n1, i64_n1, i32_n100000, i64_n100000]
  by_cases h1 : 0 ≤ y1.toInt ∧ y1.toInt ≤ 399 <;> by_cases h2 : -100000 ≤ y2.toInt ∧ y2.toInt ≤ 100000 <;> simp only [h1, h2, and_self, not_true, not_false_eq_true, if_false, if_true] <;> exact ⟨_, _, _, _, _, _, _, rfl, rfl⟩
theorem pf_26 (y1 : Int32) (y2 : Int32) : ∃ (r : Int32) (x_o_lots_tens : Nat → Int32) (m_o_ten : Nat → Int32), f_X11_there (fun _ => 0) y1 y2 = some (r, x_o_lots_tens) ∧ f_X12_there (fun _ => 0) y1 y2 = some (r, m_o_ten) := by
  simp only [f_X11_there, f_X12_there, W_iff, L_iff, t64, cb1_o, bI_0, i32_0, i64_0, i32_1, i64_1, i32_2, i64_2, i32_3, i64_3, i32_4, i64_4, i32_5, i64_5, i32_6, i64_6, i32_9, i64_9, i32_10, i64_10, i32_20, i64_20, i32_23, i64_23, i32_30, i64_30, i32_35, i64_35, i32_39, i64_39, i32_40, i64_40, i32_60, i64_60, i32_120, i64_120, i32_127, i64_127, i32_180, i64_180, i32_399, i64_399, i32_400, i64_400, i32_700, i64_700, i32_999, i64_999, i32_1000, i64_1000, i32_1439, i64_1439, i32_1440, i64_1440, i32_2000, i64_2000, i32_1000000, i64_1000000, i32_1000000000, i64_1000000000, i32_100000, i64_100000, i32_n1, i64_n1, i32_n100000, i64_n100000]
  by_cases h1 : 0 ≤ y1.toInt ∧ y1.toInt ≤ 39 <;> by_cases h2 : 0 ≤ y2.toInt ∧ y2.toInt ≤ 10
  · have hj : jin y1 40 = true := jin_o h1.1 (by omega)
    simp only [h1, h2, and_self, not_true, not_false_eq_true, if_false, if_true, wrI_o hj]; exact ⟨_, _, _, rfl, rfl⟩
  all_goals (simp only [h1, h2, and_self, not_true, not_false_eq_true, if_false, if_true]; exact ⟨_, _, _, rfl, rfl⟩)
theorem pf_0 (y1 : Int32) (y2 : Int32) (y3 : Int32) (y4 : Int32) (y5 : Int32) : ∃ (r : Int32) (x_o_page_day : Int32) (x_o_sky_many : Int32) (m_o_sources : Int32) (m_o_byStar : Nat → Int32) (m_o_minuteOf : Nat → Int32) (m_o_shape : Nat → Int32) (m_o_weekdays : Nat → Int32) (m_o_wide : Nat → Int32), f_X11_source (-1) 0 (if y1 = 0 then 0 else 1) y2 y3 y4 y5 = some (r, x_o_page_day, x_o_sky_many) ∧ f_X12_source 0 (fun _ => 0) (fun _ => 0) (fun _ => 0) (fun _ => 0) (fun _ => 0) (if y1 = 0 then 0 else 1) y2 y3 y4 y5 = some (r, m_o_sources, m_o_byStar, m_o_minuteOf, m_o_shape, m_o_weekdays, m_o_wide) := by
  have hb : ∀ (β : Type) (k : Option β), bo (if y1 = 0 then 0 else 1) k = k := by
    intro β k
    unfold bo
    by_cases h : y1 = 0 <;> simp [h]
  simp only [f_X11_source, f_X12_source, f_X11_source_J41, f_X7_add, f_X4_forget, isMinute_e, misMinute_e, isShape_e, W_iff, L_iff, t64, cb1_o, cb2_o, bI_0, hb, i32_0, i64_0, i32_1, i64_1, i32_2, i64_2, i32_3, i64_3, i32_4, i64_4, i32_5, i64_5, i32_6, i64_6, i32_9, i64_9, i32_10, i64_10, i32_20, i64_20, i32_23, i64_23, i32_30, i64_30, i32_35, i64_35, i32_39, i64_39, i32_40, i64_40, i32_60, i64_60, i32_120, i64_120, i32_127, i64_127, i32_180, i64_180, i32_399, i64_399, i32_400, i64_400, i32_700, i64_700, i32_999, i64_999, i32_1000, i64_1000, i32_1439, i64_1439, i32_1440, i64_1440, i32_2000, i64_2000, i32_1000000, i64_1000000, i32_1000000000, i64_1000000000, i32_100000, i64_100000, i32_n1, i64_n1, i32_n100000, i64_n100000]
  by_cases h1 : 0 ≤ y2.toInt ∧ y2.toInt ≤ 1439 <;> by_cases h2 : 0 ≤ y3.toInt ∧ y3.toInt ≤ 30 <;> by_cases h3 : 0 ≤ y4.toInt ∧ y4.toInt ≤ 3 <;> by_cases h4 : 0 ≤ y5.toInt ∧ y5.toInt ≤ 127 <;> simp only [h1, h2, h3, h4, and_self, not_true, not_false_eq_true, if_false, if_true] <;> exact ⟨_, _, _, _, _, _, _, _, _, rfl, rfl⟩
