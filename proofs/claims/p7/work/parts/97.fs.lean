theorem fs_0 : pst_0 Inv2 := by
  intro σ G y1 y2 y3 y4 y5 hI
  obtain ⟨rx, x_o_page_day, x_o_sky_many, x_nt, rm, m_o_sources, m_o_byStar, m_o_minuteOf, m_o_shape, m_o_weekdays, m_o_wide, ex, em, hr, hN⟩ := qs_0 σ G y1 y2 y3 y4 y5 hI
  exact ⟨rx, x_o_page_day, x_o_sky_many, x_nt, rm, m_o_sources, m_o_byStar, m_o_minuteOf, m_o_shape, m_o_weekdays, m_o_wide, ex, em, hN⟩
theorem fs_1 : pst_1 Inv2 := by
  intro σ G y1 hI
  obtain ⟨rx, x_o_page_day, x_o_sky_seed, rm, m_o_seed, ex, em, hr, hN⟩ := qs_1 σ G y1 hI
  exact ⟨rx, x_o_page_day, x_o_sky_seed, rm, m_o_seed, ex, em, hN⟩
theorem fs_2 : pst_2 Inv2 := by
  intro σ G y1 y2 y3 y4 y5 hI
  obtain ⟨rx, x_o_tape_length, x_o_tape_bytes, rm, m_o_taped, m_o_tape, ex, em, hr, hN⟩ := qs_2 σ G y1 y2 y3 y4 y5 hI
  exact ⟨rx, x_o_tape_length, x_o_tape_bytes, rm, m_o_taped, m_o_tape, ex, em, hN⟩
theorem fs_3 : pst_3 Inv2 := by
  intro σ G y1 y2 hI
  obtain ⟨rx, x_o_page_day, x_o_scribe_length, x_o_scribe_at, x_o_scribe_used, x_o_scribe_fault, x_o_tape_length, x_o_scribe_code, x_o_scribe_middles, x_o_scribe_starts, x_nt, rm, m_o_taped, m_o_place, m_o_end, m_o_bad, m_o_clauses, m_o_codes, m_o_open, m_o_stacked, m_o_isOver, m_o_isBehind, m_o_code, m_o_codeArg, m_o_codeFrom, m_o_codeTo, m_o_many, m_o_newArg, m_o_newCode, m_o_newFrom, m_o_newSum, m_o_newTo, m_o_stack, m_o_sumFrom, ex, em, hr, hq, hN⟩ := qs_3 σ G y1 y2 hI
  exact ⟨rx, x_o_page_day, x_o_scribe_length, x_o_scribe_at, x_o_scribe_used, x_o_scribe_fault, x_o_tape_length, x_o_scribe_code, x_o_scribe_middles, x_o_scribe_starts, x_nt, rm, m_o_taped, m_o_place, m_o_end, m_o_bad, m_o_clauses, m_o_codes, m_o_open, m_o_stacked, m_o_isOver, m_o_isBehind, m_o_code, m_o_codeArg, m_o_codeFrom, m_o_codeTo, m_o_many, m_o_newArg, m_o_newCode, m_o_newFrom, m_o_newSum, m_o_newTo, m_o_stack, m_o_sumFrom, ex, em, hq, hN⟩
theorem fs_4 : pst_4 Inv2 := by
  intro σ G y1 y2 hI
  obtain ⟨rx, x_o_page_readers, x_o_scribe_length, x_o_scribe_at, x_o_scribe_used, x_o_scribe_fault, x_o_tape_length, x_o_scribe_code, x_o_scribe_middles, x_o_scribe_starts, x_nt, rm, m_o_taped, m_o_place, m_o_end, m_o_bad, m_o_clauses, m_o_codes, m_o_open, m_o_stacked, m_o_isOver, m_o_isBehind, m_o_code, m_o_codeArg, m_o_codeFrom, m_o_codeTo, m_o_many, m_o_newArg, m_o_newCode, m_o_newFrom, m_o_newSum, m_o_newTo, m_o_stack, m_o_sumFrom, ex, em, hr, hq, hN⟩ := qs_4 σ G y1 y2 hI
  exact ⟨rx, x_o_page_readers, x_o_scribe_length, x_o_scribe_at, x_o_scribe_used, x_o_scribe_fault, x_o_tape_length, x_o_scribe_code, x_o_scribe_middles, x_o_scribe_starts, x_nt, rm, m_o_taped, m_o_place, m_o_end, m_o_bad, m_o_clauses, m_o_codes, m_o_open, m_o_stacked, m_o_isOver, m_o_isBehind, m_o_code, m_o_codeArg, m_o_codeFrom, m_o_codeTo, m_o_many, m_o_newArg, m_o_newCode, m_o_newFrom, m_o_newSum, m_o_newTo, m_o_stack, m_o_sumFrom, ex, em, hq, hN⟩
theorem fs_5 : pst_5 Inv2 := by
  intro σ G y1 y2 hI
  obtain ⟨rx, x_o_scribe_length, x_o_scribe_at, x_o_scribe_used, x_o_scribe_fault, x_o_tape_length, x_o_scribe_code, x_o_scribe_middles, x_o_scribe_starts, x_nt, rm, m_o_taped, m_o_place, m_o_end, m_o_bad, m_o_clauses, m_o_codes, m_o_open, m_o_stacked, m_o_isBehind, m_o_code, m_o_codeArg, m_o_codeFrom, m_o_codeTo, m_o_many, m_o_newArg, m_o_newCode, m_o_newFrom, m_o_newSum, m_o_newTo, m_o_stack, m_o_sumFrom, ex, em, hr, hq, hN⟩ := qs_5 σ G y1 y2 hI
  exact ⟨rx, x_o_scribe_length, x_o_scribe_at, x_o_scribe_used, x_o_scribe_fault, x_o_tape_length, x_o_scribe_code, x_o_scribe_middles, x_o_scribe_starts, x_nt, rm, m_o_taped, m_o_place, m_o_end, m_o_bad, m_o_clauses, m_o_codes, m_o_open, m_o_stacked, m_o_isBehind, m_o_code, m_o_codeArg, m_o_codeFrom, m_o_codeTo, m_o_many, m_o_newArg, m_o_newCode, m_o_newFrom, m_o_newSum, m_o_newTo, m_o_stack, m_o_sumFrom, ex, em, hr, hq, hN⟩
theorem fs_6 : pst_6 Inv2 := by
  intro σ G y1 y2 hI
  obtain ⟨rx, rm, ex, em, hr, hN⟩ := qs_6 σ G y1 y2 hI
  exact ⟨rx, rm, ex, em, hN⟩
theorem fs_7 : pst_7 Inv2 := by
  intro σ G y1 y2 y3 hI
  obtain ⟨rx, x_o_sky_reckoner_letters, x_o_sky_reckoner_values, rm, m_o_atA, m_o_atB, m_o_atD, m_o_atF, m_o_atG, m_o_atH, m_o_atL, m_o_atM, m_o_atN, m_o_atS, m_o_atT, m_o_atU, m_o_atX, m_o_isRefused, m_o_worth, ex, em, hr, hN⟩ := qs_7 σ G y1 y2 y3 hI
  exact ⟨rx, x_o_sky_reckoner_letters, x_o_sky_reckoner_values, rm, m_o_atA, m_o_atB, m_o_atD, m_o_atF, m_o_atG, m_o_atH, m_o_atL, m_o_atM, m_o_atN, m_o_atS, m_o_atT, m_o_atU, m_o_atX, m_o_isRefused, m_o_worth, ex, em, hN⟩
theorem fs_8 : pst_8 Inv2 := by
  intro σ G y1 y2 y3 hI
  obtain ⟨rx, x_o_page_readers, x_o_page_day, x_o_page_heights, x_o_page_highest, x_o_page_shapes, x_o_sky_reckoner_letters, x_o_sky_reckoner_values, rm, m_o_atA, m_o_atB, m_o_atD, m_o_atF, m_o_atG, m_o_atH, m_o_atL, m_o_atM, m_o_atN, m_o_atS, m_o_atT, m_o_atU, m_o_atX, m_o_paperHigh, m_o_paperShape, m_o_isRefused, m_o_worth, ex, em, hN⟩ := qs_8 σ G y1 y2 y3 hI
  exact ⟨rx, x_o_page_readers, x_o_page_day, x_o_page_heights, x_o_page_highest, x_o_page_shapes, x_o_sky_reckoner_letters, x_o_sky_reckoner_values, rm, m_o_atA, m_o_atB, m_o_atD, m_o_atF, m_o_atG, m_o_atH, m_o_atL, m_o_atM, m_o_atN, m_o_atS, m_o_atT, m_o_atU, m_o_atX, m_o_paperHigh, m_o_paperShape, m_o_isRefused, m_o_worth, ex, em, hN⟩
theorem fs_9 : pst_9 Inv2 := by
  intro σ G y1 y2 y3 hI
  obtain ⟨rx, x_o_page_readers, x_o_page_day, x_o_page_heights, x_o_page_highest, x_o_page_marked, x_o_page_shapes, x_o_page_reckoner_letters, x_o_page_reckoner_values, x_o_sky_reckoner_letters, x_o_sky_reckoner_values, rm, m_o_atA, m_o_atB, m_o_atD, m_o_atF, m_o_atG, m_o_atH, m_o_atL, m_o_atM, m_o_atN, m_o_atS, m_o_atT, m_o_atU, m_o_atX, m_o_paperHigh, m_o_paperShape, m_o_first, m_o_greatest, m_o_highAt, m_o_isRefused, m_o_last, m_o_marked, m_o_shapeAt, m_o_worth, ex, em, hN⟩ := qs_9 σ G y1 y2 y3 hI
  exact ⟨rx, x_o_page_readers, x_o_page_day, x_o_page_heights, x_o_page_highest, x_o_page_marked, x_o_page_shapes, x_o_page_reckoner_letters, x_o_page_reckoner_values, x_o_sky_reckoner_letters, x_o_sky_reckoner_values, rm, m_o_atA, m_o_atB, m_o_atD, m_o_atF, m_o_atG, m_o_atH, m_o_atL, m_o_atM, m_o_atN, m_o_atS, m_o_atT, m_o_atU, m_o_atX, m_o_paperHigh, m_o_paperShape, m_o_first, m_o_greatest, m_o_highAt, m_o_isRefused, m_o_last, m_o_marked, m_o_shapeAt, m_o_worth, ex, em, hN⟩
theorem fs_10 : pst_10 Inv2 := by
  intro σ G y1 y2 y3 y4 y5 hI
  obtain ⟨rx, x_o_page_readers, x_o_page_day, x_o_page_heights, x_o_page_highest, x_o_page_marked, x_o_page_shapes, x_o_page_reckoner_letters, x_o_page_reckoner_values, x_o_sky_reckoner_letters, x_o_sky_reckoner_values, rm, m_o_atA, m_o_atB, m_o_atD, m_o_atF, m_o_atG, m_o_atH, m_o_atL, m_o_atM, m_o_atN, m_o_atS, m_o_atT, m_o_atU, m_o_atX, m_o_paperHigh, m_o_paperShape, m_o_first, m_o_greatest, m_o_highAt, m_o_isRefused, m_o_last, m_o_marked, m_o_shapeAt, m_o_worth, ex, em, hN⟩ := qs_10 σ G y1 y2 y3 y4 y5 hI
  exact ⟨rx, x_o_page_readers, x_o_page_day, x_o_page_heights, x_o_page_highest, x_o_page_marked, x_o_page_shapes, x_o_page_reckoner_letters, x_o_page_reckoner_values, x_o_sky_reckoner_letters, x_o_sky_reckoner_values, rm, m_o_atA, m_o_atB, m_o_atD, m_o_atF, m_o_atG, m_o_atH, m_o_atL, m_o_atM, m_o_atN, m_o_atS, m_o_atT, m_o_atU, m_o_atX, m_o_paperHigh, m_o_paperShape, m_o_first, m_o_greatest, m_o_highAt, m_o_isRefused, m_o_last, m_o_marked, m_o_shapeAt, m_o_worth, ex, em, hN⟩
theorem fs_11 : pst_11 Inv2 := by
  intro σ G y1 y2 y3 hI
  obtain ⟨rx, x_o_notes_many, x_o_notes_days, x_o_notes_minutes, x_o_notes_shapes, rm, m_o_notes, m_o_noteDay, m_o_noteMinute, m_o_noteShape, ex, em, hr, hN⟩ := qs_11 σ G y1 y2 y3 hI
  exact ⟨rx, x_o_notes_many, x_o_notes_days, x_o_notes_minutes, x_o_notes_shapes, rm, m_o_notes, m_o_noteDay, m_o_noteMinute, m_o_noteShape, ex, em, hN⟩
theorem fs_12 : pst_12 Inv2 := by
  intro σ G y1 y2 hI
  obtain ⟨rx, x_o_notes_gathered, rm, ex, em, hr, hN⟩ := qs_12 σ G y1 y2 hI
  exact ⟨rx, x_o_notes_gathered, rm, ex, em, hN⟩
theorem fs_13 : pst_13 Inv2 := by
  intro σ G y1 y2 hI
  obtain ⟨rx, x_o_notes_gathered, rm, ex, em, hr, hN⟩ := qs_13 σ G y1 y2 hI
  exact ⟨rx, x_o_notes_gathered, rm, ex, em, hN⟩
theorem fs_14 : pst_14 Inv2 := by
  intro σ G y1 y2 y3 hI
  obtain ⟨rx, x_o_notes_gathered, rm, ex, em, hr, hN⟩ := qs_14 σ G y1 y2 y3 hI
  exact ⟨rx, x_o_notes_gathered, rm, ex, em, hN⟩
theorem fs_15 : pst_15 Inv2 := by
  intro σ G y1 hI
  obtain ⟨rx, x_o_blips_many, x_o_blips_times, rm, m_o_blips, m_o_time, ex, em, hr, hN⟩ := qs_15 σ G y1 hI
  exact ⟨rx, x_o_blips_many, x_o_blips_times, rm, m_o_blips, m_o_time, ex, em, hN⟩
theorem fs_16 : pst_16 Inv2 := by
  intro σ G y1 y2 hI
  obtain ⟨rx, x_o_blips_rests, rm, ex, em, hr, hN⟩ := qs_16 σ G y1 y2 hI
  exact ⟨rx, x_o_blips_rests, rm, ex, em, hN⟩
theorem fs_17 : pst_17 Inv2 := by
  intro σ G y1 y2 y3 y4 hI
  obtain ⟨rx, x_o_blips_fitting, x_o_blips_least, x_o_blips_greatest, x_o_blips_rests, rm, m_o_fitMany, m_o_fitLeast, m_o_fitMost, ex, em, hr, hN⟩ := qs_17 σ G y1 y2 y3 y4 hI
  exact ⟨rx, x_o_blips_fitting, x_o_blips_least, x_o_blips_greatest, x_o_blips_rests, rm, m_o_fitMany, m_o_fitLeast, m_o_fitMost, ex, em, hN⟩
theorem fs_18 : pst_18 Inv2 := by
  intro σ G y1 y2 hI
  obtain ⟨rx, rm, ex, em, hr, hN⟩ := qs_18 σ G y1 y2 hI
  exact ⟨rx, rm, ex, em, hN⟩
theorem fs_19 : pst_19 Inv2 := by
  intro σ G y1 y2 y3 hI
  obtain ⟨rx, x_o_blips_fitting, x_o_blips_least, x_o_blips_greatest, x_o_blips_rests, rm, m_o_fitMany, m_o_fitLeast, m_o_fitMost, ex, em, hr, hN⟩ := qs_19 σ G y1 y2 y3 hI
  exact ⟨rx, x_o_blips_fitting, x_o_blips_least, x_o_blips_greatest, x_o_blips_rests, rm, m_o_fitMany, m_o_fitLeast, m_o_fitMost, ex, em, hN⟩
theorem fs_20 : pst_20 Inv2 := by
  intro σ G y1 y2 y3 hI
  obtain ⟨rx, x_o_blips_fitting, x_o_blips_least, x_o_blips_greatest, x_o_blips_rests, rm, m_o_fitMany, m_o_fitLeast, m_o_fitMost, ex, em, hr, hN⟩ := qs_20 σ G y1 y2 y3 hI
  exact ⟨rx, x_o_blips_fitting, x_o_blips_least, x_o_blips_greatest, x_o_blips_rests, rm, m_o_fitMany, m_o_fitLeast, m_o_fitMost, ex, em, hN⟩
theorem fs_21 : pst_21 Inv2 := by
  intro σ G y1 y2 hI
  obtain ⟨rx, x_o_nights_many, x_o_nights_days, x_o_nights_shifts, rm, m_o_nights, m_o_found, m_o_nightDay, ex, em, hr, hN⟩ := qs_21 σ G y1 y2 hI
  exact ⟨rx, x_o_nights_many, x_o_nights_days, x_o_nights_shifts, rm, m_o_nights, m_o_found, m_o_nightDay, ex, em, hN⟩
theorem fs_22 : pst_22 Inv2 := by
  intro σ G y1 y2 hI
  obtain ⟨rx, x_o_nights_reckoner_letters, x_o_nights_reckoner_values, rm, m_o_atA, m_o_atB, m_o_atD, m_o_atF, m_o_atG, m_o_atH, m_o_atL, m_o_atM, m_o_atN, m_o_atS, m_o_atT, m_o_atU, m_o_atX, m_o_isRefused, m_o_worth, ex, em, hr, hN⟩ := qs_22 σ G y1 y2 hI
  exact ⟨rx, x_o_nights_reckoner_letters, x_o_nights_reckoner_values, rm, m_o_atA, m_o_atB, m_o_atD, m_o_atF, m_o_atG, m_o_atH, m_o_atL, m_o_atM, m_o_atN, m_o_atS, m_o_atT, m_o_atU, m_o_atX, m_o_isRefused, m_o_worth, ex, em, hN⟩
theorem fs_23 : pst_23 Inv2 := by
  intro σ G y1 y2 hI
  obtain ⟨rx, x_o_nights_reckoner_letters, x_o_nights_reckoner_values, rm, m_o_atA, m_o_atB, m_o_atD, m_o_atF, m_o_atG, m_o_atH, m_o_atL, m_o_atM, m_o_atN, m_o_atS, m_o_atT, m_o_atU, m_o_atX, m_o_isRefused, m_o_worth, ex, em, hr, hN⟩ := qs_23 σ G y1 y2 hI
  exact ⟨rx, x_o_nights_reckoner_letters, x_o_nights_reckoner_values, rm, m_o_atA, m_o_atB, m_o_atD, m_o_atF, m_o_atG, m_o_atH, m_o_atL, m_o_atM, m_o_atN, m_o_atS, m_o_atT, m_o_atU, m_o_atX, m_o_isRefused, m_o_worth, ex, em, hN⟩
theorem fs_24 : pst_24 Inv2 := by
  intro σ G y1 y2 hI
  obtain ⟨rx, x_o_nights_fallen, x_o_nights_reckoner_letters, x_o_nights_reckoner_values, rm, m_o_atA, m_o_atB, m_o_atD, m_o_atF, m_o_atG, m_o_atH, m_o_atL, m_o_atM, m_o_atN, m_o_atS, m_o_atT, m_o_atU, m_o_atX, m_o_isRefused, m_o_worth, ex, em, hr, hN⟩ := qs_24 σ G y1 y2 hI
  exact ⟨rx, x_o_nights_fallen, x_o_nights_reckoner_letters, x_o_nights_reckoner_values, rm, m_o_atA, m_o_atB, m_o_atD, m_o_atF, m_o_atG, m_o_atH, m_o_atL, m_o_atM, m_o_atN, m_o_atS, m_o_atT, m_o_atU, m_o_atX, m_o_isRefused, m_o_worth, ex, em, hN⟩
theorem fs_25 : pst_25 Inv2 := by
  intro σ G y1 y2 hI
  obtain ⟨rx, rm, ex, em, hr, hN⟩ := qs_25 σ G y1 y2 hI
  exact ⟨rx, rm, ex, em, hN⟩
theorem fs_26 : pst_26 Inv2 := by
  intro σ G y1 y2 hI
  obtain ⟨rx, x_o_lots_tens, rm, m_o_ten, ex, em, hr, hN⟩ := qs_26 σ G y1 y2 hI
  exact ⟨rx, x_o_lots_tens, rm, m_o_ten, ex, em, hN⟩
theorem fs_27 : pst_27 Inv2 := by
  intro σ G y1 y2 y3 hI
  obtain ⟨rx, x_o_lots_unseen, x_o_lots_best, x_o_lots_chosen, rm, m_o_leastFrom, ex, em, hN⟩ := qs_27 σ G y1 y2 y3 hI
  exact ⟨rx, x_o_lots_unseen, x_o_lots_best, x_o_lots_chosen, rm, m_o_leastFrom, ex, em, hN⟩
theorem fs_28 : pst_28 Inv2 := by
  intro σ G y1 y2 y3 y4 y5 hI
  obtain ⟨rx, rm, ex, em, hr, hN⟩ := qs_28 σ G y1 y2 y3 y4 y5 hI
  exact ⟨rx, rm, ex, em, hN⟩
theorem fs_29 : pst_29 Inv2 := by
  intro σ G y1 y2 y3 y4 y5 hI
  obtain ⟨rx, rm, ex, em, hr, hN⟩ := qs_29 σ G y1 y2 y3 y4 y5 hI
  exact ⟨rx, rm, ex, em, hN⟩
theorem fs_30 : pst_30 Inv2 := by
  intro σ G y1 y2 y3 hI
  obtain ⟨rx, x_o_page_readers, x_o_page_day, x_o_tape_length, x_o_page_heights, x_o_page_highest, x_o_page_marked, x_o_page_shapes, x_o_page_reckoner_letters, x_o_page_reckoner_values, x_o_sky_reckoner_letters, x_o_sky_reckoner_values, rm, m_o_taped, m_o_atA, m_o_atB, m_o_atD, m_o_atF, m_o_atG, m_o_atH, m_o_atL, m_o_atM, m_o_atN, m_o_atS, m_o_atT, m_o_atU, m_o_atX, m_o_paperHigh, m_o_paperShape, m_o_first, m_o_greatest, m_o_highAt, m_o_isRefused, m_o_last, m_o_marked, m_o_shapeAt, m_o_worth, ex, em, hN⟩ := qs_30 σ G y1 y2 y3 hI
  exact ⟨rx, x_o_page_readers, x_o_page_day, x_o_tape_length, x_o_page_heights, x_o_page_highest, x_o_page_marked, x_o_page_shapes, x_o_page_reckoner_letters, x_o_page_reckoner_values, x_o_sky_reckoner_letters, x_o_sky_reckoner_values, rm, m_o_taped, m_o_atA, m_o_atB, m_o_atD, m_o_atF, m_o_atG, m_o_atH, m_o_atL, m_o_atM, m_o_atN, m_o_atS, m_o_atT, m_o_atU, m_o_atX, m_o_paperHigh, m_o_paperShape, m_o_first, m_o_greatest, m_o_highAt, m_o_isRefused, m_o_last, m_o_marked, m_o_shapeAt, m_o_worth, ex, em, hN⟩
theorem fs_31 : pst_31 Inv2 := by
  intro σ G y1 hI
  obtain ⟨rx, rm, ex, em, hr, hN⟩ := qs_31 σ G y1 hI
  exact ⟨rx, rm, ex, em, hN⟩
