theorem pf_0 (y1 : Int32) (y2 : Int32) (y3 : Int32) (y4 : Int32) (y5 : Int32) : ∃ (r : Int32) (x_o_page_day : Int32) (x_o_sky_many : Int32) (m_o_sources : Int32) (m_o_byStar : Nat → Int32) (m_o_minuteOf : Nat → Int32) (m_o_shape : Nat → Int32) (m_o_weekdays : Nat → Int32) (m_o_wide : Nat → Int32), f_X11_source (-1) 0 (if y1 = 0 then 0 else 1) y2 y3 y4 y5 = some (r, x_o_page_day, x_o_sky_many) ∧ f_X12_source 0 (fun _ => 0) (fun _ => 0) (fun _ => 0) (fun _ => 0) (fun _ => 0) (if y1 = 0 then 0 else 1) y2 y3 y4 y5 = some (r, m_o_sources, m_o_byStar, m_o_minuteOf, m_o_shape, m_o_weekdays, m_o_wide) := by
  sorry
theorem pf_1 (y1 : Int32) : ∃ (r : Int32) (x_o_page_day : Int32) (x_o_sky_seed : Int32) (m_o_seed : Int32), f_X11_seed (-1) 0 y1 = some (r, x_o_page_day, x_o_sky_seed) ∧ f_X12_seed 0 y1 = some (r, m_o_seed) := by
  sorry
theorem pf_2 (y1 : Int32) (y2 : Int32) (y3 : Int32) (y4 : Int32) (y5 : Int32) : ∃ (r : Int32) (x_o_tape_length : Int32) (x_o_tape_bytes : Nat → Int32) (m_o_taped : Int32) (m_o_tape : Nat → Int32), f_X11_feed 0 (fun _ => 0) y1 y2 y3 y4 y5 = some (r, x_o_tape_length, x_o_tape_bytes) ∧ f_X12_feed 0 (fun _ => 0) y1 y2 y3 y4 y5 = some (r, m_o_taped, m_o_tape) := by
  sorry
theorem pf_3 (y1 : Int32) (y2 : Int32) : ∃ (r : Int32), f_X11_law 0 (fun _ => none) y1 y2 = some (r) ∧ f_X12_law 0 0 y1 y2 = some (r) := by
  sorry
theorem pf_4 (y1 : Int32) (y2 : Int32) : ∃ (r : Int32), f_X11_way 0 y1 y2 = some (r) ∧ f_X12_way 0 y1 y2 = some (r) := by
  sorry
theorem pf_5 (y1 : Int32) (y2 : Int32) : ∃ (r : Int32), f_X11_story 0 y1 y2 = some (r) ∧ f_X12_story 0 y1 y2 = some (r) := by
  sorry
theorem pf_6 (y1 : Int32) (y2 : Int32) : ∃ (r : Int32), f_X11_star y1 y2 = some (r) ∧ f_X12_star y1 y2 = some (r) := by
  sorry
theorem pf_7 (y1 : Int32) (y2 : Int32) (y3 : Int32) : ∃ (r : Int32), f_X11_height 0 (fun _ => none) y1 y2 y3 = some (r) ∧ f_X12_height 0 y1 y2 y3 = some (r) := by
  sorry
theorem pf_8 (y1 : Int32) (y2 : Int32) (y3 : Int32) : ∃ (r : Int32) (x_o_page_readers : Int32) (x_o_page_day : Int32) (x_o_page_heights : Nat → Int32) (x_o_page_highest : Nat → Int32) (x_o_page_shapes : Nat → Int32) (m_o_paperHigh : Int32) (m_o_paperShape : Int32), f_X11_paper 0 (-1) 0 (fun _ => 0) (fun _ => 0) (fun _ => 0) (fun _ => none) y1 y2 y3 = some (r, x_o_page_readers, x_o_page_day, x_o_page_heights, x_o_page_highest, x_o_page_shapes) ∧ f_X12_paper 0 0 0 y1 y2 y3 = some (r, m_o_paperHigh, m_o_paperShape) := by
  sorry
theorem pf_9 (y1 : Int32) (y2 : Int32) (y3 : Int32) : ∃ (r : Int32) (x_o_page_readers : Int32) (x_o_page_day : Int32) (x_o_page_heights : Nat → Int32) (x_o_page_highest : Nat → Int32) (x_o_page_marked : Nat → Int32) (x_o_page_shapes : Nat → Int32) (x_o_page_reckoner_letters : Nat → Int32) (m_o_atA : Int32) (m_o_atB : Int32) (m_o_atD : Int32) (m_o_atF : Int32) (m_o_atG : Int32) (m_o_atH : Int32) (m_o_atL : Int32) (m_o_atM : Int32) (m_o_atN : Int32) (m_o_atS : Int32) (m_o_atT : Int32) (m_o_atU : Int32) (m_o_atX : Int32) (m_o_paperHigh : Int32) (m_o_paperShape : Int32) (m_o_first : Nat → Int32) (m_o_greatest : Nat → Int32) (m_o_highAt : Nat → Int32) (m_o_last : Nat → Int32) (m_o_marked : Nat → Int32) (m_o_shapeAt : Nat → Int32), f_X11_marks 0 (-1) 0 (fun _ => none) (fun _ => 0) (fun _ => 0) (fun _ => 0) (fun _ => 0) (fun _ => none) (fun _ => 0) y1 y2 y3 = some (r, x_o_page_readers, x_o_page_day, x_o_page_heights, x_o_page_highest, x_o_page_marked, x_o_page_shapes, x_o_page_reckoner_letters) ∧ f_X12_marks 0 0 0 0 0 0 0 0 0 0 0 0 0 0 0 0 (fun _ => 0) (fun _ => 0) (fun _ => 0) (fun _ => 0) (fun _ => 0) (fun _ => 0) (fun _ => 0) y1 y2 y3 = some (r, m_o_atA, m_o_atB, m_o_atD, m_o_atF, m_o_atG, m_o_atH, m_o_atL, m_o_atM, m_o_atN, m_o_atS, m_o_atT, m_o_atU, m_o_atX, m_o_paperHigh, m_o_paperShape, m_o_first, m_o_greatest, m_o_highAt, m_o_last, m_o_marked, m_o_shapeAt) := by
  sorry
theorem pf_10 (y1 : Int32) (y2 : Int32) (y3 : Int32) (y4 : Int32) (y5 : Int32) : ∃ (r : Int32) (x_o_page_readers : Int32) (x_o_page_day : Int32) (x_o_page_heights : Nat → Int32) (x_o_page_highest : Nat → Int32) (x_o_page_marked : Nat → Int32) (x_o_page_shapes : Nat → Int32) (x_o_page_reckoner_letters : Nat → Int32) (m_o_atA : Int32) (m_o_atB : Int32) (m_o_atD : Int32) (m_o_atF : Int32) (m_o_atG : Int32) (m_o_atH : Int32) (m_o_atL : Int32) (m_o_atM : Int32) (m_o_atN : Int32) (m_o_atS : Int32) (m_o_atT : Int32) (m_o_atU : Int32) (m_o_atX : Int32) (m_o_paperHigh : Int32) (m_o_paperShape : Int32) (m_o_first : Nat → Int32) (m_o_greatest : Nat → Int32) (m_o_highAt : Nat → Int32) (m_o_last : Nat → Int32) (m_o_marked : Nat → Int32) (m_o_shapeAt : Nat → Int32), f_X11_passed 0 (-1) 0 (fun _ => none) (fun _ => 0) (fun _ => 0) (fun _ => 0) (fun _ => 0) (fun _ => none) (fun _ => 0) y1 y2 y3 y4 y5 = some (r, x_o_page_readers, x_o_page_day, x_o_page_heights, x_o_page_highest, x_o_page_marked, x_o_page_shapes, x_o_page_reckoner_letters) ∧ f_X12_passed 0 0 0 0 0 0 0 0 0 0 0 0 0 0 0 0 (fun _ => 0) (fun _ => 0) (fun _ => 0) (fun _ => 0) (fun _ => 0) (fun _ => 0) (fun _ => 0) y1 y2 y3 y4 y5 = some (r, m_o_atA, m_o_atB, m_o_atD, m_o_atF, m_o_atG, m_o_atH, m_o_atL, m_o_atM, m_o_atN, m_o_atS, m_o_atT, m_o_atU, m_o_atX, m_o_paperHigh, m_o_paperShape, m_o_first, m_o_greatest, m_o_highAt, m_o_last, m_o_marked, m_o_shapeAt) := by
  sorry
theorem pf_11 (y1 : Int32) (y2 : Int32) (y3 : Int32) : ∃ (r : Int32) (x_o_notes_many : Int32) (x_o_notes_days : Nat → Int32) (x_o_notes_minutes : Nat → Int32) (x_o_notes_shapes : Nat → Int32) (m_o_notes : Int32) (m_o_noteDay : Nat → Int32) (m_o_noteMinute : Nat → Int32) (m_o_noteShape : Nat → Int32), f_X11_note 0 (fun _ => 0) (fun _ => 0) (fun _ => 0) y1 y2 y3 = some (r, x_o_notes_many, x_o_notes_days, x_o_notes_minutes, x_o_notes_shapes) ∧ f_X12_note 0 (fun _ => 0) (fun _ => 0) (fun _ => 0) y1 y2 y3 = some (r, m_o_notes, m_o_noteDay, m_o_noteMinute, m_o_noteShape) := by
  sorry
theorem pf_12 (y1 : Int32) (y2 : Int32) : ∃ (r : Int32) (x_o_notes_gathered : Nat → Int32), f_X11_one 0 (fun _ => 0) (fun _ => 0) (fun _ => 0) (fun _ => 0) y1 y2 = some (r, x_o_notes_gathered) ∧ f_X12_one 0 (fun _ => 0) (fun _ => 0) y1 y2 = some (r) := by
  sorry
theorem pf_13 (y1 : Int32) (y2 : Int32) : ∃ (r : Int32) (x_o_notes_gathered : Nat → Int32), f_X11_known 0 (fun _ => 0) (fun _ => 0) (fun _ => 0) (fun _ => 0) y1 y2 = some (r, x_o_notes_gathered) ∧ f_X12_known 0 (fun _ => 0) (fun _ => 0) y1 y2 = some (r) := by
  sorry
theorem pf_14 (y1 : Int32) (y2 : Int32) (y3 : Int32) : ∃ (r : Int32) (x_o_notes_gathered : Nat → Int32), f_X11_row 0 (fun _ => 0) (fun _ => 0) (fun _ => 0) (fun _ => 0) y1 y2 y3 = some (r, x_o_notes_gathered) ∧ f_X12_row 0 (fun _ => 0) (fun _ => 0) y1 y2 y3 = some (r) := by
  sorry
theorem pf_15 (y1 : Int32) : ∃ (r : Int32) (x_o_blips_many : Int32) (x_o_blips_times : Nat → Int32) (m_o_blips : Int32) (m_o_time : Nat → Int32), f_X11_blip 0 (fun _ => 0) y1 = some (r, x_o_blips_many, x_o_blips_times) ∧ f_X12_blip 0 (fun _ => 0) y1 = some (r, m_o_blips, m_o_time) := by
  sorry
theorem pf_16 (y1 : Int32) (y2 : Int32) : ∃ (r : Int32), f_X11_fits 0 y1 y2 = some (r) ∧ f_X12_fits 0 y1 y2 = some (r) := by
  sorry
theorem pf_17 (y1 : Int32) (y2 : Int32) (y3 : Int32) (y4 : Int32) : ∃ (r : Int32), f_X11_beats 0 y1 y2 y3 y4 = some (r) ∧ f_X12_beats 0 y1 y2 y3 y4 = some (r) := by
  sorry
theorem pf_18 (y1 : Int32) (y2 : Int32) : ∃ (r : Int32), f_X11_counted 0 y1 y2 = some (r) ∧ f_X12_counted 0 y1 y2 = some (r) := by
  sorry
theorem pf_19 (y1 : Int32) (y2 : Int32) (y3 : Int32) : ∃ (r : Int32), f_X11_sure 0 y1 y2 y3 = some (r) ∧ f_X12_sure 0 y1 y2 y3 = some (r) := by
  sorry
theorem pf_20 (y1 : Int32) (y2 : Int32) (y3 : Int32) : ∃ (r : Int32), f_X11_lost 0 y1 y2 y3 = some (r) ∧ f_X12_lost 0 y1 y2 y3 = some (r) := by
  sorry
theorem pf_21 (y1 : Int32) (y2 : Int32) : ∃ (r : Int32) (x_o_nights_many : Int32) (x_o_nights_days : Nat → Int32) (x_o_nights_shifts : Nat → Int32) (m_o_nights : Int32) (m_o_found : Nat → Int32) (m_o_nightDay : Nat → Int32), f_X11_night 0 (fun _ => 0) (fun _ => 0) y1 y2 = some (r, x_o_nights_many, x_o_nights_days, x_o_nights_shifts) ∧ f_X12_night 0 (fun _ => 0) (fun _ => 0) y1 y2 = some (r, m_o_nights, m_o_found, m_o_nightDay) := by
  sorry
theorem pf_22 (y1 : Int32) (y2 : Int32) : ∃ (r : Int32), f_X11_says (fun _ => none) y1 y2 = some (r) ∧ f_X12_says 0 (fun _ => 0) y1 y2 = some (r) := by
  sorry
theorem pf_23 (y1 : Int32) (y2 : Int32) : ∃ (r : Int32), f_X11_falls (fun _ => none) y1 y2 = some (r) ∧ f_X12_falls (fun _ => 0) y1 y2 = some (r) := by
  sorry
theorem pf_24 (y1 : Int32) (y2 : Int32) : ∃ (r : Int32) (x_o_nights_fallen : Nat → Int32), f_X11_told 0 (fun _ => 0) (fun _ => none) y1 y2 = some (r, x_o_nights_fallen) ∧ f_X12_told 0 (fun _ => 0) y1 y2 = some (r) := by
  sorry
theorem pf_25 (y1 : Int32) (y2 : Int32) : ∃ (r : Int32), f_X11_bound 0 (fun _ => 0) y1 y2 = some (r) ∧ f_X12_bound 0 (fun _ => 0) (fun _ => 0) y1 y2 = some (r) := by
  sorry
theorem pf_26 (y1 : Int32) (y2 : Int32) : ∃ (r : Int32) (x_o_lots_tens : Nat → Int32) (m_o_ten : Nat → Int32), f_X11_there (fun _ => 0) y1 y2 = some (r, x_o_lots_tens) ∧ f_X12_there (fun _ => 0) y1 y2 = some (r, m_o_ten) := by
  sorry
theorem pf_27 (y1 : Int32) (y2 : Int32) (y3 : Int32) : ∃ (r : Int32) (x_o_lots_unseen : Int32) (x_o_lots_best : Nat → Int32) (x_o_lots_chosen : Nat → Int32) (m_o_leastFrom : Nat → Int32), f_X11_pen 0 (fun _ => 0) (fun _ => 0) (fun _ => 0) y1 y2 y3 = some (r, x_o_lots_unseen, x_o_lots_best, x_o_lots_chosen) ∧ f_X12_pen (fun _ => 0) (fun _ => 0) y1 y2 y3 = some (r, m_o_leastFrom) := by
  sorry
theorem pf_28 (y1 : Int32) (y2 : Int32) (y3 : Int32) (y4 : Int32) (y5 : Int32) : ∃ (r : Int64), f_X11_odds y1 y2 y3 y4 y5 = some (r) ∧ f_X12_odds y1 y2 y3 y4 y5 = some (r) := by
  sorry
theorem pf_29 (y1 : Int32) (y2 : Int32) (y3 : Int32) (y4 : Int32) (y5 : Int32) : ∃ (r : Int32), f_X11_more y1 y2 y3 y4 y5 = some (r) ∧ f_X12_more y1 y2 y3 y4 y5 = some (r) := by
  sorry
theorem pf_30 (y1 : Int32) (y2 : Int32) (y3 : Int32) : ∃ (r : Int32) (x_o_page_readers : Int32) (x_o_page_day : Int32) (x_o_tape_length : Int32) (x_o_page_heights : Nat → Int32) (x_o_page_highest : Nat → Int32) (x_o_page_marked : Nat → Int32) (x_o_page_shapes : Nat → Int32) (x_o_page_reckoner_letters : Nat → Int32) (m_o_taped : Int32) (m_o_atA : Int32) (m_o_atB : Int32) (m_o_atD : Int32) (m_o_atF : Int32) (m_o_atG : Int32) (m_o_atH : Int32) (m_o_atL : Int32) (m_o_atM : Int32) (m_o_atN : Int32) (m_o_atS : Int32) (m_o_atT : Int32) (m_o_atU : Int32) (m_o_atX : Int32) (m_o_paperHigh : Int32) (m_o_paperShape : Int32) (m_o_first : Nat → Int32) (m_o_greatest : Nat → Int32) (m_o_highAt : Nat → Int32) (m_o_last : Nat → Int32) (m_o_marked : Nat → Int32) (m_o_shapeAt : Nat → Int32), f_X11_check 0 (-1) 0 0 (fun _ => none) (fun _ => 0) (fun _ => 0) (fun _ => 0) (fun _ => 0) (fun _ => none) (fun _ => 0) y1 y2 y3 = some (r, x_o_page_readers, x_o_page_day, x_o_tape_length, x_o_page_heights, x_o_page_highest, x_o_page_marked, x_o_page_shapes, x_o_page_reckoner_letters) ∧ f_X12_check 0 0 0 0 0 0 0 0 0 0 0 0 0 0 0 0 0 (fun _ => 0) (fun _ => 0) (fun _ => 0) (fun _ => 0) (fun _ => 0) (fun _ => 0) (fun _ => 0) y1 y2 y3 = some (r, m_o_taped, m_o_atA, m_o_atB, m_o_atD, m_o_atF, m_o_atG, m_o_atH, m_o_atL, m_o_atM, m_o_atN, m_o_atS, m_o_atT, m_o_atU, m_o_atX, m_o_paperHigh, m_o_paperShape, m_o_first, m_o_greatest, m_o_highAt, m_o_last, m_o_marked, m_o_shapeAt) := by
  sorry
theorem pf_31 (y1 : Int32) : ∃ (r : Int32), f_X11_count 0 0 0 0 0 0 (fun _ => none) (fun _ => none) (fun _ => none) y1 = some (r) ∧ f_X12_count 0 0 0 0 0 0 (fun _ => 0) y1 = some (r) := by
  sorry
