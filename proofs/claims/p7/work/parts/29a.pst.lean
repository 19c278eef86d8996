theorem ps_1 : pn_1 Inv := by
  intro σ G y1 hI
  obtain ⟨i1, i2, i3, i4, i5, i6, i7, i8, i9, i10, i11, i12, i13, i14, i15, i16, i17⟩ := hI
  obtain ⟨⟨rx, x_o_page_day, x_o_sky_seed⟩, ex, hx⟩ := s_X11_seed (σ 13 6) (σ 8 3) y1 
  obtain ⟨⟨rm, m_o_seed⟩, em, hm⟩ := s_X12_seed (σ 42 3) y1 
  refine ⟨rx, x_o_page_day, x_o_sky_seed, rm, m_o_seed, ex, em, ⟨?_, ?_, ?_, ?_, ?_, ?_, ?_, ?_, ?_, ?_, ?_, ?_, ?_, ?_, ?_, ?_, ?_⟩⟩
  · first | exact i1 | exact hx | exact hm | exact hx.1 | exact hx.2 | exact hx.2.2.1 | exact hm.1 | exact hm.2 | exact hx.2.1 | exact hm.2.1 | exact hx.2.2 | exact hm.2.2
  · first | exact i2 | exact hx | exact hm | exact hx.1 | exact hx.2 | exact hx.2.2.1 | exact hm.1 | exact hm.2 | exact hx.2.1 | exact hm.2.1 | exact hx.2.2 | exact hm.2.2
  · first | exact i3 | exact hx | exact hm | exact hx.1 | exact hx.2 | exact hx.2.2.1 | exact hm.1 | exact hm.2 | exact hx.2.1 | exact hm.2.1 | exact hx.2.2 | exact hm.2.2
  · first | exact i4 | exact hx | exact hm | exact hx.1 | exact hx.2 | exact hx.2.2.1 | exact hm.1 | exact hm.2 | exact hx.2.1 | exact hm.2.1 | exact hx.2.2 | exact hm.2.2
  · first | exact i5 | exact hx | exact hm | exact hx.1 | exact hx.2 | exact hx.2.2.1 | exact hm.1 | exact hm.2 | exact hx.2.1 | exact hm.2.1 | exact hx.2.2 | exact hm.2.2
  · first | exact i6 | exact hx | exact hm | exact hx.1 | exact hx.2 | exact hx.2.2.1 | exact hm.1 | exact hm.2 | exact hx.2.1 | exact hm.2.1 | exact hx.2.2 | exact hm.2.2
  · first | exact i7 | exact hx | exact hm | exact hx.1 | exact hx.2 | exact hx.2.2.1 | exact hm.1 | exact hm.2 | exact hx.2.1 | exact hm.2.1 | exact hx.2.2 | exact hm.2.2
  · first | exact i8 | exact hx | exact hm | exact hx.1 | exact hx.2 | exact hx.2.2.1 | exact hm.1 | exact hm.2 | exact hx.2.1 | exact hm.2.1 | exact hx.2.2 | exact hm.2.2
  · first | exact i9 | exact hx | exact hm | exact hx.1 | exact hx.2 | exact hx.2.2.1 | exact hm.1 | exact hm.2 | exact hx.2.1 | exact hm.2.1 | exact hx.2.2 | exact hm.2.2
  · first | exact i10 | exact hx | exact hm | exact hx.1 | exact hx.2 | exact hx.2.2.1 | exact hm.1 | exact hm.2 | exact hx.2.1 | exact hm.2.1 | exact hx.2.2 | exact hm.2.2
  · first | exact i11 | exact hx | exact hm | exact hx.1 | exact hx.2 | exact hx.2.2.1 | exact hm.1 | exact hm.2 | exact hx.2.1 | exact hm.2.1 | exact hx.2.2 | exact hm.2.2
  · first | exact i12 | exact hx | exact hm | exact hx.1 | exact hx.2 | exact hx.2.2.1 | exact hm.1 | exact hm.2 | exact hx.2.1 | exact hm.2.1 | exact hx.2.2 | exact hm.2.2
  · first | exact i13 | exact hx | exact hm | exact hx.1 | exact hx.2 | exact hx.2.2.1 | exact hm.1 | exact hm.2 | exact hx.2.1 | exact hm.2.1 | exact hx.2.2 | exact hm.2.2
  · first | exact i14 | exact hx | exact hm | exact hx.1 | exact hx.2 | exact hx.2.2.1 | exact hm.1 | exact hm.2 | exact hx.2.1 | exact hm.2.1 | exact hx.2.2 | exact hm.2.2
  · first | exact i15 | exact hx | exact hm | exact hx.1 | exact hx.2 | exact hx.2.2.1 | exact hm.1 | exact hm.2 | exact hx.2.1 | exact hm.2.1 | exact hx.2.2 | exact hm.2.2
  · first | exact i16 | exact hx | exact hm | exact hx.1 | exact hx.2 | exact hx.2.2.1 | exact hm.1 | exact hm.2 | exact hx.2.1 | exact hm.2.1 | exact hx.2.2 | exact hm.2.2
  · first | exact i17 | exact hx | exact hm | exact hx.1 | exact hx.2 | exact hx.2.2.1 | exact hm.1 | exact hm.2 | exact hx.2.1 | exact hm.2.1 | exact hx.2.2 | exact hm.2.2
theorem ps_2 : pn_2 Inv := by
  intro σ G y1 y2 y3 y4 y5 hI
  obtain ⟨i1, i2, i3, i4, i5, i6, i7, i8, i9, i10, i11, i12, i13, i14, i15, i16, i17⟩ := hI
  obtain ⟨⟨rx, x_o_tape_length, x_o_tape_bytes⟩, ex, hx⟩ := s_X11_feed (σ 1 1) (σ 2) y1 y2 y3 y4 y5 (by first | omega | assumption | exact ⟨_, i15⟩ | (split <;> decide)) (by first | omega | assumption | exact ⟨_, i15⟩ | (split <;> decide))
  obtain ⟨⟨rm, m_o_taped, m_o_tape⟩, em, hm⟩ := s_X12_feed (σ 42 1) (σ 43) y1 y2 y3 y4 y5 (by first | omega | assumption | exact ⟨_, i15⟩ | (split <;> decide)) (by first | omega | assumption | exact ⟨_, i15⟩ | (split <;> decide))
  refine ⟨rx, x_o_tape_length, x_o_tape_bytes, rm, m_o_taped, m_o_tape, ex, em, ⟨?_, ?_, ?_, ?_, ?_, ?_, ?_, ?_, ?_, ?_, ?_, ?_, ?_, ?_, ?_, ?_, ?_⟩⟩
  · first | exact i1 | exact hx | exact hm | exact hx.1 | exact hx.2 | exact hx.2.2.1 | exact hm.1 | exact hm.2 | exact hx.2.1 | exact hm.2.1 | exact hx.2.2 | exact hm.2.2
  · first | exact i2 | exact hx | exact hm | exact hx.1 | exact hx.2 | exact hx.2.2.1 | exact hm.1 | exact hm.2 | exact hx.2.1 | exact hm.2.1 | exact hx.2.2 | exact hm.2.2
  · first | exact i3 | exact hx | exact hm | exact hx.1 | exact hx.2 | exact hx.2.2.1 | exact hm.1 | exact hm.2 | exact hx.2.1 | exact hm.2.1 | exact hx.2.2 | exact hm.2.2
  · first | exact i4 | exact hx | exact hm | exact hx.1 | exact hx.2 | exact hx.2.2.1 | exact hm.1 | exact hm.2 | exact hx.2.1 | exact hm.2.1 | exact hx.2.2 | exact hm.2.2
  · first | exact i5 | exact hx | exact hm | exact hx.1 | exact hx.2 | exact hx.2.2.1 | exact hm.1 | exact hm.2 | exact hx.2.1 | exact hm.2.1 | exact hx.2.2 | exact hm.2.2
  · first | exact i6 | exact hx | exact hm | exact hx.1 | exact hx.2 | exact hx.2.2.1 | exact hm.1 | exact hm.2 | exact hx.2.1 | exact hm.2.1 | exact hx.2.2 | exact hm.2.2
  · first | exact i7 | exact hx | exact hm | exact hx.1 | exact hx.2 | exact hx.2.2.1 | exact hm.1 | exact hm.2 | exact hx.2.1 | exact hm.2.1 | exact hx.2.2 | exact hm.2.2
  · first | exact i8 | exact hx | exact hm | exact hx.1 | exact hx.2 | exact hx.2.2.1 | exact hm.1 | exact hm.2 | exact hx.2.1 | exact hm.2.1 | exact hx.2.2 | exact hm.2.2
  · first | exact i9 | exact hx | exact hm | exact hx.1 | exact hx.2 | exact hx.2.2.1 | exact hm.1 | exact hm.2 | exact hx.2.1 | exact hm.2.1 | exact hx.2.2 | exact hm.2.2
  · first | exact i10 | exact hx | exact hm | exact hx.1 | exact hx.2 | exact hx.2.2.1 | exact hm.1 | exact hm.2 | exact hx.2.1 | exact hm.2.1 | exact hx.2.2 | exact hm.2.2
  · first | exact i11 | exact hx | exact hm | exact hx.1 | exact hx.2 | exact hx.2.2.1 | exact hm.1 | exact hm.2 | exact hx.2.1 | exact hm.2.1 | exact hx.2.2 | exact hm.2.2
  · first | exact i12 | exact hx | exact hm | exact hx.1 | exact hx.2 | exact hx.2.2.1 | exact hm.1 | exact hm.2 | exact hx.2.1 | exact hm.2.1 | exact hx.2.2 | exact hm.2.2
  · first | exact i13 | exact hx | exact hm | exact hx.1 | exact hx.2 | exact hx.2.2.1 | exact hm.1 | exact hm.2 | exact hx.2.1 | exact hm.2.1 | exact hx.2.2 | exact hm.2.2
  · first | exact i14 | exact hx | exact hm | exact hx.1 | exact hx.2 | exact hx.2.2.1 | exact hm.1 | exact hm.2 | exact hx.2.1 | exact hm.2.1 | exact hx.2.2 | exact hm.2.2
  · first | exact i15 | exact hx | exact hm | exact hx.1 | exact hx.2 | exact hx.2.2.1 | exact hm.1 | exact hm.2 | exact hx.2.1 | exact hm.2.1 | exact hx.2.2 | exact hm.2.2
  · first | exact i16 | exact hx | exact hm | exact hx.1 | exact hx.2 | exact hx.2.2.1 | exact hm.1 | exact hm.2 | exact hx.2.1 | exact hm.2.1 | exact hx.2.2 | exact hm.2.2
  · first | exact i17 | exact hx | exact hm | exact hx.1 | exact hx.2 | exact hx.2.2.1 | exact hm.1 | exact hm.2 | exact hx.2.1 | exact hm.2.1 | exact hx.2.2 | exact hm.2.2
theorem ps_6 : pn_6 Inv := by
  intro σ G y1 y2 hI
  obtain ⟨i1, i2, i3, i4, i5, i6, i7, i8, i9, i10, i11, i12, i13, i14, i15, i16, i17⟩ := hI
  obtain ⟨r, ex, em⟩ := pf_6 y1 y2
  exact ⟨r, r, ex, em, ⟨i1, i2, i3, i4, i5, i6, i7, i8, i9, i10, i11, i12, i13, i14, i15, i16, i17⟩⟩
theorem ps_7 : pn_7 Inv := by
  intro σ G y1 y2 y3 hI
  obtain ⟨i1, i2, i3, i4, i5, i6, i7, i8, i9, i10, i11, i12, i13, i14, i15, i16, i17⟩ := hI
  obtain ⟨⟨rx, x_o_sky_reckoner_letters, x_o_sky_reckoner_values⟩, ex, hx⟩ := s_X11_height G (σ 8 2) (σ 8 3) (σ 11) (σ 12) y1 y2 y3 (by first | omega | assumption | exact ⟨_, i15⟩ | (split <;> decide)) (by first | omega | assumption | exact ⟨_, i15⟩ | (split <;> decide)) (by first | omega | assumption | exact ⟨_, i15⟩ | (split <;> decide))
  obtain ⟨⟨rm, m_o_atA, m_o_atB, m_o_atD, m_o_atF, m_o_atG, m_o_atH, m_o_atL, m_o_atM, m_o_atN, m_o_atS, m_o_atT, m_o_atU, m_o_atX, m_o_isRefused, m_o_worth⟩, em, hm⟩ := s_X12_height (σ 42 2) (σ 42 3) (σ 42 28) (σ 42 29) (σ 42 30) (σ 42 31) (σ 42 32) (σ 42 33) (σ 42 34) (σ 42 35) (σ 42 36) (σ 42 37) (σ 42 38) (σ 42 39) (σ 42 40) (σ 58) (σ 48) (σ 49) (σ 46) (σ 47) (σ 57) (σ 44) (σ 59) (σ 45) (σ 62) (σ 60) (σ 56) y1 y2 y3 (by first | omega | assumption | exact ⟨_, i15⟩ | (split <;> decide)) (by first | omega | assumption | exact ⟨_, i15⟩ | (split <;> decide)) (by first | omega | assumption | exact ⟨_, i15⟩ | (split <;> decide))
  refine ⟨rx, x_o_sky_reckoner_letters, x_o_sky_reckoner_values, rm, m_o_atA, m_o_atB, m_o_atD, m_o_atF, m_o_atG, m_o_atH, m_o_atL, m_o_atM, m_o_atN, m_o_atS, m_o_atT, m_o_atU, m_o_atX, m_o_isRefused, m_o_worth, ex, em, ⟨?_, ?_, ?_, ?_, ?_, ?_, ?_, ?_, ?_, ?_, ?_, ?_, ?_, ?_, ?_, ?_, ?_⟩⟩
  · first | exact i1 | exact hx | exact hm | exact hx.1 | exact hx.2 | exact hx.2.2.1 | exact hm.1 | exact hm.2 | exact hx.2.1 | exact hm.2.1 | exact hx.2.2 | exact hm.2.2
  · first | exact i2 | exact hx | exact hm | exact hx.1 | exact hx.2 | exact hx.2.2.1 | exact hm.1 | exact hm.2 | exact hx.2.1 | exact hm.2.1 | exact hx.2.2 | exact hm.2.2
  · first | exact i3 | exact hx | exact hm | exact hx.1 | exact hx.2 | exact hx.2.2.1 | exact hm.1 | exact hm.2 | exact hx.2.1 | exact hm.2.1 | exact hx.2.2 | exact hm.2.2
  · first | exact i4 | exact hx | exact hm | exact hx.1 | exact hx.2 | exact hx.2.2.1 | exact hm.1 | exact hm.2 | exact hx.2.1 | exact hm.2.1 | exact hx.2.2 | exact hm.2.2
  · first | exact i5 | exact hx | exact hm | exact hx.1 | exact hx.2 | exact hx.2.2.1 | exact hm.1 | exact hm.2 | exact hx.2.1 | exact hm.2.1 | exact hx.2.2 | exact hm.2.2
  · first | exact i6 | exact hx | exact hm | exact hx.1 | exact hx.2 | exact hx.2.2.1 | exact hm.1 | exact hm.2 | exact hx.2.1 | exact hm.2.1 | exact hx.2.2 | exact hm.2.2
  · first | exact i7 | exact hx | exact hm | exact hx.1 | exact hx.2 | exact hx.2.2.1 | exact hm.1 | exact hm.2 | exact hx.2.1 | exact hm.2.1 | exact hx.2.2 | exact hm.2.2
  · first | exact i8 | exact hx | exact hm | exact hx.1 | exact hx.2 | exact hx.2.2.1 | exact hm.1 | exact hm.2 | exact hx.2.1 | exact hm.2.1 | exact hx.2.2 | exact hm.2.2
  · first | exact i9 | exact hx | exact hm | exact hx.1 | exact hx.2 | exact hx.2.2.1 | exact hm.1 | exact hm.2 | exact hx.2.1 | exact hm.2.1 | exact hx.2.2 | exact hm.2.2
  · first | exact i10 | exact hx | exact hm | exact hx.1 | exact hx.2 | exact hx.2.2.1 | exact hm.1 | exact hm.2 | exact hx.2.1 | exact hm.2.1 | exact hx.2.2 | exact hm.2.2
  · first | exact i11 | exact hx | exact hm | exact hx.1 | exact hx.2 | exact hx.2.2.1 | exact hm.1 | exact hm.2 | exact hx.2.1 | exact hm.2.1 | exact hx.2.2 | exact hm.2.2
  · first | exact i12 | exact hx | exact hm | exact hx.1 | exact hx.2 | exact hx.2.2.1 | exact hm.1 | exact hm.2 | exact hx.2.1 | exact hm.2.1 | exact hx.2.2 | exact hm.2.2
  · first | exact i13 | exact hx | exact hm | exact hx.1 | exact hx.2 | exact hx.2.2.1 | exact hm.1 | exact hm.2 | exact hx.2.1 | exact hm.2.1 | exact hx.2.2 | exact hm.2.2
  · first | exact i14 | exact hx | exact hm | exact hx.1 | exact hx.2 | exact hx.2.2.1 | exact hm.1 | exact hm.2 | exact hx.2.1 | exact hm.2.1 | exact hx.2.2 | exact hm.2.2
  · first | exact i15 | exact hx | exact hm | exact hx.1 | exact hx.2 | exact hx.2.2.1 | exact hm.1 | exact hm.2 | exact hx.2.1 | exact hm.2.1 | exact hx.2.2 | exact hm.2.2
  · first | exact i16 | exact hx | exact hm | exact hx.1 | exact hx.2 | exact hx.2.2.1 | exact hm.1 | exact hm.2 | exact hx.2.1 | exact hm.2.1 | exact hx.2.2 | exact hm.2.2
  · first | exact i17 | exact hx | exact hm | exact hx.1 | exact hx.2 | exact hx.2.2.1 | exact hm.1 | exact hm.2 | exact hx.2.1 | exact hm.2.1 | exact hx.2.2 | exact hm.2.2
theorem ps_8 : pn_8 Inv := by
  intro σ G y1 y2 y3 hI
  obtain ⟨i1, i2, i3, i4, i5, i6, i7, i8, i9, i10, i11, i12, i13, i14, i15, i16, i17⟩ := hI
  obtain ⟨⟨rx, x_o_page_readers, x_o_page_day, x_o_page_heights, x_o_page_highest, x_o_page_shapes, x_o_sky_reckoner_letters, x_o_sky_reckoner_values⟩, ex, hx⟩ := s_X11_paper G (σ 13 5) (σ 13 6) (σ 8 2) (σ 8 3) (σ 14) (σ 16) (σ 15) (σ 11) (σ 12) y1 y2 y3 (by first | omega | assumption | exact ⟨_, i15⟩ | (split <;> decide)) (by first | omega | assumption | exact ⟨_, i15⟩ | (split <;> decide)) (by first | omega | assumption | exact ⟨_, i15⟩ | (split <;> decide))
  obtain ⟨⟨rm, m_o_atA, m_o_atB, m_o_atD, m_o_atF, m_o_atG, m_o_atH, m_o_atL, m_o_atM, m_o_atN, m_o_atS, m_o_atT, m_o_atU, m_o_atX, m_o_paperHigh, m_o_paperShape, m_o_isRefused, m_o_worth⟩, em, hm⟩ := s_X12_paper (σ 42 2) (σ 42 3) (σ 42 28) (σ 42 29) (σ 42 30) (σ 42 31) (σ 42 32) (σ 42 33) (σ 42 34) (σ 42 35) (σ 42 36) (σ 42 37) (σ 42 38) (σ 42 39) (σ 42 40) (σ 42 48) (σ 42 49) (σ 58) (σ 48) (σ 49) (σ 46) (σ 47) (σ 57) (σ 44) (σ 59) (σ 61) (σ 45) (σ 62) (σ 60) (σ 56) y1 y2 y3 (by first | omega | assumption | exact ⟨_, i15⟩ | (split <;> decide)) (by first | omega | assumption | exact ⟨_, i15⟩ | (split <;> decide)) (by first | omega | assumption | exact ⟨_, i15⟩ | (split <;> decide))
  refine ⟨rx, x_o_page_readers, x_o_page_day, x_o_page_heights, x_o_page_highest, x_o_page_shapes, x_o_sky_reckoner_letters, x_o_sky_reckoner_values, rm, m_o_atA, m_o_atB, m_o_atD, m_o_atF, m_o_atG, m_o_atH, m_o_atL, m_o_atM, m_o_atN, m_o_atS, m_o_atT, m_o_atU, m_o_atX, m_o_paperHigh, m_o_paperShape, m_o_isRefused, m_o_worth, ex, em, ⟨?_, ?_, ?_, ?_, ?_, ?_, ?_, ?_, ?_, ?_, ?_, ?_, ?_, ?_, ?_, ?_, ?_⟩⟩
  · first | exact i1 | exact hx | exact hm | exact hx.1 | exact hx.2 | exact hx.2.2.1 | exact hm.1 | exact hm.2 | exact hx.2.1 | exact hm.2.1 | exact hx.2.2 | exact hm.2.2
  · first | exact i2 | exact hx | exact hm | exact hx.1 | exact hx.2 | exact hx.2.2.1 | exact hm.1 | exact hm.2 | exact hx.2.1 | exact hm.2.1 | exact hx.2.2 | exact hm.2.2
  · first | exact i3 | exact hx | exact hm | exact hx.1 | exact hx.2 | exact hx.2.2.1 | exact hm.1 | exact hm.2 | exact hx.2.1 | exact hm.2.1 | exact hx.2.2 | exact hm.2.2
  · first | exact i4 | exact hx | exact hm | exact hx.1 | exact hx.2 | exact hx.2.2.1 | exact hm.1 | exact hm.2 | exact hx.2.1 | exact hm.2.1 | exact hx.2.2 | exact hm.2.2
  · first | exact i5 | exact hx | exact hm | exact hx.1 | exact hx.2 | exact hx.2.2.1 | exact hm.1 | exact hm.2 | exact hx.2.1 | exact hm.2.1 | exact hx.2.2 | exact hm.2.2
  · first | exact i6 | exact hx | exact hm | exact hx.1 | exact hx.2 | exact hx.2.2.1 | exact hm.1 | exact hm.2 | exact hx.2.1 | exact hm.2.1 | exact hx.2.2 | exact hm.2.2
  · first | exact i7 | exact hx | exact hm | exact hx.1 | exact hx.2 | exact hx.2.2.1 | exact hm.1 | exact hm.2 | exact hx.2.1 | exact hm.2.1 | exact hx.2.2 | exact hm.2.2
  · first | exact i8 | exact hx | exact hm | exact hx.1 | exact hx.2 | exact hx.2.2.1 | exact hm.1 | exact hm.2 | exact hx.2.1 | exact hm.2.1 | exact hx.2.2 | exact hm.2.2
  · first | exact i9 | exact hx | exact hm | exact hx.1 | exact hx.2 | exact hx.2.2.1 | exact hm.1 | exact hm.2 | exact hx.2.1 | exact hm.2.1 | exact hx.2.2 | exact hm.2.2
  · first | exact i10 | exact hx | exact hm | exact hx.1 | exact hx.2 | exact hx.2.2.1 | exact hm.1 | exact hm.2 | exact hx.2.1 | exact hm.2.1 | exact hx.2.2 | exact hm.2.2
  · first | exact i11 | exact hx | exact hm | exact hx.1 | exact hx.2 | exact hx.2.2.1 | exact hm.1 | exact hm.2 | exact hx.2.1 | exact hm.2.1 | exact hx.2.2 | exact hm.2.2
  · first | exact i12 | exact hx | exact hm | exact hx.1 | exact hx.2 | exact hx.2.2.1 | exact hm.1 | exact hm.2 | exact hx.2.1 | exact hm.2.1 | exact hx.2.2 | exact hm.2.2
  · first | exact i13 | exact hx | exact hm | exact hx.1 | exact hx.2 | exact hx.2.2.1 | exact hm.1 | exact hm.2 | exact hx.2.1 | exact hm.2.1 | exact hx.2.2 | exact hm.2.2
  · first | exact i14 | exact hx | exact hm | exact hx.1 | exact hx.2 | exact hx.2.2.1 | exact hm.1 | exact hm.2 | exact hx.2.1 | exact hm.2.1 | exact hx.2.2 | exact hm.2.2
  · first | exact i15 | exact hx | exact hm | exact hx.1 | exact hx.2 | exact hx.2.2.1 | exact hm.1 | exact hm.2 | exact hx.2.1 | exact hm.2.1 | exact hx.2.2 | exact hm.2.2
  · first | exact i16 | exact hx | exact hm | exact hx.1 | exact hx.2 | exact hx.2.2.1 | exact hm.1 | exact hm.2 | exact hx.2.1 | exact hm.2.1 | exact hx.2.2 | exact hm.2.2
  · first | exact i17 | exact hx | exact hm | exact hx.1 | exact hx.2 | exact hx.2.2.1 | exact hm.1 | exact hm.2 | exact hx.2.1 | exact hm.2.1 | exact hx.2.2 | exact hm.2.2
theorem ps_9 : pn_9 Inv := by
  intro σ G y1 y2 y3 hI
  obtain ⟨i1, i2, i3, i4, i5, i6, i7, i8, i9, i10, i11, i12, i13, i14, i15, i16, i17⟩ := hI
  obtain ⟨⟨rx, x_o_page_readers, x_o_page_day, x_o_page_heights, x_o_page_highest, x_o_page_marked, x_o_page_shapes, x_o_page_reckoner_letters, x_o_page_reckoner_values, x_o_sky_reckoner_letters, x_o_sky_reckoner_values⟩, ex, hx⟩ := s_X11_marks G (σ 13 5) (σ 13 6) (σ 8 2) (σ 8 3) (σ 14) (σ 16) (σ 17) (σ 15) (σ 19) (σ 20) (σ 11) (σ 12) y1 y2 y3 (by first | omega | assumption | exact ⟨_, i15⟩ | (split <;> decide)) (by first | omega | assumption | exact ⟨_, i15⟩ | (split <;> decide)) (by first | omega | assumption | exact ⟨_, i15⟩ | (split <;> decide))
  obtain ⟨⟨rm, m_o_atA, m_o_atB, m_o_atD, m_o_atF, m_o_atG, m_o_atH, m_o_atL, m_o_atM, m_o_atN, m_o_atS, m_o_atT, m_o_atU, m_o_atX, m_o_paperHigh, m_o_paperShape, m_o_first, m_o_greatest, m_o_highAt, m_o_isRefused, m_o_last, m_o_marked, m_o_shapeAt, m_o_worth⟩, em, hm⟩ := s_X12_marks (σ 42 2) (σ 42 3) (σ 42 28) (σ 42 29) (σ 42 30) (σ 42 31) (σ 42 32) (σ 42 33) (σ 42 34) (σ 42 35) (σ 42 36) (σ 42 37) (σ 42 38) (σ 42 39) (σ 42 40) (σ 42 48) (σ 42 49) (σ 58) (σ 48) (σ 49) (σ 46) (σ 47) (σ 65) (σ 67) (σ 63) (σ 57) (σ 66) (σ 44) (σ 68) (σ 59) (σ 61) (σ 64) (σ 45) (σ 62) (σ 60) (σ 56) y1 y2 y3 (by first | omega | assumption | exact ⟨_, i15⟩ | (split <;> decide)) (by first | omega | assumption | exact ⟨_, i15⟩ | (split <;> decide)) (by first | omega | assumption | exact ⟨_, i15⟩ | (split <;> decide)) (by first | omega | assumption | exact ⟨_, i15⟩ | (split <;> decide))
  refine ⟨rx, x_o_page_readers, x_o_page_day, x_o_page_heights, x_o_page_highest, x_o_page_marked, x_o_page_shapes, x_o_page_reckoner_letters, x_o_page_reckoner_values, x_o_sky_reckoner_letters, x_o_sky_reckoner_values, rm, m_o_atA, m_o_atB, m_o_atD, m_o_atF, m_o_atG, m_o_atH, m_o_atL, m_o_atM, m_o_atN, m_o_atS, m_o_atT, m_o_atU, m_o_atX, m_o_paperHigh, m_o_paperShape, m_o_first, m_o_greatest, m_o_highAt, m_o_isRefused, m_o_last, m_o_marked, m_o_shapeAt, m_o_worth, ex, em, ⟨?_, ?_, ?_, ?_, ?_, ?_, ?_, ?_, ?_, ?_, ?_, ?_, ?_, ?_, ?_, ?_, ?_⟩⟩
  · first | exact i1 | exact hx | exact hm | exact hx.1 | exact hx.2 | exact hx.2.2.1 | exact hm.1 | exact hm.2 | exact hx.2.1 | exact hm.2.1 | exact hx.2.2 | exact hm.2.2
  · first | exact i2 | exact hx | exact hm | exact hx.1 | exact hx.2 | exact hx.2.2.1 | exact hm.1 | exact hm.2 | exact hx.2.1 | exact hm.2.1 | exact hx.2.2 | exact hm.2.2
  · first | exact i3 | exact hx | exact hm | exact hx.1 | exact hx.2 | exact hx.2.2.1 | exact hm.1 | exact hm.2 | exact hx.2.1 | exact hm.2.1 | exact hx.2.2 | exact hm.2.2
  · first | exact i4 | exact hx | exact hm | exact hx.1 | exact hx.2 | exact hx.2.2.1 | exact hm.1 | exact hm.2 | exact hx.2.1 | exact hm.2.1 | exact hx.2.2 | exact hm.2.2
  · first | exact i5 | exact hx | exact hm | exact hx.1 | exact hx.2 | exact hx.2.2.1 | exact hm.1 | exact hm.2 | exact hx.2.1 | exact hm.2.1 | exact hx.2.2 | exact hm.2.2
  · first | exact i6 | exact hx | exact hm | exact hx.1 | exact hx.2 | exact hx.2.2.1 | exact hm.1 | exact hm.2 | exact hx.2.1 | exact hm.2.1 | exact hx.2.2 | exact hm.2.2
  · first | exact i7 | exact hx | exact hm | exact hx.1 | exact hx.2 | exact hx.2.2.1 | exact hm.1 | exact hm.2 | exact hx.2.1 | exact hm.2.1 | exact hx.2.2 | exact hm.2.2
  · first | exact i8 | exact hx | exact hm | exact hx.1 | exact hx.2 | exact hx.2.2.1 | exact hm.1 | exact hm.2 | exact hx.2.1 | exact hm.2.1 | exact hx.2.2 | exact hm.2.2
  · first | exact i9 | exact hx | exact hm | exact hx.1 | exact hx.2 | exact hx.2.2.1 | exact hm.1 | exact hm.2 | exact hx.2.1 | exact hm.2.1 | exact hx.2.2 | exact hm.2.2
  · first | exact i10 | exact hx | exact hm | exact hx.1 | exact hx.2 | exact hx.2.2.1 | exact hm.1 | exact hm.2 | exact hx.2.1 | exact hm.2.1 | exact hx.2.2 | exact hm.2.2
  · first | exact i11 | exact hx | exact hm | exact hx.1 | exact hx.2 | exact hx.2.2.1 | exact hm.1 | exact hm.2 | exact hx.2.1 | exact hm.2.1 | exact hx.2.2 | exact hm.2.2
  · first | exact i12 | exact hx | exact hm | exact hx.1 | exact hx.2 | exact hx.2.2.1 | exact hm.1 | exact hm.2 | exact hx.2.1 | exact hm.2.1 | exact hx.2.2 | exact hm.2.2
  · first | exact i13 | exact hx | exact hm | exact hx.1 | exact hx.2 | exact hx.2.2.1 | exact hm.1 | exact hm.2 | exact hx.2.1 | exact hm.2.1 | exact hx.2.2 | exact hm.2.2
  · first | exact i14 | exact hx | exact hm | exact hx.1 | exact hx.2 | exact hx.2.2.1 | exact hm.1 | exact hm.2 | exact hx.2.1 | exact hm.2.1 | exact hx.2.2 | exact hm.2.2
  · first | exact i15 | exact hx | exact hm | exact hx.1 | exact hx.2 | exact hx.2.2.1 | exact hm.1 | exact hm.2 | exact hx.2.1 | exact hm.2.1 | exact hx.2.2 | exact hm.2.2
  · first | exact i16 | exact hx | exact hm | exact hx.1 | exact hx.2 | exact hx.2.2.1 | exact hm.1 | exact hm.2 | exact hx.2.1 | exact hm.2.1 | exact hx.2.2 | exact hm.2.2
  · first | exact i17 | exact hx | exact hm | exact hx.1 | exact hx.2 | exact hx.2.2.1 | exact hm.1 | exact hm.2 | exact hx.2.1 | exact hm.2.1 | exact hx.2.2 | exact hm.2.2
theorem ps_10 : pn_10 Inv := by
  intro σ G y1 y2 y3 y4 y5 hI
  obtain ⟨i1, i2, i3, i4, i5, i6, i7, i8, i9, i10, i11, i12, i13, i14, i15, i16, i17⟩ := hI
  obtain ⟨⟨rx, x_o_page_readers, x_o_page_day, x_o_page_heights, x_o_page_highest, x_o_page_marked, x_o_page_shapes, x_o_page_reckoner_letters, x_o_page_reckoner_values, x_o_sky_reckoner_letters, x_o_sky_reckoner_values⟩, ex, hx⟩ := s_X11_passed G (σ 13 5) (σ 13 6) (σ 8 2) (σ 8 3) (σ 14) (σ 16) (σ 17) (σ 15) (σ 19) (σ 20) (σ 11) (σ 12) y1 y2 y3 y4 y5 (by first | omega | assumption | exact ⟨_, i15⟩ | (split <;> decide)) (by first | omega | assumption | exact ⟨_, i15⟩ | (split <;> decide)) (by first | omega | assumption | exact ⟨_, i15⟩ | (split <;> decide))
  obtain ⟨⟨rm, m_o_atA, m_o_atB, m_o_atD, m_o_atF, m_o_atG, m_o_atH, m_o_atL, m_o_atM, m_o_atN, m_o_atS, m_o_atT, m_o_atU, m_o_atX, m_o_paperHigh, m_o_paperShape, m_o_first, m_o_greatest, m_o_highAt, m_o_isRefused, m_o_last, m_o_marked, m_o_shapeAt, m_o_worth⟩, em, hm⟩ := s_X12_passed (σ 42 2) (σ 42 3) (σ 42 28) (σ 42 29) (σ 42 30) (σ 42 31) (σ 42 32) (σ 42 33) (σ 42 34) (σ 42 35) (σ 42 36) (σ 42 37) (σ 42 38) (σ 42 39) (σ 42 40) (σ 42 48) (σ 42 49) (σ 58) (σ 48) (σ 49) (σ 46) (σ 47) (σ 65) (σ 67) (σ 63) (σ 57) (σ 66) (σ 44) (σ 68) (σ 59) (σ 61) (σ 64) (σ 45) (σ 62) (σ 60) (σ 56) y1 y2 y3 y4 y5 (by first | omega | assumption | exact ⟨_, i15⟩ | (split <;> decide)) (by first | omega | assumption | exact ⟨_, i15⟩ | (split <;> decide)) (by first | omega | assumption | exact ⟨_, i15⟩ | (split <;> decide)) (by first | omega | assumption | exact ⟨_, i15⟩ | (split <;> decide))
  refine ⟨rx, x_o_page_readers, x_o_page_day, x_o_page_heights, x_o_page_highest, x_o_page_marked, x_o_page_shapes, x_o_page_reckoner_letters, x_o_page_reckoner_values, x_o_sky_reckoner_letters, x_o_sky_reckoner_values, rm, m_o_atA, m_o_atB, m_o_atD, m_o_atF, m_o_atG, m_o_atH, m_o_atL, m_o_atM, m_o_atN, m_o_atS, m_o_atT, m_o_atU, m_o_atX, m_o_paperHigh, m_o_paperShape, m_o_first, m_o_greatest, m_o_highAt, m_o_isRefused, m_o_last, m_o_marked, m_o_shapeAt, m_o_worth, ex, em, ⟨?_, ?_, ?_, ?_, ?_, ?_, ?_, ?_, ?_, ?_, ?_, ?_, ?_, ?_, ?_, ?_, ?_⟩⟩
  · first | exact i1 | exact hx | exact hm | exact hx.1 | exact hx.2 | exact hx.2.2.1 | exact hm.1 | exact hm.2 | exact hx.2.1 | exact hm.2.1 | exact hx.2.2 | exact hm.2.2
  · first | exact i2 | exact hx | exact hm | exact hx.1 | exact hx.2 | exact hx.2.2.1 | exact hm.1 | exact hm.2 | exact hx.2.1 | exact hm.2.1 | exact hx.2.2 | exact hm.2.2
  · first | exact i3 | exact hx | exact hm | exact hx.1 | exact hx.2 | exact hx.2.2.1 | exact hm.1 | exact hm.2 | exact hx.2.1 | exact hm.2.1 | exact hx.2.2 | exact hm.2.2
  · first | exact i4 | exact hx | exact hm | exact hx.1 | exact hx.2 | exact hx.2.2.1 | exact hm.1 | exact hm.2 | exact hx.2.1 | exact hm.2.1 | exact hx.2.2 | exact hm.2.2
  · first | exact i5 | exact hx | exact hm | exact hx.1 | exact hx.2 | exact hx.2.2.1 | exact hm.1 | exact hm.2 | exact hx.2.1 | exact hm.2.1 | exact hx.2.2 | exact hm.2.2
  · first | exact i6 | exact hx | exact hm | exact hx.1 | exact hx.2 | exact hx.2.2.1 | exact hm.1 | exact hm.2 | exact hx.2.1 | exact hm.2.1 | exact hx.2.2 | exact hm.2.2
  · first | exact i7 | exact hx | exact hm | exact hx.1 | exact hx.2 | exact hx.2.2.1 | exact hm.1 | exact hm.2 | exact hx.2.1 | exact hm.2.1 | exact hx.2.2 | exact hm.2.2
  · first | exact i8 | exact hx | exact hm | exact hx.1 | exact hx.2 | exact hx.2.2.1 | exact hm.1 | exact hm.2 | exact hx.2.1 | exact hm.2.1 | exact hx.2.2 | exact hm.2.2
  · first | exact i9 | exact hx | exact hm | exact hx.1 | exact hx.2 | exact hx.2.2.1 | exact hm.1 | exact hm.2 | exact hx.2.1 | exact hm.2.1 | exact hx.2.2 | exact hm.2.2
  · first | exact i10 | exact hx | exact hm | exact hx.1 | exact hx.2 | exact hx.2.2.1 | exact hm.1 | exact hm.2 | exact hx.2.1 | exact hm.2.1 | exact hx.2.2 | exact hm.2.2
  · first | exact i11 | exact hx | exact hm | exact hx.1 | exact hx.2 | exact hx.2.2.1 | exact hm.1 | exact hm.2 | exact hx.2.1 | exact hm.2.1 | exact hx.2.2 | exact hm.2.2
  · first | exact i12 | exact hx | exact hm | exact hx.1 | exact hx.2 | exact hx.2.2.1 | exact hm.1 | exact hm.2 | exact hx.2.1 | exact hm.2.1 | exact hx.2.2 | exact hm.2.2
  · first | exact i13 | exact hx | exact hm | exact hx.1 | exact hx.2 | exact hx.2.2.1 | exact hm.1 | exact hm.2 | exact hx.2.1 | exact hm.2.1 | exact hx.2.2 | exact hm.2.2
  · first | exact i14 | exact hx | exact hm | exact hx.1 | exact hx.2 | exact hx.2.2.1 | exact hm.1 | exact hm.2 | exact hx.2.1 | exact hm.2.1 | exact hx.2.2 | exact hm.2.2
  · first | exact i15 | exact hx | exact hm | exact hx.1 | exact hx.2 | exact hx.2.2.1 | exact hm.1 | exact hm.2 | exact hx.2.1 | exact hm.2.1 | exact hx.2.2 | exact hm.2.2
  · first | exact i16 | exact hx | exact hm | exact hx.1 | exact hx.2 | exact hx.2.2.1 | exact hm.1 | exact hm.2 | exact hx.2.1 | exact hm.2.1 | exact hx.2.2 | exact hm.2.2
  · first | exact i17 | exact hx | exact hm | exact hx.1 | exact hx.2 | exact hx.2.2.1 | exact hm.1 | exact hm.2 | exact hx.2.1 | exact hm.2.1 | exact hx.2.2 | exact hm.2.2
theorem ps_11 : pn_11 Inv := by
  intro σ G y1 y2 y3 hI
  obtain ⟨i1, i2, i3, i4, i5, i6, i7, i8, i9, i10, i11, i12, i13, i14, i15, i16, i17⟩ := hI
  obtain ⟨⟨rx, x_o_notes_many, x_o_notes_days, x_o_notes_minutes, x_o_notes_shapes⟩, ex, hx⟩ := s_X11_note (σ 22 4) (σ 23) (σ 24) (σ 25) y1 y2 y3 (by first | omega | assumption | exact ⟨_, i15⟩ | (split <;> decide)) (by first | omega | assumption | exact ⟨_, i15⟩ | (split <;> decide))
  obtain ⟨⟨rm, m_o_notes, m_o_noteDay, m_o_noteMinute, m_o_noteShape⟩, em, hm⟩ := s_X12_note (σ 42 4) (σ 69) (σ 70) (σ 71) y1 y2 y3 (by first | omega | assumption | exact ⟨_, i15⟩ | (split <;> decide)) (by first | omega | assumption | exact ⟨_, i15⟩ | (split <;> decide))
  refine ⟨rx, x_o_notes_many, x_o_notes_days, x_o_notes_minutes, x_o_notes_shapes, rm, m_o_notes, m_o_noteDay, m_o_noteMinute, m_o_noteShape, ex, em, ⟨?_, ?_, ?_, ?_, ?_, ?_, ?_, ?_, ?_, ?_, ?_, ?_, ?_, ?_, ?_, ?_, ?_⟩⟩
  · first | exact i1 | exact hx | exact hm | exact hx.1 | exact hx.2 | exact hx.2.2.1 | exact hm.1 | exact hm.2 | exact hx.2.1 | exact hm.2.1 | exact hx.2.2 | exact hm.2.2
  · first | exact i2 | exact hx | exact hm | exact hx.1 | exact hx.2 | exact hx.2.2.1 | exact hm.1 | exact hm.2 | exact hx.2.1 | exact hm.2.1 | exact hx.2.2 | exact hm.2.2
  · first | exact i3 | exact hx | exact hm | exact hx.1 | exact hx.2 | exact hx.2.2.1 | exact hm.1 | exact hm.2 | exact hx.2.1 | exact hm.2.1 | exact hx.2.2 | exact hm.2.2
  · first | exact i4 | exact hx | exact hm | exact hx.1 | exact hx.2 | exact hx.2.2.1 | exact hm.1 | exact hm.2 | exact hx.2.1 | exact hm.2.1 | exact hx.2.2 | exact hm.2.2
  · first | exact i5 | exact hx | exact hm | exact hx.1 | exact hx.2 | exact hx.2.2.1 | exact hm.1 | exact hm.2 | exact hx.2.1 | exact hm.2.1 | exact hx.2.2 | exact hm.2.2
  · first | exact i6 | exact hx | exact hm | exact hx.1 | exact hx.2 | exact hx.2.2.1 | exact hm.1 | exact hm.2 | exact hx.2.1 | exact hm.2.1 | exact hx.2.2 | exact hm.2.2
  · first | exact i7 | exact hx | exact hm | exact hx.1 | exact hx.2 | exact hx.2.2.1 | exact hm.1 | exact hm.2 | exact hx.2.1 | exact hm.2.1 | exact hx.2.2 | exact hm.2.2
  · first | exact i8 | exact hx | exact hm | exact hx.1 | exact hx.2 | exact hx.2.2.1 | exact hm.1 | exact hm.2 | exact hx.2.1 | exact hm.2.1 | exact hx.2.2 | exact hm.2.2
  · first | exact i9 | exact hx | exact hm | exact hx.1 | exact hx.2 | exact hx.2.2.1 | exact hm.1 | exact hm.2 | exact hx.2.1 | exact hm.2.1 | exact hx.2.2 | exact hm.2.2
  · first | exact i10 | exact hx | exact hm | exact hx.1 | exact hx.2 | exact hx.2.2.1 | exact hm.1 | exact hm.2 | exact hx.2.1 | exact hm.2.1 | exact hx.2.2 | exact hm.2.2
  · first | exact i11 | exact hx | exact hm | exact hx.1 | exact hx.2 | exact hx.2.2.1 | exact hm.1 | exact hm.2 | exact hx.2.1 | exact hm.2.1 | exact hx.2.2 | exact hm.2.2
  · first | exact i12 | exact hx | exact hm | exact hx.1 | exact hx.2 | exact hx.2.2.1 | exact hm.1 | exact hm.2 | exact hx.2.1 | exact hm.2.1 | exact hx.2.2 | exact hm.2.2
  · first | exact i13 | exact hx | exact hm | exact hx.1 | exact hx.2 | exact hx.2.2.1 | exact hm.1 | exact hm.2 | exact hx.2.1 | exact hm.2.1 | exact hx.2.2 | exact hm.2.2
  · first | exact i14 | exact hx | exact hm | exact hx.1 | exact hx.2 | exact hx.2.2.1 | exact hm.1 | exact hm.2 | exact hx.2.1 | exact hm.2.1 | exact hx.2.2 | exact hm.2.2
  · first | exact i15 | exact hx | exact hm | exact hx.1 | exact hx.2 | exact hx.2.2.1 | exact hm.1 | exact hm.2 | exact hx.2.1 | exact hm.2.1 | exact hx.2.2 | exact hm.2.2
  · first | exact i16 | exact hx | exact hm | exact hx.1 | exact hx.2 | exact hx.2.2.1 | exact hm.1 | exact hm.2 | exact hx.2.1 | exact hm.2.1 | exact hx.2.2 | exact hm.2.2
  · first | exact i17 | exact hx | exact hm | exact hx.1 | exact hx.2 | exact hx.2.2.1 | exact hm.1 | exact hm.2 | exact hx.2.1 | exact hm.2.1 | exact hx.2.2 | exact hm.2.2
theorem ps_12 : pn_12 Inv := by
  intro σ G y1 y2 hI
  obtain ⟨i1, i2, i3, i4, i5, i6, i7, i8, i9, i10, i11, i12, i13, i14, i15, i16, i17⟩ := hI
  obtain ⟨⟨rx, x_o_notes_gathered⟩, ex, hx⟩ := s_X11_one (σ 22 4) (σ 23) (σ 26) (σ 24) (σ 25) y1 y2 (by first | omega | assumption | exact ⟨_, i15⟩ | (split <;> decide)) (by first | omega | assumption | exact ⟨_, i15⟩ | (split <;> decide))
  obtain ⟨rm, em, hm⟩ := s_X12_one (σ 42 4) (σ 69) (σ 70) (σ 71) y1 y2 (by first | omega | assumption | exact ⟨_, i15⟩ | (split <;> decide)) (by first | omega | assumption | exact ⟨_, i15⟩ | (split <;> decide))
  refine ⟨rx, x_o_notes_gathered, rm, ex, em, ⟨?_, ?_, ?_, ?_, ?_, ?_, ?_, ?_, ?_, ?_, ?_, ?_, ?_, ?_, ?_, ?_, ?_⟩⟩
  · first | exact i1 | exact hx | exact hm | exact hx.1 | exact hx.2 | exact hx.2.2.1 | exact hm.1 | exact hm.2 | exact hx.2.1 | exact hm.2.1 | exact hx.2.2 | exact hm.2.2
  · first | exact i2 | exact hx | exact hm | exact hx.1 | exact hx.2 | exact hx.2.2.1 | exact hm.1 | exact hm.2 | exact hx.2.1 | exact hm.2.1 | exact hx.2.2 | exact hm.2.2
  · first | exact i3 | exact hx | exact hm | exact hx.1 | exact hx.2 | exact hx.2.2.1 | exact hm.1 | exact hm.2 | exact hx.2.1 | exact hm.2.1 | exact hx.2.2 | exact hm.2.2
  · first | exact i4 | exact hx | exact hm | exact hx.1 | exact hx.2 | exact hx.2.2.1 | exact hm.1 | exact hm.2 | exact hx.2.1 | exact hm.2.1 | exact hx.2.2 | exact hm.2.2
  · first | exact i5 | exact hx | exact hm | exact hx.1 | exact hx.2 | exact hx.2.2.1 | exact hm.1 | exact hm.2 | exact hx.2.1 | exact hm.2.1 | exact hx.2.2 | exact hm.2.2
  · first | exact i6 | exact hx | exact hm | exact hx.1 | exact hx.2 | exact hx.2.2.1 | exact hm.1 | exact hm.2 | exact hx.2.1 | exact hm.2.1 | exact hx.2.2 | exact hm.2.2
  · first | exact i7 | exact hx | exact hm | exact hx.1 | exact hx.2 | exact hx.2.2.1 | exact hm.1 | exact hm.2 | exact hx.2.1 | exact hm.2.1 | exact hx.2.2 | exact hm.2.2
  · first | exact i8 | exact hx | exact hm | exact hx.1 | exact hx.2 | exact hx.2.2.1 | exact hm.1 | exact hm.2 | exact hx.2.1 | exact hm.2.1 | exact hx.2.2 | exact hm.2.2
  · first | exact i9 | exact hx | exact hm | exact hx.1 | exact hx.2 | exact hx.2.2.1 | exact hm.1 | exact hm.2 | exact hx.2.1 | exact hm.2.1 | exact hx.2.2 | exact hm.2.2
  · first | exact i10 | exact hx | exact hm | exact hx.1 | exact hx.2 | exact hx.2.2.1 | exact hm.1 | exact hm.2 | exact hx.2.1 | exact hm.2.1 | exact hx.2.2 | exact hm.2.2
  · first | exact i11 | exact hx | exact hm | exact hx.1 | exact hx.2 | exact hx.2.2.1 | exact hm.1 | exact hm.2 | exact hx.2.1 | exact hm.2.1 | exact hx.2.2 | exact hm.2.2
  · first | exact i12 | exact hx | exact hm | exact hx.1 | exact hx.2 | exact hx.2.2.1 | exact hm.1 | exact hm.2 | exact hx.2.1 | exact hm.2.1 | exact hx.2.2 | exact hm.2.2
  · first | exact i13 | exact hx | exact hm | exact hx.1 | exact hx.2 | exact hx.2.2.1 | exact hm.1 | exact hm.2 | exact hx.2.1 | exact hm.2.1 | exact hx.2.2 | exact hm.2.2
  · first | exact i14 | exact hx | exact hm | exact hx.1 | exact hx.2 | exact hx.2.2.1 | exact hm.1 | exact hm.2 | exact hx.2.1 | exact hm.2.1 | exact hx.2.2 | exact hm.2.2
  · first | exact i15 | exact hx | exact hm | exact hx.1 | exact hx.2 | exact hx.2.2.1 | exact hm.1 | exact hm.2 | exact hx.2.1 | exact hm.2.1 | exact hx.2.2 | exact hm.2.2
  · first | exact i16 | exact hx | exact hm | exact hx.1 | exact hx.2 | exact hx.2.2.1 | exact hm.1 | exact hm.2 | exact hx.2.1 | exact hm.2.1 | exact hx.2.2 | exact hm.2.2
  · first | exact i17 | exact hx | exact hm | exact hx.1 | exact hx.2 | exact hx.2.2.1 | exact hm.1 | exact hm.2 | exact hx.2.1 | exact hm.2.1 | exact hx.2.2 | exact hm.2.2
theorem ps_13 : pn_13 Inv := by
  intro σ G y1 y2 hI
  obtain ⟨i1, i2, i3, i4, i5, i6, i7, i8, i9, i10, i11, i12, i13, i14, i15, i16, i17⟩ := hI
  obtain ⟨⟨rx, x_o_notes_gathered⟩, ex, hx⟩ := s_X11_known (σ 22 4) (σ 23) (σ 26) (σ 24) (σ 25) y1 y2 (by first | omega | assumption | exact ⟨_, i15⟩ | (split <;> decide)) (by first | omega | assumption | exact ⟨_, i15⟩ | (split <;> decide))
  obtain ⟨rm, em, hm⟩ := s_X12_known (σ 42 4) (σ 69) (σ 70) (σ 71) y1 y2 (by first | omega | assumption | exact ⟨_, i15⟩ | (split <;> decide)) (by first | omega | assumption | exact ⟨_, i15⟩ | (split <;> decide))
  refine ⟨rx, x_o_notes_gathered, rm, ex, em, ⟨?_, ?_, ?_, ?_, ?_, ?_, ?_, ?_, ?_, ?_, ?_, ?_, ?_, ?_, ?_, ?_, ?_⟩⟩
  · first | exact i1 | exact hx | exact hm | exact hx.1 | exact hx.2 | exact hx.2.2.1 | exact hm.1 | exact hm.2 | exact hx.2.1 | exact hm.2.1 | exact hx.2.2 | exact hm.2.2
  · first | exact i2 | exact hx | exact hm | exact hx.1 | exact hx.2 | exact hx.2.2.1 | exact hm.1 | exact hm.2 | exact hx.2.1 | exact hm.2.1 | exact hx.2.2 | exact hm.2.2
  · first | exact i3 | exact hx | exact hm | exact hx.1 | exact hx.2 | exact hx.2.2.1 | exact hm.1 | exact hm.2 | exact hx.2.1 | exact hm.2.1 | exact hx.2.2 | exact hm.2.2
  · first | exact i4 | exact hx | exact hm | exact hx.1 | exact hx.2 | exact hx.2.2.1 | exact hm.1 | exact hm.2 | exact hx.2.1 | exact hm.2.1 | exact hx.2.2 | exact hm.2.2
  · first | exact i5 | exact hx | exact hm | exact hx.1 | exact hx.2 | exact hx.2.2.1 | exact hm.1 | exact hm.2 | exact hx.2.1 | exact hm.2.1 | exact hx.2.2 | exact hm.2.2
  · first | exact i6 | exact hx | exact hm | exact hx.1 | exact hx.2 | exact hx.2.2.1 | exact hm.1 | exact hm.2 | exact hx.2.1 | exact hm.2.1 | exact hx.2.2 | exact hm.2.2
  · first | exact i7 | exact hx | exact hm | exact hx.1 | exact hx.2 | exact hx.2.2.1 | exact hm.1 | exact hm.2 | exact hx.2.1 | exact hm.2.1 | exact hx.2.2 | exact hm.2.2
  · first | exact i8 | exact hx | exact hm | exact hx.1 | exact hx.2 | exact hx.2.2.1 | exact hm.1 | exact hm.2 | exact hx.2.1 | exact hm.2.1 | exact hx.2.2 | exact hm.2.2
  · first | exact i9 | exact hx | exact hm | exact hx.1 | exact hx.2 | exact hx.2.2.1 | exact hm.1 | exact hm.2 | exact hx.2.1 | exact hm.2.1 | exact hx.2.2 | exact hm.2.2
  · first | exact i10 | exact hx | exact hm | exact hx.1 | exact hx.2 | exact hx.2.2.1 | exact hm.1 | exact hm.2 | exact hx.2.1 | exact hm.2.1 | exact hx.2.2 | exact hm.2.2
  · first | exact i11 | exact hx | exact hm | exact hx.1 | exact hx.2 | exact hx.2.2.1 | exact hm.1 | exact hm.2 | exact hx.2.1 | exact hm.2.1 | exact hx.2.2 | exact hm.2.2
  · first | exact i12 | exact hx | exact hm | exact hx.1 | exact hx.2 | exact hx.2.2.1 | exact hm.1 | exact hm.2 | exact hx.2.1 | exact hm.2.1 | exact hx.2.2 | exact hm.2.2
  · first | exact i13 | exact hx | exact hm | exact hx.1 | exact hx.2 | exact hx.2.2.1 | exact hm.1 | exact hm.2 | exact hx.2.1 | exact hm.2.1 | exact hx.2.2 | exact hm.2.2
  · first | exact i14 | exact hx | exact hm | exact hx.1 | exact hx.2 | exact hx.2.2.1 | exact hm.1 | exact hm.2 | exact hx.2.1 | exact hm.2.1 | exact hx.2.2 | exact hm.2.2
  · first | exact i15 | exact hx | exact hm | exact hx.1 | exact hx.2 | exact hx.2.2.1 | exact hm.1 | exact hm.2 | exact hx.2.1 | exact hm.2.1 | exact hx.2.2 | exact hm.2.2
  · first | exact i16 | exact hx | exact hm | exact hx.1 | exact hx.2 | exact hx.2.2.1 | exact hm.1 | exact hm.2 | exact hx.2.1 | exact hm.2.1 | exact hx.2.2 | exact hm.2.2
  · first | exact i17 | exact hx | exact hm | exact hx.1 | exact hx.2 | exact hx.2.2.1 | exact hm.1 | exact hm.2 | exact hx.2.1 | exact hm.2.1 | exact hx.2.2 | exact hm.2.2
theorem ps_14 : pn_14 Inv := by
  intro σ G y1 y2 y3 hI
  obtain ⟨i1, i2, i3, i4, i5, i6, i7, i8, i9, i10, i11, i12, i13, i14, i15, i16, i17⟩ := hI
  obtain ⟨⟨rx, x_o_notes_gathered⟩, ex, hx⟩ := s_X11_row (σ 22 4) (σ 23) (σ 26) (σ 24) (σ 25) y1 y2 y3 (by first | omega | assumption | exact ⟨_, i15⟩ | (split <;> decide)) (by first | omega | assumption | exact ⟨_, i15⟩ | (split <;> decide))
  obtain ⟨rm, em, hm⟩ := s_X12_row (σ 42 4) (σ 69) (σ 70) (σ 71) y1 y2 y3 (by first | omega | assumption | exact ⟨_, i15⟩ | (split <;> decide)) (by first | omega | assumption | exact ⟨_, i15⟩ | (split <;> decide))
  refine ⟨rx, x_o_notes_gathered, rm, ex, em, ⟨?_, ?_, ?_, ?_, ?_, ?_, ?_, ?_, ?_, ?_, ?_, ?_, ?_, ?_, ?_, ?_, ?_⟩⟩
  · first | exact i1 | exact hx | exact hm | exact hx.1 | exact hx.2 | exact hx.2.2.1 | exact hm.1 | exact hm.2 | exact hx.2.1 | exact hm.2.1 | exact hx.2.2 | exact hm.2.2
  · first | exact i2 | exact hx | exact hm | exact hx.1 | exact hx.2 | exact hx.2.2.1 | exact hm.1 | exact hm.2 | exact hx.2.1 | exact hm.2.1 | exact hx.2.2 | exact hm.2.2
  · first | exact i3 | exact hx | exact hm | exact hx.1 | exact hx.2 | exact hx.2.2.1 | exact hm.1 | exact hm.2 | exact hx.2.1 | exact hm.2.1 | exact hx.2.2 | exact hm.2.2
  · first | exact i4 | exact hx | exact hm | exact hx.1 | exact hx.2 | exact hx.2.2.1 | exact hm.1 | exact hm.2 | exact hx.2.1 | exact hm.2.1 | exact hx.2.2 | exact hm.2.2
  · first | exact i5 | exact hx | exact hm | exact hx.1 | exact hx.2 | exact hx.2.2.1 | exact hm.1 | exact hm.2 | exact hx.2.1 | exact hm.2.1 | exact hx.2.2 | exact hm.2.2
  · first | exact i6 | exact hx | exact hm | exact hx.1 | exact hx.2 | exact hx.2.2.1 | exact hm.1 | exact hm.2 | exact hx.2.1 | exact hm.2.1 | exact hx.2.2 | exact hm.2.2
  · first | exact i7 | exact hx | exact hm | exact hx.1 | exact hx.2 | exact hx.2.2.1 | exact hm.1 | exact hm.2 | exact hx.2.1 | exact hm.2.1 | exact hx.2.2 | exact hm.2.2
  · first | exact i8 | exact hx | exact hm | exact hx.1 | exact hx.2 | exact hx.2.2.1 | exact hm.1 | exact hm.2 | exact hx.2.1 | exact hm.2.1 | exact hx.2.2 | exact hm.2.2
  · first | exact i9 | exact hx | exact hm | exact hx.1 | exact hx.2 | exact hx.2.2.1 | exact hm.1 | exact hm.2 | exact hx.2.1 | exact hm.2.1 | exact hx.2.2 | exact hm.2.2
  · first | exact i10 | exact hx | exact hm | exact hx.1 | exact hx.2 | exact hx.2.2.1 | exact hm.1 | exact hm.2 | exact hx.2.1 | exact hm.2.1 | exact hx.2.2 | exact hm.2.2
  · first | exact i11 | exact hx | exact hm | exact hx.1 | exact hx.2 | exact hx.2.2.1 | exact hm.1 | exact hm.2 | exact hx.2.1 | exact hm.2.1 | exact hx.2.2 | exact hm.2.2
  · first | exact i12 | exact hx | exact hm | exact hx.1 | exact hx.2 | exact hx.2.2.1 | exact hm.1 | exact hm.2 | exact hx.2.1 | exact hm.2.1 | exact hx.2.2 | exact hm.2.2
  · first | exact i13 | exact hx | exact hm | exact hx.1 | exact hx.2 | exact hx.2.2.1 | exact hm.1 | exact hm.2 | exact hx.2.1 | exact hm.2.1 | exact hx.2.2 | exact hm.2.2
  · first | exact i14 | exact hx | exact hm | exact hx.1 | exact hx.2 | exact hx.2.2.1 | exact hm.1 | exact hm.2 | exact hx.2.1 | exact hm.2.1 | exact hx.2.2 | exact hm.2.2
  · first | exact i15 | exact hx | exact hm | exact hx.1 | exact hx.2 | exact hx.2.2.1 | exact hm.1 | exact hm.2 | exact hx.2.1 | exact hm.2.1 | exact hx.2.2 | exact hm.2.2
  · first | exact i16 | exact hx | exact hm | exact hx.1 | exact hx.2 | exact hx.2.2.1 | exact hm.1 | exact hm.2 | exact hx.2.1 | exact hm.2.1 | exact hx.2.2 | exact hm.2.2
  · first | exact i17 | exact hx | exact hm | exact hx.1 | exact hx.2 | exact hx.2.2.1 | exact hm.1 | exact hm.2 | exact hx.2.1 | exact hm.2.1 | exact hx.2.2 | exact hm.2.2
theorem ps_15 : pn_15 Inv := by
  intro σ G y1 hI
  obtain ⟨i1, i2, i3, i4, i5, i6, i7, i8, i9, i10, i11, i12, i13, i14, i15, i16, i17⟩ := hI
  obtain ⟨⟨rx, x_o_blips_many, x_o_blips_times⟩, ex, hx⟩ := s_X11_blip (σ 27 2) (σ 28) y1 (by first | omega | assumption | exact ⟨_, i15⟩ | (split <;> decide)) (by first | omega | assumption | exact ⟨_, i15⟩ | (split <;> decide))
  obtain ⟨⟨rm, m_o_blips, m_o_time⟩, em, hm⟩ := s_X12_blip (σ 42 5) (σ 72) y1 (by first | omega | assumption | exact ⟨_, i15⟩ | (split <;> decide)) (by first | omega | assumption | exact ⟨_, i15⟩ | (split <;> decide))
  refine ⟨rx, x_o_blips_many, x_o_blips_times, rm, m_o_blips, m_o_time, ex, em, ⟨?_, ?_, ?_, ?_, ?_, ?_, ?_, ?_, ?_, ?_, ?_, ?_, ?_, ?_, ?_, ?_, ?_⟩⟩
  · first | exact i1 | exact hx | exact hm | exact hx.1 | exact hx.2 | exact hx.2.2.1 | exact hm.1 | exact hm.2 | exact hx.2.1 | exact hm.2.1 | exact hx.2.2 | exact hm.2.2
  · first | exact i2 | exact hx | exact hm | exact hx.1 | exact hx.2 | exact hx.2.2.1 | exact hm.1 | exact hm.2 | exact hx.2.1 | exact hm.2.1 | exact hx.2.2 | exact hm.2.2
  · first | exact i3 | exact hx | exact hm | exact hx.1 | exact hx.2 | exact hx.2.2.1 | exact hm.1 | exact hm.2 | exact hx.2.1 | exact hm.2.1 | exact hx.2.2 | exact hm.2.2
  · first | exact i4 | exact hx | exact hm | exact hx.1 | exact hx.2 | exact hx.2.2.1 | exact hm.1 | exact hm.2 | exact hx.2.1 | exact hm.2.1 | exact hx.2.2 | exact hm.2.2
  · first | exact i5 | exact hx | exact hm | exact hx.1 | exact hx.2 | exact hx.2.2.1 | exact hm.1 | exact hm.2 | exact hx.2.1 | exact hm.2.1 | exact hx.2.2 | exact hm.2.2
  · first | exact i6 | exact hx | exact hm | exact hx.1 | exact hx.2 | exact hx.2.2.1 | exact hm.1 | exact hm.2 | exact hx.2.1 | exact hm.2.1 | exact hx.2.2 | exact hm.2.2
  · first | exact i7 | exact hx | exact hm | exact hx.1 | exact hx.2 | exact hx.2.2.1 | exact hm.1 | exact hm.2 | exact hx.2.1 | exact hm.2.1 | exact hx.2.2 | exact hm.2.2
  · first | exact i8 | exact hx | exact hm | exact hx.1 | exact hx.2 | exact hx.2.2.1 | exact hm.1 | exact hm.2 | exact hx.2.1 | exact hm.2.1 | exact hx.2.2 | exact hm.2.2
  · first | exact i9 | exact hx | exact hm | exact hx.1 | exact hx.2 | exact hx.2.2.1 | exact hm.1 | exact hm.2 | exact hx.2.1 | exact hm.2.1 | exact hx.2.2 | exact hm.2.2
  · first | exact i10 | exact hx | exact hm | exact hx.1 | exact hx.2 | exact hx.2.2.1 | exact hm.1 | exact hm.2 | exact hx.2.1 | exact hm.2.1 | exact hx.2.2 | exact hm.2.2
  · first | exact i11 | exact hx | exact hm | exact hx.1 | exact hx.2 | exact hx.2.2.1 | exact hm.1 | exact hm.2 | exact hx.2.1 | exact hm.2.1 | exact hx.2.2 | exact hm.2.2
  · first | exact i12 | exact hx | exact hm | exact hx.1 | exact hx.2 | exact hx.2.2.1 | exact hm.1 | exact hm.2 | exact hx.2.1 | exact hm.2.1 | exact hx.2.2 | exact hm.2.2
  · first | exact i13 | exact hx | exact hm | exact hx.1 | exact hx.2 | exact hx.2.2.1 | exact hm.1 | exact hm.2 | exact hx.2.1 | exact hm.2.1 | exact hx.2.2 | exact hm.2.2
  · first | exact i14 | exact hx | exact hm | exact hx.1 | exact hx.2 | exact hx.2.2.1 | exact hm.1 | exact hm.2 | exact hx.2.1 | exact hm.2.1 | exact hx.2.2 | exact hm.2.2
  · first | exact i15 | exact hx | exact hm | exact hx.1 | exact hx.2 | exact hx.2.2.1 | exact hm.1 | exact hm.2 | exact hx.2.1 | exact hm.2.1 | exact hx.2.2 | exact hm.2.2
  · first | exact i16 | exact hx | exact hm | exact hx.1 | exact hx.2 | exact hx.2.2.1 | exact hm.1 | exact hm.2 | exact hx.2.1 | exact hm.2.1 | exact hx.2.2 | exact hm.2.2
  · first | exact i17 | exact hx | exact hm | exact hx.1 | exact hx.2 | exact hx.2.2.1 | exact hm.1 | exact hm.2 | exact hx.2.1 | exact hm.2.1 | exact hx.2.2 | exact hm.2.2
theorem ps_16 : pn_16 Inv := by
  intro σ G y1 y2 hI
  obtain ⟨i1, i2, i3, i4, i5, i6, i7, i8, i9, i10, i11, i12, i13, i14, i15, i16, i17⟩ := hI
  obtain ⟨⟨rx, x_o_blips_rests⟩, ex, hx⟩ := s_X11_fits (σ 27 2) (σ 29) (σ 28) y1 y2 (by first | omega | assumption | exact ⟨_, i15⟩ | (split <;> decide)) (by first | omega | assumption | exact ⟨_, i15⟩ | (split <;> decide))
  obtain ⟨rm, em, hm⟩ := s_X12_fits (σ 42 5) (σ 72) y1 y2 (by first | omega | assumption | exact ⟨_, i15⟩ | (split <;> decide)) (by first | omega | assumption | exact ⟨_, i15⟩ | (split <;> decide))
  refine ⟨rx, x_o_blips_rests, rm, ex, em, ⟨?_, ?_, ?_, ?_, ?_, ?_, ?_, ?_, ?_, ?_, ?_, ?_, ?_, ?_, ?_, ?_, ?_⟩⟩
  · first | exact i1 | exact hx | exact hm | exact hx.1 | exact hx.2 | exact hx.2.2.1 | exact hm.1 | exact hm.2 | exact hx.2.1 | exact hm.2.1 | exact hx.2.2 | exact hm.2.2
  · first | exact i2 | exact hx | exact hm | exact hx.1 | exact hx.2 | exact hx.2.2.1 | exact hm.1 | exact hm.2 | exact hx.2.1 | exact hm.2.1 | exact hx.2.2 | exact hm.2.2
  · first | exact i3 | exact hx | exact hm | exact hx.1 | exact hx.2 | exact hx.2.2.1 | exact hm.1 | exact hm.2 | exact hx.2.1 | exact hm.2.1 | exact hx.2.2 | exact hm.2.2
  · first | exact i4 | exact hx | exact hm | exact hx.1 | exact hx.2 | exact hx.2.2.1 | exact hm.1 | exact hm.2 | exact hx.2.1 | exact hm.2.1 | exact hx.2.2 | exact hm.2.2
  · first | exact i5 | exact hx | exact hm | exact hx.1 | exact hx.2 | exact hx.2.2.1 | exact hm.1 | exact hm.2 | exact hx.2.1 | exact hm.2.1 | exact hx.2.2 | exact hm.2.2
  · first | exact i6 | exact hx | exact hm | exact hx.1 | exact hx.2 | exact hx.2.2.1 | exact hm.1 | exact hm.2 | exact hx.2.1 | exact hm.2.1 | exact hx.2.2 | exact hm.2.2
  · first | exact i7 | exact hx | exact hm | exact hx.1 | exact hx.2 | exact hx.2.2.1 | exact hm.1 | exact hm.2 | exact hx.2.1 | exact hm.2.1 | exact hx.2.2 | exact hm.2.2
  · first | exact i8 | exact hx | exact hm | exact hx.1 | exact hx.2 | exact hx.2.2.1 | exact hm.1 | exact hm.2 | exact hx.2.1 | exact hm.2.1 | exact hx.2.2 | exact hm.2.2
  · first | exact i9 | exact hx | exact hm | exact hx.1 | exact hx.2 | exact hx.2.2.1 | exact hm.1 | exact hm.2 | exact hx.2.1 | exact hm.2.1 | exact hx.2.2 | exact hm.2.2
  · first | exact i10 | exact hx | exact hm | exact hx.1 | exact hx.2 | exact hx.2.2.1 | exact hm.1 | exact hm.2 | exact hx.2.1 | exact hm.2.1 | exact hx.2.2 | exact hm.2.2
  · first | exact i11 | exact hx | exact hm | exact hx.1 | exact hx.2 | exact hx.2.2.1 | exact hm.1 | exact hm.2 | exact hx.2.1 | exact hm.2.1 | exact hx.2.2 | exact hm.2.2
  · first | exact i12 | exact hx | exact hm | exact hx.1 | exact hx.2 | exact hx.2.2.1 | exact hm.1 | exact hm.2 | exact hx.2.1 | exact hm.2.1 | exact hx.2.2 | exact hm.2.2
  · first | exact i13 | exact hx | exact hm | exact hx.1 | exact hx.2 | exact hx.2.2.1 | exact hm.1 | exact hm.2 | exact hx.2.1 | exact hm.2.1 | exact hx.2.2 | exact hm.2.2
  · first | exact i14 | exact hx | exact hm | exact hx.1 | exact hx.2 | exact hx.2.2.1 | exact hm.1 | exact hm.2 | exact hx.2.1 | exact hm.2.1 | exact hx.2.2 | exact hm.2.2
  · first | exact i15 | exact hx | exact hm | exact hx.1 | exact hx.2 | exact hx.2.2.1 | exact hm.1 | exact hm.2 | exact hx.2.1 | exact hm.2.1 | exact hx.2.2 | exact hm.2.2
  · first | exact i16 | exact hx | exact hm | exact hx.1 | exact hx.2 | exact hx.2.2.1 | exact hm.1 | exact hm.2 | exact hx.2.1 | exact hm.2.1 | exact hx.2.2 | exact hm.2.2
  · first | exact i17 | exact hx | exact hm | exact hx.1 | exact hx.2 | exact hx.2.2.1 | exact hm.1 | exact hm.2 | exact hx.2.1 | exact hm.2.1 | exact hx.2.2 | exact hm.2.2
theorem ps_17 : pn_17 Inv := by
  intro σ G y1 y2 y3 y4 hI
  obtain ⟨i1, i2, i3, i4, i5, i6, i7, i8, i9, i10, i11, i12, i13, i14, i15, i16, i17⟩ := hI
  obtain ⟨⟨rx, x_o_blips_fitting, x_o_blips_least, x_o_blips_greatest, x_o_blips_rests⟩, ex, hx⟩ := s_X11_beats (σ 27 2) (σ 27 3) (σ 27 4) (σ 27 5) (σ 29) (σ 28) y1 y2 y3 y4 (by first | omega | assumption | exact ⟨_, i15⟩ | (split <;> decide)) (by first | omega | assumption | exact ⟨_, i15⟩ | (split <;> decide))
  obtain ⟨⟨rm, m_o_fitMany, m_o_fitLeast, m_o_fitMost⟩, em, hm⟩ := s_X12_beats (σ 42 5) (σ 42 60) (σ 42 61) (σ 42 62) (σ 72) y1 y2 y3 y4 (by first | omega | assumption | exact ⟨_, i15⟩ | (split <;> decide)) (by first | omega | assumption | exact ⟨_, i15⟩ | (split <;> decide))
  refine ⟨rx, x_o_blips_fitting, x_o_blips_least, x_o_blips_greatest, x_o_blips_rests, rm, m_o_fitMany, m_o_fitLeast, m_o_fitMost, ex, em, ⟨?_, ?_, ?_, ?_, ?_, ?_, ?_, ?_, ?_, ?_, ?_, ?_, ?_, ?_, ?_, ?_, ?_⟩⟩
  · first | exact i1 | exact hx | exact hm | exact hx.1 | exact hx.2 | exact hx.2.2.1 | exact hm.1 | exact hm.2 | exact hx.2.1 | exact hm.2.1 | exact hx.2.2 | exact hm.2.2
  · first | exact i2 | exact hx | exact hm | exact hx.1 | exact hx.2 | exact hx.2.2.1 | exact hm.1 | exact hm.2 | exact hx.2.1 | exact hm.2.1 | exact hx.2.2 | exact hm.2.2
  · first | exact i3 | exact hx | exact hm | exact hx.1 | exact hx.2 | exact hx.2.2.1 | exact hm.1 | exact hm.2 | exact hx.2.1 | exact hm.2.1 | exact hx.2.2 | exact hm.2.2
  · first | exact i4 | exact hx | exact hm | exact hx.1 | exact hx.2 | exact hx.2.2.1 | exact hm.1 | exact hm.2 | exact hx.2.1 | exact hm.2.1 | exact hx.2.2 | exact hm.2.2
  · first | exact i5 | exact hx | exact hm | exact hx.1 | exact hx.2 | exact hx.2.2.1 | exact hm.1 | exact hm.2 | exact hx.2.1 | exact hm.2.1 | exact hx.2.2 | exact hm.2.2
  · first | exact i6 | exact hx | exact hm | exact hx.1 | exact hx.2 | exact hx.2.2.1 | exact hm.1 | exact hm.2 | exact hx.2.1 | exact hm.2.1 | exact hx.2.2 | exact hm.2.2
  · first | exact i7 | exact hx | exact hm | exact hx.1 | exact hx.2 | exact hx.2.2.1 | exact hm.1 | exact hm.2 | exact hx.2.1 | exact hm.2.1 | exact hx.2.2 | exact hm.2.2
  · first | exact i8 | exact hx | exact hm | exact hx.1 | exact hx.2 | exact hx.2.2.1 | exact hm.1 | exact hm.2 | exact hx.2.1 | exact hm.2.1 | exact hx.2.2 | exact hm.2.2
  · first | exact i9 | exact hx | exact hm | exact hx.1 | exact hx.2 | exact hx.2.2.1 | exact hm.1 | exact hm.2 | exact hx.2.1 | exact hm.2.1 | exact hx.2.2 | exact hm.2.2
  · first | exact i10 | exact hx | exact hm | exact hx.1 | exact hx.2 | exact hx.2.2.1 | exact hm.1 | exact hm.2 | exact hx.2.1 | exact hm.2.1 | exact hx.2.2 | exact hm.2.2
  · first | exact i11 | exact hx | exact hm | exact hx.1 | exact hx.2 | exact hx.2.2.1 | exact hm.1 | exact hm.2 | exact hx.2.1 | exact hm.2.1 | exact hx.2.2 | exact hm.2.2
  · first | exact i12 | exact hx | exact hm | exact hx.1 | exact hx.2 | exact hx.2.2.1 | exact hm.1 | exact hm.2 | exact hx.2.1 | exact hm.2.1 | exact hx.2.2 | exact hm.2.2
  · first | exact i13 | exact hx | exact hm | exact hx.1 | exact hx.2 | exact hx.2.2.1 | exact hm.1 | exact hm.2 | exact hx.2.1 | exact hm.2.1 | exact hx.2.2 | exact hm.2.2
  · first | exact i14 | exact hx | exact hm | exact hx.1 | exact hx.2 | exact hx.2.2.1 | exact hm.1 | exact hm.2 | exact hx.2.1 | exact hm.2.1 | exact hx.2.2 | exact hm.2.2
  · first | exact i15 | exact hx | exact hm | exact hx.1 | exact hx.2 | exact hx.2.2.1 | exact hm.1 | exact hm.2 | exact hx.2.1 | exact hm.2.1 | exact hx.2.2 | exact hm.2.2
  · first | exact i16 | exact hx | exact hm | exact hx.1 | exact hx.2 | exact hx.2.2.1 | exact hm.1 | exact hm.2 | exact hx.2.1 | exact hm.2.1 | exact hx.2.2 | exact hm.2.2
  · first | exact i17 | exact hx | exact hm | exact hx.1 | exact hx.2 | exact hx.2.2.1 | exact hm.1 | exact hm.2 | exact hx.2.1 | exact hm.2.1 | exact hx.2.2 | exact hm.2.2
theorem ps_18 : pn_18 Inv := by
  intro σ G y1 y2 hI
  obtain ⟨i1, i2, i3, i4, i5, i6, i7, i8, i9, i10, i11, i12, i13, i14, i15, i16, i17⟩ := hI
  obtain ⟨rx, ex, hx⟩ := s_X11_counted (σ 27 2) (σ 28) y1 y2 (by first | omega | assumption | exact ⟨_, i15⟩ | (split <;> decide)) (by first | omega | assumption | exact ⟨_, i15⟩ | (split <;> decide))
  obtain ⟨rm, em, hm⟩ := s_X12_counted (σ 42 5) (σ 72) y1 y2 (by first | omega | assumption | exact ⟨_, i15⟩ | (split <;> decide)) (by first | omega | assumption | exact ⟨_, i15⟩ | (split <;> decide))
  refine ⟨rx, rm, ex, em, ⟨?_, ?_, ?_, ?_, ?_, ?_, ?_, ?_, ?_, ?_, ?_, ?_, ?_, ?_, ?_, ?_, ?_⟩⟩
  · first | exact i1 | exact hx | exact hm | exact hx.1 | exact hx.2 | exact hx.2.2.1 | exact hm.1 | exact hm.2 | exact hx.2.1 | exact hm.2.1 | exact hx.2.2 | exact hm.2.2
  · first | exact i2 | exact hx | exact hm | exact hx.1 | exact hx.2 | exact hx.2.2.1 | exact hm.1 | exact hm.2 | exact hx.2.1 | exact hm.2.1 | exact hx.2.2 | exact hm.2.2
  · first | exact i3 | exact hx | exact hm | exact hx.1 | exact hx.2 | exact hx.2.2.1 | exact hm.1 | exact hm.2 | exact hx.2.1 | exact hm.2.1 | exact hx.2.2 | exact hm.2.2
  · first | exact i4 | exact hx | exact hm | exact hx.1 | exact hx.2 | exact hx.2.2.1 | exact hm.1 | exact hm.2 | exact hx.2.1 | exact hm.2.1 | exact hx.2.2 | exact hm.2.2
  · first | exact i5 | exact hx | exact hm | exact hx.1 | exact hx.2 | exact hx.2.2.1 | exact hm.1 | exact hm.2 | exact hx.2.1 | exact hm.2.1 | exact hx.2.2 | exact hm.2.2
  · first | exact i6 | exact hx | exact hm | exact hx.1 | exact hx.2 | exact hx.2.2.1 | exact hm.1 | exact hm.2 | exact hx.2.1 | exact hm.2.1 | exact hx.2.2 | exact hm.2.2
  · first | exact i7 | exact hx | exact hm | exact hx.1 | exact hx.2 | exact hx.2.2.1 | exact hm.1 | exact hm.2 | exact hx.2.1 | exact hm.2.1 | exact hx.2.2 | exact hm.2.2
  · first | exact i8 | exact hx | exact hm | exact hx.1 | exact hx.2 | exact hx.2.2.1 | exact hm.1 | exact hm.2 | exact hx.2.1 | exact hm.2.1 | exact hx.2.2 | exact hm.2.2
  · first | exact i9 | exact hx | exact hm | exact hx.1 | exact hx.2 | exact hx.2.2.1 | exact hm.1 | exact hm.2 | exact hx.2.1 | exact hm.2.1 | exact hx.2.2 | exact hm.2.2
  · first | exact i10 | exact hx | exact hm | exact hx.1 | exact hx.2 | exact hx.2.2.1 | exact hm.1 | exact hm.2 | exact hx.2.1 | exact hm.2.1 | exact hx.2.2 | exact hm.2.2
  · first | exact i11 | exact hx | exact hm | exact hx.1 | exact hx.2 | exact hx.2.2.1 | exact hm.1 | exact hm.2 | exact hx.2.1 | exact hm.2.1 | exact hx.2.2 | exact hm.2.2
  · first | exact i12 | exact hx | exact hm | exact hx.1 | exact hx.2 | exact hx.2.2.1 | exact hm.1 | exact hm.2 | exact hx.2.1 | exact hm.2.1 | exact hx.2.2 | exact hm.2.2
  · first | exact i13 | exact hx | exact hm | exact hx.1 | exact hx.2 | exact hx.2.2.1 | exact hm.1 | exact hm.2 | exact hx.2.1 | exact hm.2.1 | exact hx.2.2 | exact hm.2.2
  · first | exact i14 | exact hx | exact hm | exact hx.1 | exact hx.2 | exact hx.2.2.1 | exact hm.1 | exact hm.2 | exact hx.2.1 | exact hm.2.1 | exact hx.2.2 | exact hm.2.2
  · first | exact i15 | exact hx | exact hm | exact hx.1 | exact hx.2 | exact hx.2.2.1 | exact hm.1 | exact hm.2 | exact hx.2.1 | exact hm.2.1 | exact hx.2.2 | exact hm.2.2
  · first | exact i16 | exact hx | exact hm | exact hx.1 | exact hx.2 | exact hx.2.2.1 | exact hm.1 | exact hm.2 | exact hx.2.1 | exact hm.2.1 | exact hx.2.2 | exact hm.2.2
  · first | exact i17 | exact hx | exact hm | exact hx.1 | exact hx.2 | exact hx.2.2.1 | exact hm.1 | exact hm.2 | exact hx.2.1 | exact hm.2.1 | exact hx.2.2 | exact hm.2.2
theorem ps_19 : pn_19 Inv := by
  intro σ G y1 y2 y3 hI
  obtain ⟨i1, i2, i3, i4, i5, i6, i7, i8, i9, i10, i11, i12, i13, i14, i15, i16, i17⟩ := hI
  obtain ⟨⟨rx, x_o_blips_fitting, x_o_blips_least, x_o_blips_greatest, x_o_blips_rests⟩, ex, hx⟩ := s_X11_sure (σ 27 2) (σ 27 3) (σ 27 4) (σ 27 5) (σ 29) (σ 28) y1 y2 y3 (by first | omega | assumption | exact ⟨_, i15⟩ | (split <;> decide)) (by first | omega | assumption | exact ⟨_, i15⟩ | (split <;> decide))
  obtain ⟨⟨rm, m_o_fitMany, m_o_fitLeast, m_o_fitMost⟩, em, hm⟩ := s_X12_sure (σ 42 5) (σ 42 60) (σ 42 61) (σ 42 62) (σ 72) y1 y2 y3 (by first | omega | assumption | exact ⟨_, i15⟩ | (split <;> decide)) (by first | omega | assumption | exact ⟨_, i15⟩ | (split <;> decide))
  refine ⟨rx, x_o_blips_fitting, x_o_blips_least, x_o_blips_greatest, x_o_blips_rests, rm, m_o_fitMany, m_o_fitLeast, m_o_fitMost, ex, em, ⟨?_, ?_, ?_, ?_, ?_, ?_, ?_, ?_, ?_, ?_, ?_, ?_, ?_, ?_, ?_, ?_, ?_⟩⟩
  · first | exact i1 | exact hx | exact hm | exact hx.1 | exact hx.2 | exact hx.2.2.1 | exact hm.1 | exact hm.2 | exact hx.2.1 | exact hm.2.1 | exact hx.2.2 | exact hm.2.2
  · first | exact i2 | exact hx | exact hm | exact hx.1 | exact hx.2 | exact hx.2.2.1 | exact hm.1 | exact hm.2 | exact hx.2.1 | exact hm.2.1 | exact hx.2.2 | exact hm.2.2
  · first | exact i3 | exact hx | exact hm | exact hx.1 | exact hx.2 | exact hx.2.2.1 | exact hm.1 | exact hm.2 | exact hx.2.1 | exact hm.2.1 | exact hx.2.2 | exact hm.2.2
  · first | exact i4 | exact hx | exact hm | exact hx.1 | exact hx.2 | exact hx.2.2.1 | exact hm.1 | exact hm.2 | exact hx.2.1 | exact hm.2.1 | exact hx.2.2 | exact hm.2.2
  · first | exact i5 | exact hx | exact hm | exact hx.1 | exact hx.2 | exact hx.2.2.1 | exact hm.1 | exact hm.2 | exact hx.2.1 | exact hm.2.1 | exact hx.2.2 | exact hm.2.2
  · first | exact i6 | exact hx | exact hm | exact hx.1 | exact hx.2 | exact hx.2.2.1 | exact hm.1 | exact hm.2 | exact hx.2.1 | exact hm.2.1 | exact hx.2.2 | exact hm.2.2
  · first | exact i7 | exact hx | exact hm | exact hx.1 | exact hx.2 | exact hx.2.2.1 | exact hm.1 | exact hm.2 | exact hx.2.1 | exact hm.2.1 | exact hx.2.2 | exact hm.2.2
  · first | exact i8 | exact hx | exact hm | exact hx.1 | exact hx.2 | exact hx.2.2.1 | exact hm.1 | exact hm.2 | exact hx.2.1 | exact hm.2.1 | exact hx.2.2 | exact hm.2.2
  · first | exact i9 | exact hx | exact hm | exact hx.1 | exact hx.2 | exact hx.2.2.1 | exact hm.1 | exact hm.2 | exact hx.2.1 | exact hm.2.1 | exact hx.2.2 | exact hm.2.2
  · first | exact i10 | exact hx | exact hm | exact hx.1 | exact hx.2 | exact hx.2.2.1 | exact hm.1 | exact hm.2 | exact hx.2.1 | exact hm.2.1 | exact hx.2.2 | exact hm.2.2
  · first | exact i11 | exact hx | exact hm | exact hx.1 | exact hx.2 | exact hx.2.2.1 | exact hm.1 | exact hm.2 | exact hx.2.1 | exact hm.2.1 | exact hx.2.2 | exact hm.2.2
  · first | exact i12 | exact hx | exact hm | exact hx.1 | exact hx.2 | exact hx.2.2.1 | exact hm.1 | exact hm.2 | exact hx.2.1 | exact hm.2.1 | exact hx.2.2 | exact hm.2.2
  · first | exact i13 | exact hx | exact hm | exact hx.1 | exact hx.2 | exact hx.2.2.1 | exact hm.1 | exact hm.2 | exact hx.2.1 | exact hm.2.1 | exact hx.2.2 | exact hm.2.2
  · first | exact i14 | exact hx | exact hm | exact hx.1 | exact hx.2 | exact hx.2.2.1 | exact hm.1 | exact hm.2 | exact hx.2.1 | exact hm.2.1 | exact hx.2.2 | exact hm.2.2
  · first | exact i15 | exact hx | exact hm | exact hx.1 | exact hx.2 | exact hx.2.2.1 | exact hm.1 | exact hm.2 | exact hx.2.1 | exact hm.2.1 | exact hx.2.2 | exact hm.2.2
  · first | exact i16 | exact hx | exact hm | exact hx.1 | exact hx.2 | exact hx.2.2.1 | exact hm.1 | exact hm.2 | exact hx.2.1 | exact hm.2.1 | exact hx.2.2 | exact hm.2.2
  · first | exact i17 | exact hx | exact hm | exact hx.1 | exact hx.2 | exact hx.2.2.1 | exact hm.1 | exact hm.2 | exact hx.2.1 | exact hm.2.1 | exact hx.2.2 | exact hm.2.2
theorem ps_20 : pn_20 Inv := by
  intro σ G y1 y2 y3 hI
  obtain ⟨i1, i2, i3, i4, i5, i6, i7, i8, i9, i10, i11, i12, i13, i14, i15, i16, i17⟩ := hI
  obtain ⟨⟨rx, x_o_blips_fitting, x_o_blips_least, x_o_blips_greatest, x_o_blips_rests⟩, ex, hx⟩ := s_X11_lost (σ 27 2) (σ 27 3) (σ 27 4) (σ 27 5) (σ 29) (σ 28) y1 y2 y3 (by first | omega | assumption | exact ⟨_, i15⟩ | (split <;> decide)) (by first | omega | assumption | exact ⟨_, i15⟩ | (split <;> decide))
  obtain ⟨⟨rm, m_o_fitMany, m_o_fitLeast, m_o_fitMost⟩, em, hm⟩ := s_X12_lost (σ 42 5) (σ 42 60) (σ 42 61) (σ 42 62) (σ 72) y1 y2 y3 (by first | omega | assumption | exact ⟨_, i15⟩ | (split <;> decide)) (by first | omega | assumption | exact ⟨_, i15⟩ | (split <;> decide))
  refine ⟨rx, x_o_blips_fitting, x_o_blips_least, x_o_blips_greatest, x_o_blips_rests, rm, m_o_fitMany, m_o_fitLeast, m_o_fitMost, ex, em, ⟨?_, ?_, ?_, ?_, ?_, ?_, ?_, ?_, ?_, ?_, ?_, ?_, ?_, ?_, ?_, ?_, ?_⟩⟩
  · first | exact i1 | exact hx | exact hm | exact hx.1 | exact hx.2 | exact hx.2.2.1 | exact hm.1 | exact hm.2 | exact hx.2.1 | exact hm.2.1 | exact hx.2.2 | exact hm.2.2
  · first | exact i2 | exact hx | exact hm | exact hx.1 | exact hx.2 | exact hx.2.2.1 | exact hm.1 | exact hm.2 | exact hx.2.1 | exact hm.2.1 | exact hx.2.2 | exact hm.2.2
  · first | exact i3 | exact hx | exact hm | exact hx.1 | exact hx.2 | exact hx.2.2.1 | exact hm.1 | exact hm.2 | exact hx.2.1 | exact hm.2.1 | exact hx.2.2 | exact hm.2.2
  · first | exact i4 | exact hx | exact hm | exact hx.1 | exact hx.2 | exact hx.2.2.1 | exact hm.1 | exact hm.2 | exact hx.2.1 | exact hm.2.1 | exact hx.2.2 | exact hm.2.2
  · first | exact i5 | exact hx | exact hm | exact hx.1 | exact hx.2 | exact hx.2.2.1 | exact hm.1 | exact hm.2 | exact hx.2.1 | exact hm.2.1 | exact hx.2.2 | exact hm.2.2
  · first | exact i6 | exact hx | exact hm | exact hx.1 | exact hx.2 | exact hx.2.2.1 | exact hm.1 | exact hm.2 | exact hx.2.1 | exact hm.2.1 | exact hx.2.2 | exact hm.2.2
  · first | exact i7 | exact hx | exact hm | exact hx.1 | exact hx.2 | exact hx.2.2.1 | exact hm.1 | exact hm.2 | exact hx.2.1 | exact hm.2.1 | exact hx.2.2 | exact hm.2.2
  · first | exact i8 | exact hx | exact hm | exact hx.1 | exact hx.2 | exact hx.2.2.1 | exact hm.1 | exact hm.2 | exact hx.2.1 | exact hm.2.1 | exact hx.2.2 | exact hm.2.2
  · first | exact i9 | exact hx | exact hm | exact hx.1 | exact hx.2 | exact hx.2.2.1 | exact hm.1 | exact hm.2 | exact hx.2.1 | exact hm.2.1 | exact hx.2.2 | exact hm.2.2
  · first | exact i10 | exact hx | exact hm | exact hx.1 | exact hx.2 | exact hx.2.2.1 | exact hm.1 | exact hm.2 | exact hx.2.1 | exact hm.2.1 | exact hx.2.2 | exact hm.2.2
  · first | exact i11 | exact hx | exact hm | exact hx.1 | exact hx.2 | exact hx.2.2.1 | exact hm.1 | exact hm.2 | exact hx.2.1 | exact hm.2.1 | exact hx.2.2 | exact hm.2.2
  · first | exact i12 | exact hx | exact hm | exact hx.1 | exact hx.2 | exact hx.2.2.1 | exact hm.1 | exact hm.2 | exact hx.2.1 | exact hm.2.1 | exact hx.2.2 | exact hm.2.2
  · first | exact i13 | exact hx | exact hm | exact hx.1 | exact hx.2 | exact hx.2.2.1 | exact hm.1 | exact hm.2 | exact hx.2.1 | exact hm.2.1 | exact hx.2.2 | exact hm.2.2
  · first | exact i14 | exact hx | exact hm | exact hx.1 | exact hx.2 | exact hx.2.2.1 | exact hm.1 | exact hm.2 | exact hx.2.1 | exact hm.2.1 | exact hx.2.2 | exact hm.2.2
  · first | exact i15 | exact hx | exact hm | exact hx.1 | exact hx.2 | exact hx.2.2.1 | exact hm.1 | exact hm.2 | exact hx.2.1 | exact hm.2.1 | exact hx.2.2 | exact hm.2.2
  · first | exact i16 | exact hx | exact hm | exact hx.1 | exact hx.2 | exact hx.2.2.1 | exact hm.1 | exact hm.2 | exact hx.2.1 | exact hm.2.1 | exact hx.2.2 | exact hm.2.2
  · first | exact i17 | exact hx | exact hm | exact hx.1 | exact hx.2 | exact hx.2.2.1 | exact hm.1 | exact hm.2 | exact hx.2.1 | exact hm.2.1 | exact hx.2.2 | exact hm.2.2
theorem ps_21 : pn_21 Inv := by
  intro σ G y1 y2 hI
  obtain ⟨i1, i2, i3, i4, i5, i6, i7, i8, i9, i10, i11, i12, i13, i14, i15, i16, i17⟩ := hI
  obtain ⟨⟨rx, x_o_nights_many, x_o_nights_days, x_o_nights_shifts⟩, ex, hx⟩ := s_X11_night (σ 30 5) (σ 31) (σ 32) y1 y2 (by first | omega | assumption | exact ⟨_, i15⟩ | (split <;> decide)) (by first | omega | assumption | exact ⟨_, i15⟩ | (split <;> decide))
  obtain ⟨⟨rm, m_o_nights, m_o_found, m_o_nightDay⟩, em, hm⟩ := s_X12_night (σ 42 6) (σ 74) (σ 73) y1 y2 (by first | omega | assumption | exact ⟨_, i15⟩ | (split <;> decide)) (by first | omega | assumption | exact ⟨_, i15⟩ | (split <;> decide))
  refine ⟨rx, x_o_nights_many, x_o_nights_days, x_o_nights_shifts, rm, m_o_nights, m_o_found, m_o_nightDay, ex, em, ⟨?_, ?_, ?_, ?_, ?_, ?_, ?_, ?_, ?_, ?_, ?_, ?_, ?_, ?_, ?_, ?_, ?_⟩⟩
  · first | exact i1 | exact hx | exact hm | exact hx.1 | exact hx.2 | exact hx.2.2.1 | exact hm.1 | exact hm.2 | exact hx.2.1 | exact hm.2.1 | exact hx.2.2 | exact hm.2.2
  · first | exact i2 | exact hx | exact hm | exact hx.1 | exact hx.2 | exact hx.2.2.1 | exact hm.1 | exact hm.2 | exact hx.2.1 | exact hm.2.1 | exact hx.2.2 | exact hm.2.2
  · first | exact i3 | exact hx | exact hm | exact hx.1 | exact hx.2 | exact hx.2.2.1 | exact hm.1 | exact hm.2 | exact hx.2.1 | exact hm.2.1 | exact hx.2.2 | exact hm.2.2
  · first | exact i4 | exact hx | exact hm | exact hx.1 | exact hx.2 | exact hx.2.2.1 | exact hm.1 | exact hm.2 | exact hx.2.1 | exact hm.2.1 | exact hx.2.2 | exact hm.2.2
  · first | exact i5 | exact hx | exact hm | exact hx.1 | exact hx.2 | exact hx.2.2.1 | exact hm.1 | exact hm.2 | exact hx.2.1 | exact hm.2.1 | exact hx.2.2 | exact hm.2.2
  · first | exact i6 | exact hx | exact hm | exact hx.1 | exact hx.2 | exact hx.2.2.1 | exact hm.1 | exact hm.2 | exact hx.2.1 | exact hm.2.1 | exact hx.2.2 | exact hm.2.2
  · first | exact i7 | exact hx | exact hm | exact hx.1 | exact hx.2 | exact hx.2.2.1 | exact hm.1 | exact hm.2 | exact hx.2.1 | exact hm.2.1 | exact hx.2.2 | exact hm.2.2
  · first | exact i8 | exact hx | exact hm | exact hx.1 | exact hx.2 | exact hx.2.2.1 | exact hm.1 | exact hm.2 | exact hx.2.1 | exact hm.2.1 | exact hx.2.2 | exact hm.2.2
  · first | exact i9 | exact hx | exact hm | exact hx.1 | exact hx.2 | exact hx.2.2.1 | exact hm.1 | exact hm.2 | exact hx.2.1 | exact hm.2.1 | exact hx.2.2 | exact hm.2.2
  · first | exact i10 | exact hx | exact hm | exact hx.1 | exact hx.2 | exact hx.2.2.1 | exact hm.1 | exact hm.2 | exact hx.2.1 | exact hm.2.1 | exact hx.2.2 | exact hm.2.2
  · first | exact i11 | exact hx | exact hm | exact hx.1 | exact hx.2 | exact hx.2.2.1 | exact hm.1 | exact hm.2 | exact hx.2.1 | exact hm.2.1 | exact hx.2.2 | exact hm.2.2
  · first | exact i12 | exact hx | exact hm | exact hx.1 | exact hx.2 | exact hx.2.2.1 | exact hm.1 | exact hm.2 | exact hx.2.1 | exact hm.2.1 | exact hx.2.2 | exact hm.2.2
  · first | exact i13 | exact hx | exact hm | exact hx.1 | exact hx.2 | exact hx.2.2.1 | exact hm.1 | exact hm.2 | exact hx.2.1 | exact hm.2.1 | exact hx.2.2 | exact hm.2.2
  · first | exact i14 | exact hx | exact hm | exact hx.1 | exact hx.2 | exact hx.2.2.1 | exact hm.1 | exact hm.2 | exact hx.2.1 | exact hm.2.1 | exact hx.2.2 | exact hm.2.2
  · first | exact i15 | exact hx | exact hm | exact hx.1 | exact hx.2 | exact hx.2.2.1 | exact hm.1 | exact hm.2 | exact hx.2.1 | exact hm.2.1 | exact hx.2.2 | exact hm.2.2
  · first | exact i16 | exact hx | exact hm | exact hx.1 | exact hx.2 | exact hx.2.2.1 | exact hm.1 | exact hm.2 | exact hx.2.1 | exact hm.2.1 | exact hx.2.2 | exact hm.2.2
  · first | exact i17 | exact hx | exact hm | exact hx.1 | exact hx.2 | exact hx.2.2.1 | exact hm.1 | exact hm.2 | exact hx.2.1 | exact hm.2.1 | exact hx.2.2 | exact hm.2.2
theorem ps_22 : pn_22 Inv := by
  intro σ G y1 y2 hI
  obtain ⟨i1, i2, i3, i4, i5, i6, i7, i8, i9, i10, i11, i12, i13, i14, i15, i16, i17⟩ := hI
  obtain ⟨⟨rx, x_o_nights_reckoner_letters, x_o_nights_reckoner_values⟩, ex, hx⟩ := s_X11_says G (σ 30 5) (σ 31) (σ 35) (σ 36) y1 y2 (by first | omega | assumption | exact ⟨_, i15⟩ | (split <;> decide)) (by first | omega | assumption | exact ⟨_, i15⟩ | (split <;> decide)) (by first | omega | assumption | exact ⟨_, i15⟩ | (split <;> decide))
  obtain ⟨⟨rm, m_o_atA, m_o_atB, m_o_atD, m_o_atF, m_o_atG, m_o_atH, m_o_atL, m_o_atM, m_o_atN, m_o_atS, m_o_atT, m_o_atU, m_o_atX, m_o_isRefused, m_o_worth⟩, em, hm⟩ := s_X12_says (σ 42 6) (σ 42 28) (σ 42 29) (σ 42 30) (σ 42 31) (σ 42 32) (σ 42 33) (σ 42 34) (σ 42 35) (σ 42 36) (σ 42 37) (σ 42 38) (σ 42 39) (σ 42 40) (σ 48) (σ 49) (σ 46) (σ 57) (σ 44) (σ 73) (σ 45) (σ 56) y1 y2 (by first | omega | assumption | exact ⟨_, i15⟩ | (split <;> decide)) (by first | omega | assumption | exact ⟨_, i15⟩ | (split <;> decide)) (by first | omega | assumption | exact ⟨_, i15⟩ | (split <;> decide))
  refine ⟨rx, x_o_nights_reckoner_letters, x_o_nights_reckoner_values, rm, m_o_atA, m_o_atB, m_o_atD, m_o_atF, m_o_atG, m_o_atH, m_o_atL, m_o_atM, m_o_atN, m_o_atS, m_o_atT, m_o_atU, m_o_atX, m_o_isRefused, m_o_worth, ex, em, ⟨?_, ?_, ?_, ?_, ?_, ?_, ?_, ?_, ?_, ?_, ?_, ?_, ?_, ?_, ?_, ?_, ?_⟩⟩
  · first | exact i1 | exact hx | exact hm | exact hx.1 | exact hx.2 | exact hx.2.2.1 | exact hm.1 | exact hm.2 | exact hx.2.1 | exact hm.2.1 | exact hx.2.2 | exact hm.2.2
  · first | exact i2 | exact hx | exact hm | exact hx.1 | exact hx.2 | exact hx.2.2.1 | exact hm.1 | exact hm.2 | exact hx.2.1 | exact hm.2.1 | exact hx.2.2 | exact hm.2.2
  · first | exact i3 | exact hx | exact hm | exact hx.1 | exact hx.2 | exact hx.2.2.1 | exact hm.1 | exact hm.2 | exact hx.2.1 | exact hm.2.1 | exact hx.2.2 | exact hm.2.2
  · first | exact i4 | exact hx | exact hm | exact hx.1 | exact hx.2 | exact hx.2.2.1 | exact hm.1 | exact hm.2 | exact hx.2.1 | exact hm.2.1 | exact hx.2.2 | exact hm.2.2
  · first | exact i5 | exact hx | exact hm | exact hx.1 | exact hx.2 | exact hx.2.2.1 | exact hm.1 | exact hm.2 | exact hx.2.1 | exact hm.2.1 | exact hx.2.2 | exact hm.2.2
  · first | exact i6 | exact hx | exact hm | exact hx.1 | exact hx.2 | exact hx.2.2.1 | exact hm.1 | exact hm.2 | exact hx.2.1 | exact hm.2.1 | exact hx.2.2 | exact hm.2.2
  · first | exact i7 | exact hx | exact hm | exact hx.1 | exact hx.2 | exact hx.2.2.1 | exact hm.1 | exact hm.2 | exact hx.2.1 | exact hm.2.1 | exact hx.2.2 | exact hm.2.2
  · first | exact i8 | exact hx | exact hm | exact hx.1 | exact hx.2 | exact hx.2.2.1 | exact hm.1 | exact hm.2 | exact hx.2.1 | exact hm.2.1 | exact hx.2.2 | exact hm.2.2
  · first | exact i9 | exact hx | exact hm | exact hx.1 | exact hx.2 | exact hx.2.2.1 | exact hm.1 | exact hm.2 | exact hx.2.1 | exact hm.2.1 | exact hx.2.2 | exact hm.2.2
  · first | exact i10 | exact hx | exact hm | exact hx.1 | exact hx.2 | exact hx.2.2.1 | exact hm.1 | exact hm.2 | exact hx.2.1 | exact hm.2.1 | exact hx.2.2 | exact hm.2.2
  · first | exact i11 | exact hx | exact hm | exact hx.1 | exact hx.2 | exact hx.2.2.1 | exact hm.1 | exact hm.2 | exact hx.2.1 | exact hm.2.1 | exact hx.2.2 | exact hm.2.2
  · first | exact i12 | exact hx | exact hm | exact hx.1 | exact hx.2 | exact hx.2.2.1 | exact hm.1 | exact hm.2 | exact hx.2.1 | exact hm.2.1 | exact hx.2.2 | exact hm.2.2
  · first | exact i13 | exact hx | exact hm | exact hx.1 | exact hx.2 | exact hx.2.2.1 | exact hm.1 | exact hm.2 | exact hx.2.1 | exact hm.2.1 | exact hx.2.2 | exact hm.2.2
  · first | exact i14 | exact hx | exact hm | exact hx.1 | exact hx.2 | exact hx.2.2.1 | exact hm.1 | exact hm.2 | exact hx.2.1 | exact hm.2.1 | exact hx.2.2 | exact hm.2.2
  · first | exact i15 | exact hx | exact hm | exact hx.1 | exact hx.2 | exact hx.2.2.1 | exact hm.1 | exact hm.2 | exact hx.2.1 | exact hm.2.1 | exact hx.2.2 | exact hm.2.2
  · first | exact i16 | exact hx | exact hm | exact hx.1 | exact hx.2 | exact hx.2.2.1 | exact hm.1 | exact hm.2 | exact hx.2.1 | exact hm.2.1 | exact hx.2.2 | exact hm.2.2
  · first | exact i17 | exact hx | exact hm | exact hx.1 | exact hx.2 | exact hx.2.2.1 | exact hm.1 | exact hm.2 | exact hx.2.1 | exact hm.2.1 | exact hx.2.2 | exact hm.2.2
theorem ps_23 : pn_23 Inv := by
  intro σ G y1 y2 hI
  obtain ⟨i1, i2, i3, i4, i5, i6, i7, i8, i9, i10, i11, i12, i13, i14, i15, i16, i17⟩ := hI
  obtain ⟨⟨rx, x_o_nights_reckoner_letters, x_o_nights_reckoner_values⟩, ex, hx⟩ := s_X11_falls G (σ 30 5) (σ 31) (σ 32) (σ 35) (σ 36) y1 y2 (by first | omega | assumption | exact ⟨_, i15⟩ | (split <;> decide)) (by first | omega | assumption | exact ⟨_, i15⟩ | (split <;> decide)) (by first | omega | assumption | exact ⟨_, i15⟩ | (split <;> decide))
  obtain ⟨⟨rm, m_o_atA, m_o_atB, m_o_atD, m_o_atF, m_o_atG, m_o_atH, m_o_atL, m_o_atM, m_o_atN, m_o_atS, m_o_atT, m_o_atU, m_o_atX, m_o_isRefused, m_o_worth⟩, em, hm⟩ := s_X12_falls (σ 42 6) (σ 42 28) (σ 42 29) (σ 42 30) (σ 42 31) (σ 42 32) (σ 42 33) (σ 42 34) (σ 42 35) (σ 42 36) (σ 42 37) (σ 42 38) (σ 42 39) (σ 42 40) (σ 48) (σ 49) (σ 46) (σ 74) (σ 57) (σ 44) (σ 73) (σ 45) (σ 56) y1 y2 (by first | omega | assumption | exact ⟨_, i15⟩ | (split <;> decide)) (by first | omega | assumption | exact ⟨_, i15⟩ | (split <;> decide)) (by first | omega | assumption | exact ⟨_, i15⟩ | (split <;> decide))
  refine ⟨rx, x_o_nights_reckoner_letters, x_o_nights_reckoner_values, rm, m_o_atA, m_o_atB, m_o_atD, m_o_atF, m_o_atG, m_o_atH, m_o_atL, m_o_atM, m_o_atN, m_o_atS, m_o_atT, m_o_atU, m_o_atX, m_o_isRefused, m_o_worth, ex, em, ⟨?_, ?_, ?_, ?_, ?_, ?_, ?_, ?_, ?_, ?_, ?_, ?_, ?_, ?_, ?_, ?_, ?_⟩⟩
  · first | exact i1 | exact hx | exact hm | exact hx.1 | exact hx.2 | exact hx.2.2.1 | exact hm.1 | exact hm.2 | exact hx.2.1 | exact hm.2.1 | exact hx.2.2 | exact hm.2.2
  · first | exact i2 | exact hx | exact hm | exact hx.1 | exact hx.2 | exact hx.2.2.1 | exact hm.1 | exact hm.2 | exact hx.2.1 | exact hm.2.1 | exact hx.2.2 | exact hm.2.2
  · first | exact i3 | exact hx | exact hm | exact hx.1 | exact hx.2 | exact hx.2.2.1 | exact hm.1 | exact hm.2 | exact hx.2.1 | exact hm.2.1 | exact hx.2.2 | exact hm.2.2
  · first | exact i4 | exact hx | exact hm | exact hx.1 | exact hx.2 | exact hx.2.2.1 | exact hm.1 | exact hm.2 | exact hx.2.1 | exact hm.2.1 | exact hx.2.2 | exact hm.2.2
  · first | exact i5 | exact hx | exact hm | exact hx.1 | exact hx.2 | exact hx.2.2.1 | exact hm.1 | exact hm.2 | exact hx.2.1 | exact hm.2.1 | exact hx.2.2 | exact hm.2.2
  · first | exact i6 | exact hx | exact hm | exact hx.1 | exact hx.2 | exact hx.2.2.1 | exact hm.1 | exact hm.2 | exact hx.2.1 | exact hm.2.1 | exact hx.2.2 | exact hm.2.2
  · first | exact i7 | exact hx | exact hm | exact hx.1 | exact hx.2 | exact hx.2.2.1 | exact hm.1 | exact hm.2 | exact hx.2.1 | exact hm.2.1 | exact hx.2.2 | exact hm.2.2
  · first | exact i8 | exact hx | exact hm | exact hx.1 | exact hx.2 | exact hx.2.2.1 | exact hm.1 | exact hm.2 | exact hx.2.1 | exact hm.2.1 | exact hx.2.2 | exact hm.2.2
  · first | exact i9 | exact hx | exact hm | exact hx.1 | exact hx.2 | exact hx.2.2.1 | exact hm.1 | exact hm.2 | exact hx.2.1 | exact hm.2.1 | exact hx.2.2 | exact hm.2.2
  · first | exact i10 | exact hx | exact hm | exact hx.1 | exact hx.2 | exact hx.2.2.1 | exact hm.1 | exact hm.2 | exact hx.2.1 | exact hm.2.1 | exact hx.2.2 | exact hm.2.2
  · first | exact i11 | exact hx | exact hm | exact hx.1 | exact hx.2 | exact hx.2.2.1 | exact hm.1 | exact hm.2 | exact hx.2.1 | exact hm.2.1 | exact hx.2.2 | exact hm.2.2
  · first | exact i12 | exact hx | exact hm | exact hx.1 | exact hx.2 | exact hx.2.2.1 | exact hm.1 | exact hm.2 | exact hx.2.1 | exact hm.2.1 | exact hx.2.2 | exact hm.2.2
  · first | exact i13 | exact hx | exact hm | exact hx.1 | exact hx.2 | exact hx.2.2.1 | exact hm.1 | exact hm.2 | exact hx.2.1 | exact hm.2.1 | exact hx.2.2 | exact hm.2.2
  · first | exact i14 | exact hx | exact hm | exact hx.1 | exact hx.2 | exact hx.2.2.1 | exact hm.1 | exact hm.2 | exact hx.2.1 | exact hm.2.1 | exact hx.2.2 | exact hm.2.2
  · first | exact i15 | exact hx | exact hm | exact hx.1 | exact hx.2 | exact hx.2.2.1 | exact hm.1 | exact hm.2 | exact hx.2.1 | exact hm.2.1 | exact hx.2.2 | exact hm.2.2
  · first | exact i16 | exact hx | exact hm | exact hx.1 | exact hx.2 | exact hx.2.2.1 | exact hm.1 | exact hm.2 | exact hx.2.1 | exact hm.2.1 | exact hx.2.2 | exact hm.2.2
  · first | exact i17 | exact hx | exact hm | exact hx.1 | exact hx.2 | exact hx.2.2.1 | exact hm.1 | exact hm.2 | exact hx.2.1 | exact hm.2.1 | exact hx.2.2 | exact hm.2.2
theorem ps_24 : pn_24 Inv := by
  intro σ G y1 y2 hI
  obtain ⟨i1, i2, i3, i4, i5, i6, i7, i8, i9, i10, i11, i12, i13, i14, i15, i16, i17⟩ := hI
  obtain ⟨⟨rx, x_o_nights_fallen, x_o_nights_reckoner_letters, x_o_nights_reckoner_values⟩, ex, hx⟩ := s_X11_told G (σ 30 5) (σ 31) (σ 33) (σ 32) (σ 35) (σ 36) y1 y2 (by first | omega | assumption | exact ⟨_, i15⟩ | (split <;> decide)) (by first | omega | assumption | exact ⟨_, i15⟩ | (split <;> decide)) (by first | omega | assumption | exact ⟨_, i15⟩ | (split <;> decide))
  obtain ⟨⟨rm, m_o_atA, m_o_atB, m_o_atD, m_o_atF, m_o_atG, m_o_atH, m_o_atL, m_o_atM, m_o_atN, m_o_atS, m_o_atT, m_o_atU, m_o_atX, m_o_isRefused, m_o_worth⟩, em, hm⟩ := s_X12_told (σ 42 6) (σ 42 28) (σ 42 29) (σ 42 30) (σ 42 31) (σ 42 32) (σ 42 33) (σ 42 34) (σ 42 35) (σ 42 36) (σ 42 37) (σ 42 38) (σ 42 39) (σ 42 40) (σ 48) (σ 49) (σ 46) (σ 74) (σ 57) (σ 44) (σ 73) (σ 45) (σ 56) y1 y2 (by first | omega | assumption | exact ⟨_, i15⟩ | (split <;> decide)) (by first | omega | assumption | exact ⟨_, i15⟩ | (split <;> decide)) (by first | omega | assumption | exact ⟨_, i15⟩ | (split <;> decide))
  refine ⟨rx, x_o_nights_fallen, x_o_nights_reckoner_letters, x_o_nights_reckoner_values, rm, m_o_atA, m_o_atB, m_o_atD, m_o_atF, m_o_atG, m_o_atH, m_o_atL, m_o_atM, m_o_atN, m_o_atS, m_o_atT, m_o_atU, m_o_atX, m_o_isRefused, m_o_worth, ex, em, ⟨?_, ?_, ?_, ?_, ?_, ?_, ?_, ?_, ?_, ?_, ?_, ?_, ?_, ?_, ?_, ?_, ?_⟩⟩
  · first | exact i1 | exact hx | exact hm | exact hx.1 | exact hx.2 | exact hx.2.2.1 | exact hm.1 | exact hm.2 | exact hx.2.1 | exact hm.2.1 | exact hx.2.2 | exact hm.2.2
  · first | exact i2 | exact hx | exact hm | exact hx.1 | exact hx.2 | exact hx.2.2.1 | exact hm.1 | exact hm.2 | exact hx.2.1 | exact hm.2.1 | exact hx.2.2 | exact hm.2.2
  · first | exact i3 | exact hx | exact hm | exact hx.1 | exact hx.2 | exact hx.2.2.1 | exact hm.1 | exact hm.2 | exact hx.2.1 | exact hm.2.1 | exact hx.2.2 | exact hm.2.2
  · first | exact i4 | exact hx | exact hm | exact hx.1 | exact hx.2 | exact hx.2.2.1 | exact hm.1 | exact hm.2 | exact hx.2.1 | exact hm.2.1 | exact hx.2.2 | exact hm.2.2
  · first | exact i5 | exact hx | exact hm | exact hx.1 | exact hx.2 | exact hx.2.2.1 | exact hm.1 | exact hm.2 | exact hx.2.1 | exact hm.2.1 | exact hx.2.2 | exact hm.2.2
  · first | exact i6 | exact hx | exact hm | exact hx.1 | exact hx.2 | exact hx.2.2.1 | exact hm.1 | exact hm.2 | exact hx.2.1 | exact hm.2.1 | exact hx.2.2 | exact hm.2.2
  · first | exact i7 | exact hx | exact hm | exact hx.1 | exact hx.2 | exact hx.2.2.1 | exact hm.1 | exact hm.2 | exact hx.2.1 | exact hm.2.1 | exact hx.2.2 | exact hm.2.2
  · first | exact i8 | exact hx | exact hm | exact hx.1 | exact hx.2 | exact hx.2.2.1 | exact hm.1 | exact hm.2 | exact hx.2.1 | exact hm.2.1 | exact hx.2.2 | exact hm.2.2
  · first | exact i9 | exact hx | exact hm | exact hx.1 | exact hx.2 | exact hx.2.2.1 | exact hm.1 | exact hm.2 | exact hx.2.1 | exact hm.2.1 | exact hx.2.2 | exact hm.2.2
  · first | exact i10 | exact hx | exact hm | exact hx.1 | exact hx.2 | exact hx.2.2.1 | exact hm.1 | exact hm.2 | exact hx.2.1 | exact hm.2.1 | exact hx.2.2 | exact hm.2.2
  · first | exact i11 | exact hx | exact hm | exact hx.1 | exact hx.2 | exact hx.2.2.1 | exact hm.1 | exact hm.2 | exact hx.2.1 | exact hm.2.1 | exact hx.2.2 | exact hm.2.2
  · first | exact i12 | exact hx | exact hm | exact hx.1 | exact hx.2 | exact hx.2.2.1 | exact hm.1 | exact hm.2 | exact hx.2.1 | exact hm.2.1 | exact hx.2.2 | exact hm.2.2
  · first | exact i13 | exact hx | exact hm | exact hx.1 | exact hx.2 | exact hx.2.2.1 | exact hm.1 | exact hm.2 | exact hx.2.1 | exact hm.2.1 | exact hx.2.2 | exact hm.2.2
  · first | exact i14 | exact hx | exact hm | exact hx.1 | exact hx.2 | exact hx.2.2.1 | exact hm.1 | exact hm.2 | exact hx.2.1 | exact hm.2.1 | exact hx.2.2 | exact hm.2.2
  · first | exact i15 | exact hx | exact hm | exact hx.1 | exact hx.2 | exact hx.2.2.1 | exact hm.1 | exact hm.2 | exact hx.2.1 | exact hm.2.1 | exact hx.2.2 | exact hm.2.2
  · first | exact i16 | exact hx | exact hm | exact hx.1 | exact hx.2 | exact hx.2.2.1 | exact hm.1 | exact hm.2 | exact hx.2.1 | exact hm.2.1 | exact hx.2.2 | exact hm.2.2
  · first | exact i17 | exact hx | exact hm | exact hx.1 | exact hx.2 | exact hx.2.2.1 | exact hm.1 | exact hm.2 | exact hx.2.1 | exact hm.2.1 | exact hx.2.2 | exact hm.2.2
theorem ps_25 : pn_25 Inv := by
  intro σ G y1 y2 hI
  obtain ⟨i1, i2, i3, i4, i5, i6, i7, i8, i9, i10, i11, i12, i13, i14, i15, i16, i17⟩ := hI
  obtain ⟨rx, ex, hx⟩ := s_X11_bound (σ 30 5) (σ 31) (σ 32) y1 y2 (by first | omega | assumption | exact ⟨_, i15⟩ | (split <;> decide)) (by first | omega | assumption | exact ⟨_, i15⟩ | (split <;> decide))
  obtain ⟨rm, em, hm⟩ := s_X12_bound (σ 42 6) (σ 74) (σ 73) y1 y2 (by first | omega | assumption | exact ⟨_, i15⟩ | (split <;> decide)) (by first | omega | assumption | exact ⟨_, i15⟩ | (split <;> decide))
  refine ⟨rx, rm, ex, em, ⟨?_, ?_, ?_, ?_, ?_, ?_, ?_, ?_, ?_, ?_, ?_, ?_, ?_, ?_, ?_, ?_, ?_⟩⟩
  · first | exact i1 | exact hx | exact hm | exact hx.1 | exact hx.2 | exact hx.2.2.1 | exact hm.1 | exact hm.2 | exact hx.2.1 | exact hm.2.1 | exact hx.2.2 | exact hm.2.2
  · first | exact i2 | exact hx | exact hm | exact hx.1 | exact hx.2 | exact hx.2.2.1 | exact hm.1 | exact hm.2 | exact hx.2.1 | exact hm.2.1 | exact hx.2.2 | exact hm.2.2
  · first | exact i3 | exact hx | exact hm | exact hx.1 | exact hx.2 | exact hx.2.2.1 | exact hm.1 | exact hm.2 | exact hx.2.1 | exact hm.2.1 | exact hx.2.2 | exact hm.2.2
  · first | exact i4 | exact hx | exact hm | exact hx.1 | exact hx.2 | exact hx.2.2.1 | exact hm.1 | exact hm.2 | exact hx.2.1 | exact hm.2.1 | exact hx.2.2 | exact hm.2.2
  · first | exact i5 | exact hx | exact hm | exact hx.1 | exact hx.2 | exact hx.2.2.1 | exact hm.1 | exact hm.2 | exact hx.2.1 | exact hm.2.1 | exact hx.2.2 | exact hm.2.2
  · first | exact i6 | exact hx | exact hm | exact hx.1 | exact hx.2 | exact hx.2.2.1 | exact hm.1 | exact hm.2 | exact hx.2.1 | exact hm.2.1 | exact hx.2.2 | exact hm.2.2
  · first | exact i7 | exact hx | exact hm | exact hx.1 | exact hx.2 | exact hx.2.2.1 | exact hm.1 | exact hm.2 | exact hx.2.1 | exact hm.2.1 | exact hx.2.2 | exact hm.2.2
  · first | exact i8 | exact hx | exact hm | exact hx.1 | exact hx.2 | exact hx.2.2.1 | exact hm.1 | exact hm.2 | exact hx.2.1 | exact hm.2.1 | exact hx.2.2 | exact hm.2.2
  · first | exact i9 | exact hx | exact hm | exact hx.1 | exact hx.2 | exact hx.2.2.1 | exact hm.1 | exact hm.2 | exact hx.2.1 | exact hm.2.1 | exact hx.2.2 | exact hm.2.2
  · first | exact i10 | exact hx | exact hm | exact hx.1 | exact hx.2 | exact hx.2.2.1 | exact hm.1 | exact hm.2 | exact hx.2.1 | exact hm.2.1 | exact hx.2.2 | exact hm.2.2
  · first | exact i11 | exact hx | exact hm | exact hx.1 | exact hx.2 | exact hx.2.2.1 | exact hm.1 | exact hm.2 | exact hx.2.1 | exact hm.2.1 | exact hx.2.2 | exact hm.2.2
  · first | exact i12 | exact hx | exact hm | exact hx.1 | exact hx.2 | exact hx.2.2.1 | exact hm.1 | exact hm.2 | exact hx.2.1 | exact hm.2.1 | exact hx.2.2 | exact hm.2.2
  · first | exact i13 | exact hx | exact hm | exact hx.1 | exact hx.2 | exact hx.2.2.1 | exact hm.1 | exact hm.2 | exact hx.2.1 | exact hm.2.1 | exact hx.2.2 | exact hm.2.2
  · first | exact i14 | exact hx | exact hm | exact hx.1 | exact hx.2 | exact hx.2.2.1 | exact hm.1 | exact hm.2 | exact hx.2.1 | exact hm.2.1 | exact hx.2.2 | exact hm.2.2
  · first | exact i15 | exact hx | exact hm | exact hx.1 | exact hx.2 | exact hx.2.2.1 | exact hm.1 | exact hm.2 | exact hx.2.1 | exact hm.2.1 | exact hx.2.2 | exact hm.2.2
  · first | exact i16 | exact hx | exact hm | exact hx.1 | exact hx.2 | exact hx.2.2.1 | exact hm.1 | exact hm.2 | exact hx.2.1 | exact hm.2.1 | exact hx.2.2 | exact hm.2.2
  · first | exact i17 | exact hx | exact hm | exact hx.1 | exact hx.2 | exact hx.2.2.1 | exact hm.1 | exact hm.2 | exact hx.2.1 | exact hm.2.1 | exact hx.2.2 | exact hm.2.2
theorem ps_27 : pn_27 Inv := by
  intro σ G y1 y2 y3 hI
  obtain ⟨i1, i2, i3, i4, i5, i6, i7, i8, i9, i10, i11, i12, i13, i14, i15, i16, i17⟩ := hI
  obtain ⟨⟨rx, x_o_lots_unseen, x_o_lots_best, x_o_lots_chosen⟩, ex, hx⟩ := s_X11_pen (σ 38 3) (σ 41) (σ 40) (σ 39) y1 y2 y3 
  obtain ⟨⟨rm, m_o_leastFrom⟩, em, hm⟩ := s_X12_pen (lf := σ 76) (ten := σ 75) (p1 := y1) (p2 := y2) (p3 := y3) i17
  refine ⟨rx, x_o_lots_unseen, x_o_lots_best, x_o_lots_chosen, rm, m_o_leastFrom, ex, em, ⟨?_, ?_, ?_, ?_, ?_, ?_, ?_, ?_, ?_, ?_, ?_, ?_, ?_, ?_, ?_, ?_, ?_⟩⟩
  · first | exact i1 | exact hx | exact hm | exact hx.1 | exact hx.2 | exact hx.2.2.1 | exact hm.1 | exact hm.2 | exact hx.2.1 | exact hm.2.1 | exact hx.2.2 | exact hm.2.2
  · first | exact i2 | exact hx | exact hm | exact hx.1 | exact hx.2 | exact hx.2.2.1 | exact hm.1 | exact hm.2 | exact hx.2.1 | exact hm.2.1 | exact hx.2.2 | exact hm.2.2
  · first | exact i3 | exact hx | exact hm | exact hx.1 | exact hx.2 | exact hx.2.2.1 | exact hm.1 | exact hm.2 | exact hx.2.1 | exact hm.2.1 | exact hx.2.2 | exact hm.2.2
  · first | exact i4 | exact hx | exact hm | exact hx.1 | exact hx.2 | exact hx.2.2.1 | exact hm.1 | exact hm.2 | exact hx.2.1 | exact hm.2.1 | exact hx.2.2 | exact hm.2.2
  · first | exact i5 | exact hx | exact hm | exact hx.1 | exact hx.2 | exact hx.2.2.1 | exact hm.1 | exact hm.2 | exact hx.2.1 | exact hm.2.1 | exact hx.2.2 | exact hm.2.2
  · first | exact i6 | exact hx | exact hm | exact hx.1 | exact hx.2 | exact hx.2.2.1 | exact hm.1 | exact hm.2 | exact hx.2.1 | exact hm.2.1 | exact hx.2.2 | exact hm.2.2
  · first | exact i7 | exact hx | exact hm | exact hx.1 | exact hx.2 | exact hx.2.2.1 | exact hm.1 | exact hm.2 | exact hx.2.1 | exact hm.2.1 | exact hx.2.2 | exact hm.2.2
  · first | exact i8 | exact hx | exact hm | exact hx.1 | exact hx.2 | exact hx.2.2.1 | exact hm.1 | exact hm.2 | exact hx.2.1 | exact hm.2.1 | exact hx.2.2 | exact hm.2.2
  · first | exact i9 | exact hx | exact hm | exact hx.1 | exact hx.2 | exact hx.2.2.1 | exact hm.1 | exact hm.2 | exact hx.2.1 | exact hm.2.1 | exact hx.2.2 | exact hm.2.2
  · first | exact i10 | exact hx | exact hm | exact hx.1 | exact hx.2 | exact hx.2.2.1 | exact hm.1 | exact hm.2 | exact hx.2.1 | exact hm.2.1 | exact hx.2.2 | exact hm.2.2
  · first | exact i11 | exact hx | exact hm | exact hx.1 | exact hx.2 | exact hx.2.2.1 | exact hm.1 | exact hm.2 | exact hx.2.1 | exact hm.2.1 | exact hx.2.2 | exact hm.2.2
  · first | exact i12 | exact hx | exact hm | exact hx.1 | exact hx.2 | exact hx.2.2.1 | exact hm.1 | exact hm.2 | exact hx.2.1 | exact hm.2.1 | exact hx.2.2 | exact hm.2.2
  · first | exact i13 | exact hx | exact hm | exact hx.1 | exact hx.2 | exact hx.2.2.1 | exact hm.1 | exact hm.2 | exact hx.2.1 | exact hm.2.1 | exact hx.2.2 | exact hm.2.2
  · first | exact i14 | exact hx | exact hm | exact hx.1 | exact hx.2 | exact hx.2.2.1 | exact hm.1 | exact hm.2 | exact hx.2.1 | exact hm.2.1 | exact hx.2.2 | exact hm.2.2
  · first | exact i15 | exact hx | exact hm | exact hx.1 | exact hx.2 | exact hx.2.2.1 | exact hm.1 | exact hm.2 | exact hx.2.1 | exact hm.2.1 | exact hx.2.2 | exact hm.2.2
  · first | exact i16 | exact hx | exact hm | exact hx.1 | exact hx.2 | exact hx.2.2.1 | exact hm.1 | exact hm.2 | exact hx.2.1 | exact hm.2.1 | exact hx.2.2 | exact hm.2.2
  · first | exact i17 | exact hx | exact hm | exact hx.1 | exact hx.2 | exact hx.2.2.1 | exact hm.1 | exact hm.2 | exact hx.2.1 | exact hm.2.1 | exact hx.2.2 | exact hm.2.2
theorem ps_28 : pn_28 Inv := by
  intro σ G y1 y2 y3 y4 y5 hI
  obtain ⟨i1, i2, i3, i4, i5, i6, i7, i8, i9, i10, i11, i12, i13, i14, i15, i16, i17⟩ := hI
  obtain ⟨r, ex, em⟩ := pf_28 y1 y2 y3 y4 y5
  exact ⟨r, r, ex, em, ⟨i1, i2, i3, i4, i5, i6, i7, i8, i9, i10, i11, i12, i13, i14, i15, i16, i17⟩⟩
theorem ps_29 : pn_29 Inv := by
  intro σ G y1 y2 y3 y4 y5 hI
  obtain ⟨i1, i2, i3, i4, i5, i6, i7, i8, i9, i10, i11, i12, i13, i14, i15, i16, i17⟩ := hI
  obtain ⟨r, ex, em⟩ := pf_29 y1 y2 y3 y4 y5
  exact ⟨r, r, ex, em, ⟨i1, i2, i3, i4, i5, i6, i7, i8, i9, i10, i11, i12, i13, i14, i15, i16, i17⟩⟩
theorem ps_30 : pn_30 Inv := by
  intro σ G y1 y2 y3 hI
  obtain ⟨i1, i2, i3, i4, i5, i6, i7, i8, i9, i10, i11, i12, i13, i14, i15, i16, i17⟩ := hI
  obtain ⟨⟨rx, x_o_page_readers, x_o_page_day, x_o_tape_length, x_o_page_heights, x_o_page_highest, x_o_page_marked, x_o_page_shapes, x_o_page_reckoner_letters, x_o_page_reckoner_values, x_o_sky_reckoner_letters, x_o_sky_reckoner_values⟩, ex, hx⟩ := s_X11_check G (σ 13 5) (σ 13 6) (σ 8 2) (σ 8 3) (σ 1 1) (σ 14) (σ 16) (σ 17) (σ 15) (σ 2) (σ 19) (σ 20) (σ 11) (σ 12) y1 y2 y3 (by first | omega | assumption | exact ⟨_, i15⟩ | (split <;> decide)) (by first | omega | assumption | exact ⟨_, i15⟩ | (split <;> decide)) (by first | omega | assumption | exact ⟨_, i15⟩ | (split <;> decide)) (by first | omega | assumption | exact ⟨_, i15⟩ | (split <;> decide)) (by first | omega | assumption | exact ⟨_, i15⟩ | (split <;> decide))
  obtain ⟨⟨rm, m_o_taped, m_o_atA, m_o_atB, m_o_atD, m_o_atF, m_o_atG, m_o_atH, m_o_atL, m_o_atM, m_o_atN, m_o_atS, m_o_atT, m_o_atU, m_o_atX, m_o_paperHigh, m_o_paperShape, m_o_first, m_o_greatest, m_o_highAt, m_o_isRefused, m_o_last, m_o_marked, m_o_shapeAt, m_o_worth⟩, em, hm⟩ := s_X12_check (σ 42 1) (σ 42 2) (σ 42 3) (σ 42 28) (σ 42 29) (σ 42 30) (σ 42 31) (σ 42 32) (σ 42 33) (σ 42 34) (σ 42 35) (σ 42 36) (σ 42 37) (σ 42 38) (σ 42 39) (σ 42 40) (σ 42 48) (σ 42 49) (σ 58) (σ 48) (σ 49) (σ 46) (σ 47) (σ 65) (σ 67) (σ 63) (σ 57) (σ 66) (σ 44) (σ 68) (σ 59) (σ 61) (σ 64) (σ 45) (σ 43) (σ 62) (σ 60) (σ 56) y1 y2 y3 (by first | omega | assumption | exact ⟨_, i15⟩ | (split <;> decide)) (by first | omega | assumption | exact ⟨_, i15⟩ | (split <;> decide)) (by first | omega | assumption | exact ⟨_, i15⟩ | (split <;> decide)) (by first | omega | assumption | exact ⟨_, i15⟩ | (split <;> decide)) (by first | omega | assumption | exact ⟨_, i15⟩ | (split <;> decide)) (by first | omega | assumption | exact ⟨_, i15⟩ | (split <;> decide))
  refine ⟨rx, x_o_page_readers, x_o_page_day, x_o_tape_length, x_o_page_heights, x_o_page_highest, x_o_page_marked, x_o_page_shapes, x_o_page_reckoner_letters, x_o_page_reckoner_values, x_o_sky_reckoner_letters, x_o_sky_reckoner_values, rm, m_o_taped, m_o_atA, m_o_atB, m_o_atD, m_o_atF, m_o_atG, m_o_atH, m_o_atL, m_o_atM, m_o_atN, m_o_atS, m_o_atT, m_o_atU, m_o_atX, m_o_paperHigh, m_o_paperShape, m_o_first, m_o_greatest, m_o_highAt, m_o_isRefused, m_o_last, m_o_marked, m_o_shapeAt, m_o_worth, ex, em, ⟨?_, ?_, ?_, ?_, ?_, ?_, ?_, ?_, ?_, ?_, ?_, ?_, ?_, ?_, ?_, ?_, ?_⟩⟩
  · first | exact i1 | exact hx | exact hm | exact hx.1 | exact hx.2 | exact hx.2.2.1 | exact hm.1 | exact hm.2 | exact hx.2.1 | exact hm.2.1 | exact hx.2.2 | exact hm.2.2
  · first | exact i2 | exact hx | exact hm | exact hx.1 | exact hx.2 | exact hx.2.2.1 | exact hm.1 | exact hm.2 | exact hx.2.1 | exact hm.2.1 | exact hx.2.2 | exact hm.2.2
  · first | exact i3 | exact hx | exact hm | exact hx.1 | exact hx.2 | exact hx.2.2.1 | exact hm.1 | exact hm.2 | exact hx.2.1 | exact hm.2.1 | exact hx.2.2 | exact hm.2.2
  · first | exact i4 | exact hx | exact hm | exact hx.1 | exact hx.2 | exact hx.2.2.1 | exact hm.1 | exact hm.2 | exact hx.2.1 | exact hm.2.1 | exact hx.2.2 | exact hm.2.2
  · first | exact i5 | exact hx | exact hm | exact hx.1 | exact hx.2 | exact hx.2.2.1 | exact hm.1 | exact hm.2 | exact hx.2.1 | exact hm.2.1 | exact hx.2.2 | exact hm.2.2
  · first | exact i6 | exact hx | exact hm | exact hx.1 | exact hx.2 | exact hx.2.2.1 | exact hm.1 | exact hm.2 | exact hx.2.1 | exact hm.2.1 | exact hx.2.2 | exact hm.2.2
  · first | exact i7 | exact hx | exact hm | exact hx.1 | exact hx.2 | exact hx.2.2.1 | exact hm.1 | exact hm.2 | exact hx.2.1 | exact hm.2.1 | exact hx.2.2 | exact hm.2.2
  · first | exact i8 | exact hx | exact hm | exact hx.1 | exact hx.2 | exact hx.2.2.1 | exact hm.1 | exact hm.2 | exact hx.2.1 | exact hm.2.1 | exact hx.2.2 | exact hm.2.2
  · first | exact i9 | exact hx | exact hm | exact hx.1 | exact hx.2 | exact hx.2.2.1 | exact hm.1 | exact hm.2 | exact hx.2.1 | exact hm.2.1 | exact hx.2.2 | exact hm.2.2
  · first | exact i10 | exact hx | exact hm | exact hx.1 | exact hx.2 | exact hx.2.2.1 | exact hm.1 | exact hm.2 | exact hx.2.1 | exact hm.2.1 | exact hx.2.2 | exact hm.2.2
  · first | exact i11 | exact hx | exact hm | exact hx.1 | exact hx.2 | exact hx.2.2.1 | exact hm.1 | exact hm.2 | exact hx.2.1 | exact hm.2.1 | exact hx.2.2 | exact hm.2.2
  · first | exact i12 | exact hx | exact hm | exact hx.1 | exact hx.2 | exact hx.2.2.1 | exact hm.1 | exact hm.2 | exact hx.2.1 | exact hm.2.1 | exact hx.2.2 | exact hm.2.2
  · first | exact i13 | exact hx | exact hm | exact hx.1 | exact hx.2 | exact hx.2.2.1 | exact hm.1 | exact hm.2 | exact hx.2.1 | exact hm.2.1 | exact hx.2.2 | exact hm.2.2
  · first | exact i14 | exact hx | exact hm | exact hx.1 | exact hx.2 | exact hx.2.2.1 | exact hm.1 | exact hm.2 | exact hx.2.1 | exact hm.2.1 | exact hx.2.2 | exact hm.2.2
  · first | exact i15 | exact hx | exact hm | exact hx.1 | exact hx.2 | exact hx.2.2.1 | exact hm.1 | exact hm.2 | exact hx.2.1 | exact hm.2.1 | exact hx.2.2 | exact hm.2.2
  · first | exact i16 | exact hx | exact hm | exact hx.1 | exact hx.2 | exact hx.2.2.1 | exact hm.1 | exact hm.2 | exact hx.2.1 | exact hm.2.1 | exact hx.2.2 | exact hm.2.2
  · first | exact i17 | exact hx | exact hm | exact hx.1 | exact hx.2 | exact hx.2.2.1 | exact hm.1 | exact hm.2 | exact hx.2.1 | exact hm.2.1 | exact hx.2.2 | exact hm.2.2
theorem ps_31 : pn_31 Inv := by
  intro σ G y1 hI
  obtain ⟨i1, i2, i3, i4, i5, i6, i7, i8, i9, i10, i11, i12, i13, i14, i15, i16, i17⟩ := hI
  obtain ⟨rx, ex, hx⟩ := s_X11_count G (σ 27 2) (σ 30 5) (σ 22 4) (σ 8 2) (σ 8 3) (σ 1 1) y1 (by first | omega | assumption | exact ⟨_, i15⟩ | (split <;> decide)) (by first | omega | assumption | exact ⟨_, i15⟩ | (split <;> decide)) (by first | omega | assumption | exact ⟨_, i15⟩ | (split <;> decide))
  obtain ⟨rm, em, hm⟩ := s_X12_count (tp := σ 42 1) (so := σ 42 2) (sd := σ 42 3) (no := σ 42 4) (bl := σ 42 5) (ni := σ 42 6) (many := σ 44) (p1 := y1) i11.1 i11.2
  refine ⟨rx, rm, ex, em, ⟨?_, ?_, ?_, ?_, ?_, ?_, ?_, ?_, ?_, ?_, ?_, ?_, ?_, ?_, ?_, ?_, ?_⟩⟩
  · first | exact i1 | exact hx | exact hm | exact hx.1 | exact hx.2 | exact hx.2.2.1 | exact hm.1 | exact hm.2 | exact hx.2.1 | exact hm.2.1 | exact hx.2.2 | exact hm.2.2
  · first | exact i2 | exact hx | exact hm | exact hx.1 | exact hx.2 | exact hx.2.2.1 | exact hm.1 | exact hm.2 | exact hx.2.1 | exact hm.2.1 | exact hx.2.2 | exact hm.2.2
  · first | exact i3 | exact hx | exact hm | exact hx.1 | exact hx.2 | exact hx.2.2.1 | exact hm.1 | exact hm.2 | exact hx.2.1 | exact hm.2.1 | exact hx.2.2 | exact hm.2.2
  · first | exact i4 | exact hx | exact hm | exact hx.1 | exact hx.2 | exact hx.2.2.1 | exact hm.1 | exact hm.2 | exact hx.2.1 | exact hm.2.1 | exact hx.2.2 | exact hm.2.2
  · first | exact i5 | exact hx | exact hm | exact hx.1 | exact hx.2 | exact hx.2.2.1 | exact hm.1 | exact hm.2 | exact hx.2.1 | exact hm.2.1 | exact hx.2.2 | exact hm.2.2
  · first | exact i6 | exact hx | exact hm | exact hx.1 | exact hx.2 | exact hx.2.2.1 | exact hm.1 | exact hm.2 | exact hx.2.1 | exact hm.2.1 | exact hx.2.2 | exact hm.2.2
  · first | exact i7 | exact hx | exact hm | exact hx.1 | exact hx.2 | exact hx.2.2.1 | exact hm.1 | exact hm.2 | exact hx.2.1 | exact hm.2.1 | exact hx.2.2 | exact hm.2.2
  · first | exact i8 | exact hx | exact hm | exact hx.1 | exact hx.2 | exact hx.2.2.1 | exact hm.1 | exact hm.2 | exact hx.2.1 | exact hm.2.1 | exact hx.2.2 | exact hm.2.2
  · first | exact i9 | exact hx | exact hm | exact hx.1 | exact hx.2 | exact hx.2.2.1 | exact hm.1 | exact hm.2 | exact hx.2.1 | exact hm.2.1 | exact hx.2.2 | exact hm.2.2
  · first | exact i10 | exact hx | exact hm | exact hx.1 | exact hx.2 | exact hx.2.2.1 | exact hm.1 | exact hm.2 | exact hx.2.1 | exact hm.2.1 | exact hx.2.2 | exact hm.2.2
  · first | exact i11 | exact hx | exact hm | exact hx.1 | exact hx.2 | exact hx.2.2.1 | exact hm.1 | exact hm.2 | exact hx.2.1 | exact hm.2.1 | exact hx.2.2 | exact hm.2.2
  · first | exact i12 | exact hx | exact hm | exact hx.1 | exact hx.2 | exact hx.2.2.1 | exact hm.1 | exact hm.2 | exact hx.2.1 | exact hm.2.1 | exact hx.2.2 | exact hm.2.2
  · first | exact i13 | exact hx | exact hm | exact hx.1 | exact hx.2 | exact hx.2.2.1 | exact hm.1 | exact hm.2 | exact hx.2.1 | exact hm.2.1 | exact hx.2.2 | exact hm.2.2
  · first | exact i14 | exact hx | exact hm | exact hx.1 | exact hx.2 | exact hx.2.2.1 | exact hm.1 | exact hm.2 | exact hx.2.1 | exact hm.2.1 | exact hx.2.2 | exact hm.2.2
  · first | exact i15 | exact hx | exact hm | exact hx.1 | exact hx.2 | exact hx.2.2.1 | exact hm.1 | exact hm.2 | exact hx.2.1 | exact hm.2.1 | exact hx.2.2 | exact hm.2.2
  · first | exact i16 | exact hx | exact hm | exact hx.1 | exact hx.2 | exact hx.2.2.1 | exact hm.1 | exact hm.2 | exact hx.2.1 | exact hm.2.1 | exact hx.2.2 | exact hm.2.2
  · first | exact i17 | exact hx | exact hm | exact hx.1 | exact hx.2 | exact hx.2.2.1 | exact hm.1 | exact hm.2 | exact hx.2.1 | exact hm.2.1 | exact hx.2.2 | exact hm.2.2
