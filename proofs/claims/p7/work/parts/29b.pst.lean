theorem gOK_T {G G' : kG} {nt : Option (Nat × kTv)} (h : gOK G) (hn : ∀ q : Nat × kTv, nt = some q → tOK q.2) (hG : kGT G nt G') : gOK G' := by
  cases nt with
  | none =>
    have e : G' = G := hG
    rw [e]; exact h
  | some q =>
    obtain ⟨ta, e⟩ := hG
    rw [e]
    refine ⟨fun k t ht => ?_, h.2⟩
    have ht : (if k = q.1 then some (ta, q.2) else G.2 k) = some t := ht
    by_cases c : k = q.1
    · rw [if_pos c] at ht; cases ht; exact hn q rfl
    · rw [if_neg c] at ht; exact h.1 k t ht
theorem nn_T {G G' : kG} {nt : Option (Nat × kTv)} {sk : Int32} (h : ∀ i : Nat, sk.toInt ≤ (i : Int) → i < 10 → G.1 i = none ∧ G.2 i = none) (hn : ∀ q : Nat × kTv, nt = some q → (q.1 : Int) < sk.toInt ∨ 10 ≤ q.1) (hG : kGT G nt G') : ∀ i : Nat, sk.toInt ≤ (i : Int) → i < 10 → G'.1 i = none ∧ G'.2 i = none := by
  cases nt with
  | none =>
    have e : G' = G := hG
    rw [e]; exact h
  | some q =>
    obtain ⟨ta, e⟩ := hG
    rw [e]
    intro i h1 h2
    refine ⟨(h i h1 h2).1, ?_⟩
    show (if i = q.1 then some (ta, q.2) else G.2 i) = none
    rw [if_neg (by have := hn q rfl; omega)]
    exact (h i h1 h2).2
theorem src_S {G G' : kG} {nt : Option (Nat × Int32 × Int32 × Int32 × Int32 × Int32 × Int32)} {sk sk' : Int32} (h0 : 0 ≤ sk.toInt ∧ sk.toInt ≤ 10) (h : gOK G) (h2 : ∀ i : Nat, sk.toInt ≤ (i : Int) → i < 10 → G.1 i = none ∧ G.2 i = none) (hx : (nt = none ∧ sk'.toInt = sk.toInt) ∨ (∃ f : Int32 × Int32 × Int32 × Int32 × Int32 × Int32, nt = some (Int32.toNatClampNeg sk, f) ∧ sk'.toInt = sk.toInt + 1 ∧ sk.toInt < 10 ∧ 0 ≤ f.2.2.2.1.toInt ∧ f.2.2.2.1.toInt ≤ 30)) (hG : kGS G nt G') : gOK G' ∧ (∀ i : Nat, sk'.toInt ≤ (i : Int) → i < 10 → G'.1 i = none ∧ G'.2 i = none) ∧ (0 ≤ sk'.toInt ∧ sk'.toInt ≤ 10) := by
  rcases hx with ⟨e1, e2⟩ | ⟨f, e1, e2, e3, e4, e5⟩
  · subst e1
    have e : G' = G := hG
    rw [e]
    exact ⟨h, fun i a b => h2 i (by omega) b, by omega⟩
  · subst e1
    obtain ⟨a, e⟩ := hG
    rw [e]
    have ts := tN sk h0.1
    refine ⟨⟨h.1, fun i s hs => ?_⟩, fun i p q => ⟨?_, (h2 i (by omega) q).2⟩, by omega⟩
    · have hs : (if i = sk.toNatClampNeg then some (a, f) else G.1 i) = some s := hs
      by_cases c : i = sk.toNatClampNeg
      · rw [if_pos c] at hs; cases hs; exact ⟨e4, e5⟩
      · rw [if_neg c] at hs; exact h.2 i s hs
    · show (if i = sk.toNatClampNeg then some (a, f) else G.1 i) = none
      rw [if_neg (by omega)]
      exact (h2 i (by omega) q).1
theorem there_t {ten : Nat → Int32} {p1 p2 : Int32} (hT : ∀ j, 0 ≤ (ten j).toInt ∧ (ten j).toInt ≤ 10) : Sf (f_X12_there ten p1 p2) (fun y => ∀ j, 0 ≤ (y.2 j).toInt ∧ (y.2 j).toInt ≤ 10) := by
  have z : (0 : Int32).toInt = 0 := by decide
  have a0 : (0 : Int64).toInt = 0 := by decide
  have a39 : (39 : Int64).toInt = 39 := by decide
  have a10 : (10 : Int64).toInt = 10 := by decide
  rw [f_X12_there]
  refine Sf_cb1 (s_X12_lies (Int32.toInt64 p1) 0 39) (fun r hr => ?_)
  refine Sf_ite (fun _ => Sf_some hT) (fun g => ?_)
  have g := neI g
  refine Sf_cb1 (s_X12_lies (Int32.toInt64 p2) 0 10) (fun r2 hr2 => ?_)
  refine Sf_ite (fun _ => Sf_some hT) (fun g2 => ?_)
  have g2 := neI g2
  have t1 := t64 p1
  have t2 := t64 p2
  have hr := hr.2.resolve_right (fun w => by have := w.1; omega)
  have hr2 := hr2.2.resolve_right (fun w => by have := w.1; omega)
  refine Sf_wrI (by omega) (by omega) (fun v hv => Sf_some (fun j => ?_))
  show 0 ≤ (v j).toInt ∧ (v j).toInt ≤ 10
  rw [hv]
  unfold upd
  split
  · exact ⟨by omega, by omega⟩
  · exact hT j
theorem ps_0 : pn_0 Inv := by
  intro σ G y1 y2 y3 y4 y5 hI
  obtain ⟨i1, i2, i3, i4, i5, i6, i7, i8, i9, i10, i11, i12, i13, i14, i15, i16, i17⟩ := hI
  obtain ⟨⟨rx, x_o_page_day, x_o_sky_many, x_nt⟩, ex, hx⟩ := s_X11_source G (σ 13 6) (σ 8 2) (if y1 = 0 then 0 else 1) y2 y3 y4 y5 (by first | omega | assumption | exact ⟨_, i15⟩ | (split <;> decide)) (by first | omega | assumption | exact ⟨_, i15⟩ | (split <;> decide)) (by first | omega | assumption | exact ⟨_, i15⟩ | (split <;> decide)) (by first | omega | assumption | exact ⟨_, i15⟩ | (split <;> decide))
  obtain ⟨⟨rm, m_o_sources, m_o_byStar, m_o_minuteOf, m_o_shape, m_o_weekdays, m_o_wide⟩, em, hm⟩ := s_X12_source (σ 42 2) (σ 58) (σ 59) (σ 61) (σ 62) (σ 60) (if y1 = 0 then 0 else 1) y2 y3 y4 y5 (by first | omega | assumption | exact ⟨_, i15⟩ | (split <;> decide)) (by first | omega | assumption | exact ⟨_, i15⟩ | (split <;> decide))
  refine ⟨rx, x_o_page_day, x_o_sky_many, x_nt, rm, m_o_sources, m_o_byStar, m_o_minuteOf, m_o_shape, m_o_weekdays, m_o_wide, ex, em, fun G2 hG => ?_⟩
  obtain ⟨j1, j2, j6⟩ := src_S i6 i1 i2 hx hG
  refine ⟨?_, ?_, ?_, ?_, ?_, ?_, ?_, ?_, ?_, ?_, ?_, ?_, ?_, ?_, ?_, ?_, ?_⟩
  · first | exact j1 | exact hx | exact hm | exact hx.1 | exact hx.2 | exact hx.2.2.1 | exact hm.1 | exact hm.2 | exact hx.2.1 | exact hm.2.1 | exact hx.2.2 | exact hm.2.2
  · first | exact j2 | exact hx | exact hm | exact hx.1 | exact hx.2 | exact hx.2.2.1 | exact hm.1 | exact hm.2 | exact hx.2.1 | exact hm.2.1 | exact hx.2.2 | exact hm.2.2
  · first | exact i3 | exact hx | exact hm | exact hx.1 | exact hx.2 | exact hx.2.2.1 | exact hm.1 | exact hm.2 | exact hx.2.1 | exact hm.2.1 | exact hx.2.2 | exact hm.2.2
  · first | exact i4 | exact hx | exact hm | exact hx.1 | exact hx.2 | exact hx.2.2.1 | exact hm.1 | exact hm.2 | exact hx.2.1 | exact hm.2.1 | exact hx.2.2 | exact hm.2.2
  · first | exact i5 | exact hx | exact hm | exact hx.1 | exact hx.2 | exact hx.2.2.1 | exact hm.1 | exact hm.2 | exact hx.2.1 | exact hm.2.1 | exact hx.2.2 | exact hm.2.2
  · first | exact j6 | exact hx | exact hm | exact hx.1 | exact hx.2 | exact hx.2.2.1 | exact hm.1 | exact hm.2 | exact hx.2.1 | exact hm.2.1 | exact hx.2.2 | exact hm.2.2
  · first | exact i7 | exact hx | exact hm | exact hx.1 | exact hx.2 | exact hx.2.2.1 | exact hm.1 | exact hm.2 | exact hx.2.1 | exact hm.2.1 | exact hx.2.2 | exact hm.2.2
  · first | exact i8 | exact hx | exact hm | exact hx.1 | exact hx.2 | exact hx.2.2.1 | exact hm.1 | exact hm.2 | exact hx.2.1 | exact hm.2.1 | exact hx.2.2 | exact hm.2.2
  · first | exact i9 | exact hx | exact hm | exact hx.1 | exact hx.2 | exact hx.2.2.1 | exact hm.1 | exact hm.2 | exact hx.2.1 | exact hm.2.1 | exact hx.2.2 | exact hm.2.2
  · first | exact i10 | exact hx | exact hm | exact hx.1 | exact hx.2 | exact hx.2.2.1 | exact hm.1 | exact hm.2 | exact hx.2.1 | exact hm.2.1 | exact hx.2.2 | exact hm.2.2
  · first | exact i11 | exact hx | exact hm | exact hx.1 | exact hx.2 | exact hx.2.2.1 | exact hm.1 | exact hm.2 | exact hx.2.1 | exact hm.2.1 | exact hx.2.2 | exact hm.2.2
  · first | exact i12 | exact hx | exact hm | exact hx.1 | exact hx.2 | exact hx.2.2.1 | exact hm.1 | exact hm.2 | exact hx.2.1 | exact hm.2.1 | exact hx.2.2 | exact hm.2.2
  · first | exact i13 | exact hx | exact hm | exact hx.1 | exact hx.2 | exact hx.2.2.1 | exact hm.1 | exact hm.2 | exact hx.2.1 | exact hm.2.1 | exact hx.2.2 | exact hm.2.2
  · first | exact i14 | exact hx | exact hm | exact hx.1 | exact hx.2 | exact hx.2.2.1 | exact hm.1 | exact hm.2 | exact hx.2.1 | exact hm.2.1 | exact hx.2.2 | exact hm.2.2
  · first | exact i15 | exact hx | exact hm | exact hx.1 | exact hx.2 | exact hx.2.2.1 | exact hm.1 | exact hm.2 | exact hx.2.1 | exact hm.2.1 | exact hx.2.2 | exact hm.2.2
  · first | exact i16 | exact hx | exact hm | exact hx.1 | exact hx.2 | exact hx.2.2.1 | exact hm.1 | exact hm.2 | exact hx.2.1 | exact hm.2.1 | exact hx.2.2 | exact hm.2.2
  · first | exact i17 | exact hx | exact hm | exact hx.1 | exact hx.2 | exact hx.2.2.1 | exact hm.1 | exact hm.2 | exact hx.2.1 | exact hm.2.1 | exact hx.2.2 | exact hm.2.2
theorem ps_3 : pn_3 Inv := by
  intro σ G y1 y2 hI
  obtain ⟨i1, i2, i3, i4, i5, i6, i7, i8, i9, i10, i11, i12, i13, i14, i15, i16, i17⟩ := hI
  obtain ⟨⟨rx, x_o_page_day, x_o_scribe_length, x_o_scribe_at, x_o_scribe_used, x_o_scribe_fault, x_o_tape_length, x_o_scribe_code, x_o_scribe_middles, x_o_scribe_starts, x_nt⟩, ex, hx⟩ := s_X11_law G (σ 13 6) (σ 3 4) (σ 3 5) (σ 3 6) (σ 3 7) (σ 8 2) (σ 1 1) (σ 4) (σ 6) (σ 5) (σ 2) y1 y2 (by first | omega | assumption | exact ⟨_, i15⟩ | (split <;> decide)) (by first | omega | assumption | exact ⟨_, i15⟩ | (split <;> decide)) (by first | omega | assumption | exact ⟨_, i15⟩ | (split <;> decide)) (by first | omega | assumption | exact ⟨_, i15⟩ | (split <;> decide)) (by first | omega | assumption | exact ⟨_, i15⟩ | (split <;> decide)) (by first | omega | assumption | exact ⟨_, i15⟩ | (split <;> decide))
  have H : Sf (f_X12_law (σ 42 1) (σ 42 2) (σ 42 18) (σ 42 19) (σ 42 20) (σ 42 21) (σ 42 22) (σ 42 23) (σ 42 24) (σ 42 25) (σ 42 26) (σ 48) (σ 49) (σ 46) (σ 47) (σ 44) (σ 54) (σ 53) (σ 51) (σ 50) (σ 52) (σ 55) (σ 45) (σ 43) y1 y2) _ := s_X12_law i11.1 i11.2 i15
  obtain ⟨⟨rm, m_o_taped, m_o_place, m_o_end, m_o_bad, m_o_clauses, m_o_codes, m_o_open, m_o_stacked, m_o_isOver, m_o_isBehind, m_o_code, m_o_codeArg, m_o_codeFrom, m_o_codeTo, m_o_many, m_o_newArg, m_o_newCode, m_o_newFrom, m_o_newSum, m_o_newTo, m_o_stack, m_o_sumFrom⟩, em, hm⟩ := H
  have ht : 0 ≤ m_o_taped.toInt ∧ m_o_taped.toInt ≤ 200 := by have e : m_o_taped.toInt = (σ 42 1).toInt ∨ m_o_taped.toInt = 0 := hm.1; omega
  refine ⟨rx, x_o_page_day, x_o_scribe_length, x_o_scribe_at, x_o_scribe_used, x_o_scribe_fault, x_o_tape_length, x_o_scribe_code, x_o_scribe_middles, x_o_scribe_starts, x_nt, rm, m_o_taped, m_o_place, m_o_end, m_o_bad, m_o_clauses, m_o_codes, m_o_open, m_o_stacked, m_o_isOver, m_o_isBehind, m_o_code, m_o_codeArg, m_o_codeFrom, m_o_codeTo, m_o_many, m_o_newArg, m_o_newCode, m_o_newFrom, m_o_newSum, m_o_newTo, m_o_stack, m_o_sumFrom, ex, em, (fun q hq => (hx.2.2.2 q hq).2.1), fun G2 hG => ⟨?_, ?_, ?_, ?_, ?_, ?_, ?_, ?_, ?_, ?_, ?_, ?_, ?_, ?_, ?_, ?_, ?_⟩⟩
  · exact gOK_T i1 (fun q hq => (hx.2.2.2 q hq).2.2) hG
  · exact nn_T i2 (fun q hq => Or.inl (hx.2.2.2 q hq).1) hG
  · first | exact i3 | exact ht | exact hx | exact hm | exact hx.1 | exact hx.2 | exact hx.2.2.1 | exact hm.1 | exact hm.2 | exact hx.2.1 | exact hm.2.1 | exact hx.2.2 | exact hm.2.2
  · first | exact i4 | exact ht | exact hx | exact hm | exact hx.1 | exact hx.2 | exact hx.2.2.1 | exact hm.1 | exact hm.2 | exact hx.2.1 | exact hm.2.1 | exact hx.2.2 | exact hm.2.2
  · first | exact i5 | exact ht | exact hx | exact hm | exact hx.1 | exact hx.2 | exact hx.2.2.1 | exact hm.1 | exact hm.2 | exact hx.2.1 | exact hm.2.1 | exact hx.2.2 | exact hm.2.2
  · first | exact i6 | exact ht | exact hx | exact hm | exact hx.1 | exact hx.2 | exact hx.2.2.1 | exact hm.1 | exact hm.2 | exact hx.2.1 | exact hm.2.1 | exact hx.2.2 | exact hm.2.2
  · first | exact i7 | exact ht | exact hx | exact hm | exact hx.1 | exact hx.2 | exact hx.2.2.1 | exact hm.1 | exact hm.2 | exact hx.2.1 | exact hm.2.1 | exact hx.2.2 | exact hm.2.2
  · first | exact i8 | exact ht | exact hx | exact hm | exact hx.1 | exact hx.2 | exact hx.2.2.1 | exact hm.1 | exact hm.2 | exact hx.2.1 | exact hm.2.1 | exact hx.2.2 | exact hm.2.2
  · first | exact i9 | exact ht | exact hx | exact hm | exact hx.1 | exact hx.2 | exact hx.2.2.1 | exact hm.1 | exact hm.2 | exact hx.2.1 | exact hm.2.1 | exact hx.2.2 | exact hm.2.2
  · first | exact i10 | exact ht | exact hx | exact hm | exact hx.1 | exact hx.2 | exact hx.2.2.1 | exact hm.1 | exact hm.2 | exact hx.2.1 | exact hm.2.1 | exact hx.2.2 | exact hm.2.2
  · first | exact i11 | exact ht | exact hx | exact hm | exact hx.1 | exact hx.2 | exact hx.2.2.1 | exact hm.1 | exact hm.2 | exact hx.2.1 | exact hm.2.1 | exact hx.2.2 | exact hm.2.2
  · first | exact i12 | exact ht | exact hx | exact hm | exact hx.1 | exact hx.2 | exact hx.2.2.1 | exact hm.1 | exact hm.2 | exact hx.2.1 | exact hm.2.1 | exact hx.2.2 | exact hm.2.2
  · first | exact i13 | exact ht | exact hx | exact hm | exact hx.1 | exact hx.2 | exact hx.2.2.1 | exact hm.1 | exact hm.2 | exact hx.2.1 | exact hm.2.1 | exact hx.2.2 | exact hm.2.2
  · first | exact i14 | exact ht | exact hx | exact hm | exact hx.1 | exact hx.2 | exact hx.2.2.1 | exact hm.1 | exact hm.2 | exact hx.2.1 | exact hm.2.1 | exact hx.2.2 | exact hm.2.2
  · first | exact i15 | exact ht | exact hx | exact hm | exact hx.1 | exact hx.2 | exact hx.2.2.1 | exact hm.1 | exact hm.2 | exact hx.2.1 | exact hm.2.1 | exact hx.2.2 | exact hm.2.2
  · first | exact i16 | exact ht | exact hx | exact hm | exact hx.1 | exact hx.2 | exact hx.2.2.1 | exact hm.1 | exact hm.2 | exact hx.2.1 | exact hm.2.1 | exact hx.2.2 | exact hm.2.2
  · first | exact i17 | exact ht | exact hx | exact hm | exact hx.1 | exact hx.2 | exact hx.2.2.1 | exact hm.1 | exact hm.2 | exact hx.2.1 | exact hm.2.1 | exact hx.2.2 | exact hm.2.2
theorem ps_4 : pn_4 Inv := by
  intro σ G y1 y2 hI
  obtain ⟨i1, i2, i3, i4, i5, i6, i7, i8, i9, i10, i11, i12, i13, i14, i15, i16, i17⟩ := hI
  obtain ⟨⟨rx, x_o_page_readers, x_o_scribe_length, x_o_scribe_at, x_o_scribe_used, x_o_scribe_fault, x_o_tape_length, x_o_scribe_code, x_o_scribe_middles, x_o_scribe_starts, x_nt⟩, ex, hx⟩ := s_X11_way G (σ 13 5) (σ 3 4) (σ 3 5) (σ 3 6) (σ 3 7) (σ 1 1) (σ 4) (σ 6) (σ 5) (σ 2) y1 y2 (by first | omega | assumption | exact ⟨_, i15⟩ | (split <;> decide)) (by first | omega | assumption | exact ⟨_, i15⟩ | (split <;> decide)) (by first | omega | assumption | exact ⟨_, i15⟩ | (split <;> decide)) (by first | omega | assumption | exact ⟨_, i15⟩ | (split <;> decide))
  have H : Sf (f_X12_way (σ 42 1) (σ 42 18) (σ 42 19) (σ 42 20) (σ 42 21) (σ 42 22) (σ 42 23) (σ 42 24) (σ 42 25) (σ 42 26) (σ 48) (σ 49) (σ 46) (σ 47) (σ 44) (σ 54) (σ 53) (σ 51) (σ 50) (σ 52) (σ 55) (σ 45) (σ 43) y1 y2) _ := s_X12_way i15
  obtain ⟨⟨rm, m_o_taped, m_o_place, m_o_end, m_o_bad, m_o_clauses, m_o_codes, m_o_open, m_o_stacked, m_o_isOver, m_o_isBehind, m_o_code, m_o_codeArg, m_o_codeFrom, m_o_codeTo, m_o_many, m_o_newArg, m_o_newCode, m_o_newFrom, m_o_newSum, m_o_newTo, m_o_stack, m_o_sumFrom⟩, em, hm⟩ := H
  have ht : 0 ≤ m_o_taped.toInt ∧ m_o_taped.toInt ≤ 200 := by have e : m_o_taped.toInt = (σ 42 1).toInt ∨ m_o_taped.toInt = 0 := hm.1; omega
  refine ⟨rx, x_o_page_readers, x_o_scribe_length, x_o_scribe_at, x_o_scribe_used, x_o_scribe_fault, x_o_tape_length, x_o_scribe_code, x_o_scribe_middles, x_o_scribe_starts, x_nt, rm, m_o_taped, m_o_place, m_o_end, m_o_bad, m_o_clauses, m_o_codes, m_o_open, m_o_stacked, m_o_isOver, m_o_isBehind, m_o_code, m_o_codeArg, m_o_codeFrom, m_o_codeTo, m_o_many, m_o_newArg, m_o_newCode, m_o_newFrom, m_o_newSum, m_o_newTo, m_o_stack, m_o_sumFrom, ex, em, (fun q hq => ⟨(hx.2.2.2 q hq).1, (hx.2.2.2 q hq).2.1⟩), fun G2 hG => ⟨?_, ?_, ?_, ?_, ?_, ?_, ?_, ?_, ?_, ?_, ?_, ?_, ?_, ?_, ?_, ?_, ?_⟩⟩
  · exact gOK_T i1 (fun q hq => (hx.2.2.2 q hq).2.2) hG
  · exact nn_T i2 (fun q hq => Or.inr (hx.2.2.2 q hq).1) hG
  · first | exact i3 | exact ht | exact hx | exact hm | exact hx.1 | exact hx.2 | exact hx.2.2.1 | exact hm.1 | exact hm.2 | exact hx.2.1 | exact hm.2.1 | exact hx.2.2 | exact hm.2.2
  · first | exact i4 | exact ht | exact hx | exact hm | exact hx.1 | exact hx.2 | exact hx.2.2.1 | exact hm.1 | exact hm.2 | exact hx.2.1 | exact hm.2.1 | exact hx.2.2 | exact hm.2.2
  · first | exact i5 | exact ht | exact hx | exact hm | exact hx.1 | exact hx.2 | exact hx.2.2.1 | exact hm.1 | exact hm.2 | exact hx.2.1 | exact hm.2.1 | exact hx.2.2 | exact hm.2.2
  · first | exact i6 | exact ht | exact hx | exact hm | exact hx.1 | exact hx.2 | exact hx.2.2.1 | exact hm.1 | exact hm.2 | exact hx.2.1 | exact hm.2.1 | exact hx.2.2 | exact hm.2.2
  · first | exact i7 | exact ht | exact hx | exact hm | exact hx.1 | exact hx.2 | exact hx.2.2.1 | exact hm.1 | exact hm.2 | exact hx.2.1 | exact hm.2.1 | exact hx.2.2 | exact hm.2.2
  · first | exact i8 | exact ht | exact hx | exact hm | exact hx.1 | exact hx.2 | exact hx.2.2.1 | exact hm.1 | exact hm.2 | exact hx.2.1 | exact hm.2.1 | exact hx.2.2 | exact hm.2.2
  · first | exact i9 | exact ht | exact hx | exact hm | exact hx.1 | exact hx.2 | exact hx.2.2.1 | exact hm.1 | exact hm.2 | exact hx.2.1 | exact hm.2.1 | exact hx.2.2 | exact hm.2.2
  · first | exact i10 | exact ht | exact hx | exact hm | exact hx.1 | exact hx.2 | exact hx.2.2.1 | exact hm.1 | exact hm.2 | exact hx.2.1 | exact hm.2.1 | exact hx.2.2 | exact hm.2.2
  · first | exact i11 | exact ht | exact hx | exact hm | exact hx.1 | exact hx.2 | exact hx.2.2.1 | exact hm.1 | exact hm.2 | exact hx.2.1 | exact hm.2.1 | exact hx.2.2 | exact hm.2.2
  · first | exact i12 | exact ht | exact hx | exact hm | exact hx.1 | exact hx.2 | exact hx.2.2.1 | exact hm.1 | exact hm.2 | exact hx.2.1 | exact hm.2.1 | exact hx.2.2 | exact hm.2.2
  · first | exact i13 | exact ht | exact hx | exact hm | exact hx.1 | exact hx.2 | exact hx.2.2.1 | exact hm.1 | exact hm.2 | exact hx.2.1 | exact hm.2.1 | exact hx.2.2 | exact hm.2.2
  · first | exact i14 | exact ht | exact hx | exact hm | exact hx.1 | exact hx.2 | exact hx.2.2.1 | exact hm.1 | exact hm.2 | exact hx.2.1 | exact hm.2.1 | exact hx.2.2 | exact hm.2.2
  · first | exact i15 | exact ht | exact hx | exact hm | exact hx.1 | exact hx.2 | exact hx.2.2.1 | exact hm.1 | exact hm.2 | exact hx.2.1 | exact hm.2.1 | exact hx.2.2 | exact hm.2.2
  · first | exact i16 | exact ht | exact hx | exact hm | exact hx.1 | exact hx.2 | exact hx.2.2.1 | exact hm.1 | exact hm.2 | exact hx.2.1 | exact hm.2.1 | exact hx.2.2 | exact hm.2.2
  · first | exact i17 | exact ht | exact hx | exact hm | exact hx.1 | exact hx.2 | exact hx.2.2.1 | exact hm.1 | exact hm.2 | exact hx.2.1 | exact hm.2.1 | exact hx.2.2 | exact hm.2.2
theorem ps_5 : pn_5 Inv := by
  intro σ G y1 y2 hI
  obtain ⟨i1, i2, i3, i4, i5, i6, i7, i8, i9, i10, i11, i12, i13, i14, i15, i16, i17⟩ := hI
  obtain ⟨⟨rx, x_o_scribe_length, x_o_scribe_at, x_o_scribe_used, x_o_scribe_fault, x_o_tape_length, x_o_scribe_code, x_o_scribe_middles, x_o_scribe_starts, x_nt⟩, ex, hx⟩ := s_X11_story G (σ 3 4) (σ 3 5) (σ 3 6) (σ 3 7) (σ 1 1) (σ 4) (σ 6) (σ 5) (σ 2) y1 y2 (by first | omega | assumption | exact ⟨_, i15⟩ | (split <;> decide)) (by first | omega | assumption | exact ⟨_, i15⟩ | (split <;> decide)) (by first | omega | assumption | exact ⟨_, i15⟩ | (split <;> decide)) (by first | omega | assumption | exact ⟨_, i15⟩ | (split <;> decide))
  have H : Sf (f_X12_story (σ 42 1) (σ 42 18) (σ 42 19) (σ 42 20) (σ 42 21) (σ 42 22) (σ 42 23) (σ 42 24) (σ 42 26) (σ 48) (σ 49) (σ 46) (σ 47) (σ 44) (σ 54) (σ 53) (σ 51) (σ 50) (σ 52) (σ 55) (σ 45) (σ 43) y1 y2) _ := s_X12_story i15
  obtain ⟨⟨rm, m_o_taped, m_o_place, m_o_end, m_o_bad, m_o_clauses, m_o_codes, m_o_open, m_o_stacked, m_o_isBehind, m_o_code, m_o_codeArg, m_o_codeFrom, m_o_codeTo, m_o_many, m_o_newArg, m_o_newCode, m_o_newFrom, m_o_newSum, m_o_newTo, m_o_stack, m_o_sumFrom⟩, em, hm⟩ := H
  have ht : 0 ≤ m_o_taped.toInt ∧ m_o_taped.toInt ≤ 200 := by have e : m_o_taped.toInt = (σ 42 1).toInt ∨ m_o_taped.toInt = 0 := hm.1; omega
  refine ⟨rx, x_o_scribe_length, x_o_scribe_at, x_o_scribe_used, x_o_scribe_fault, x_o_tape_length, x_o_scribe_code, x_o_scribe_middles, x_o_scribe_starts, x_nt, rm, m_o_taped, m_o_place, m_o_end, m_o_bad, m_o_clauses, m_o_codes, m_o_open, m_o_stacked, m_o_isBehind, m_o_code, m_o_codeArg, m_o_codeFrom, m_o_codeTo, m_o_many, m_o_newArg, m_o_newCode, m_o_newFrom, m_o_newSum, m_o_newTo, m_o_stack, m_o_sumFrom, ex, em, (fun q hq => ⟨(hx.2.2.2 q hq).1, (hx.2.2.2 q hq).2.1⟩), fun G2 hG => ⟨?_, ?_, ?_, ?_, ?_, ?_, ?_, ?_, ?_, ?_, ?_, ?_, ?_, ?_, ?_, ?_, ?_⟩⟩
  · exact gOK_T i1 (fun q hq => (hx.2.2.2 q hq).2.2) hG
  · exact nn_T i2 (fun q hq => Or.inr (by have := (hx.2.2.2 q hq).1; omega)) hG
  · first | exact i3 | exact ht | exact hx | exact hm | exact hx.1 | exact hx.2 | exact hx.2.2.1 | exact hm.1 | exact hm.2 | exact hx.2.1 | exact hm.2.1 | exact hx.2.2 | exact hm.2.2
  · first | exact i4 | exact ht | exact hx | exact hm | exact hx.1 | exact hx.2 | exact hx.2.2.1 | exact hm.1 | exact hm.2 | exact hx.2.1 | exact hm.2.1 | exact hx.2.2 | exact hm.2.2
  · first | exact i5 | exact ht | exact hx | exact hm | exact hx.1 | exact hx.2 | exact hx.2.2.1 | exact hm.1 | exact hm.2 | exact hx.2.1 | exact hm.2.1 | exact hx.2.2 | exact hm.2.2
  · first | exact i6 | exact ht | exact hx | exact hm | exact hx.1 | exact hx.2 | exact hx.2.2.1 | exact hm.1 | exact hm.2 | exact hx.2.1 | exact hm.2.1 | exact hx.2.2 | exact hm.2.2
  · first | exact i7 | exact ht | exact hx | exact hm | exact hx.1 | exact hx.2 | exact hx.2.2.1 | exact hm.1 | exact hm.2 | exact hx.2.1 | exact hm.2.1 | exact hx.2.2 | exact hm.2.2
  · first | exact i8 | exact ht | exact hx | exact hm | exact hx.1 | exact hx.2 | exact hx.2.2.1 | exact hm.1 | exact hm.2 | exact hx.2.1 | exact hm.2.1 | exact hx.2.2 | exact hm.2.2
  · first | exact i9 | exact ht | exact hx | exact hm | exact hx.1 | exact hx.2 | exact hx.2.2.1 | exact hm.1 | exact hm.2 | exact hx.2.1 | exact hm.2.1 | exact hx.2.2 | exact hm.2.2
  · first | exact i10 | exact ht | exact hx | exact hm | exact hx.1 | exact hx.2 | exact hx.2.2.1 | exact hm.1 | exact hm.2 | exact hx.2.1 | exact hm.2.1 | exact hx.2.2 | exact hm.2.2
  · first | exact i11 | exact ht | exact hx | exact hm | exact hx.1 | exact hx.2 | exact hx.2.2.1 | exact hm.1 | exact hm.2 | exact hx.2.1 | exact hm.2.1 | exact hx.2.2 | exact hm.2.2
  · first | exact i12 | exact ht | exact hx | exact hm | exact hx.1 | exact hx.2 | exact hx.2.2.1 | exact hm.1 | exact hm.2 | exact hx.2.1 | exact hm.2.1 | exact hx.2.2 | exact hm.2.2
  · first | exact i13 | exact ht | exact hx | exact hm | exact hx.1 | exact hx.2 | exact hx.2.2.1 | exact hm.1 | exact hm.2 | exact hx.2.1 | exact hm.2.1 | exact hx.2.2 | exact hm.2.2
  · first | exact i14 | exact ht | exact hx | exact hm | exact hx.1 | exact hx.2 | exact hx.2.2.1 | exact hm.1 | exact hm.2 | exact hx.2.1 | exact hm.2.1 | exact hx.2.2 | exact hm.2.2
  · first | exact i15 | exact ht | exact hx | exact hm | exact hx.1 | exact hx.2 | exact hx.2.2.1 | exact hm.1 | exact hm.2 | exact hx.2.1 | exact hm.2.1 | exact hx.2.2 | exact hm.2.2
  · first | exact i16 | exact ht | exact hx | exact hm | exact hx.1 | exact hx.2 | exact hx.2.2.1 | exact hm.1 | exact hm.2 | exact hx.2.1 | exact hm.2.1 | exact hx.2.2 | exact hm.2.2
  · first | exact i17 | exact ht | exact hx | exact hm | exact hx.1 | exact hx.2 | exact hx.2.2.1 | exact hm.1 | exact hm.2 | exact hx.2.1 | exact hm.2.1 | exact hx.2.2 | exact hm.2.2
theorem ps_26 : pn_26 Inv := by
  intro σ G y1 y2 hI
  obtain ⟨i1, i2, i3, i4, i5, i6, i7, i8, i9, i10, i11, i12, i13, i14, i15, i16, i17⟩ := hI
  obtain ⟨⟨rx, x_o_lots_tens⟩, ex, hx⟩ := s_X11_there (σ 39) y1 y2 
  obtain ⟨⟨rm, m_o_ten⟩, em, hm⟩ := there_t (ten := σ 75) (p1 := y1) (p2 := y2) i17
  refine ⟨rx, x_o_lots_tens, rm, m_o_ten, ex, em, ⟨?_, ?_, ?_, ?_, ?_, ?_, ?_, ?_, ?_, ?_, ?_, ?_, ?_, ?_, ?_, ?_, ?_⟩⟩
  · first | exact i1 | exact hx | exact hm | exact hx.1 | exact hx.2 | exact hx.2.2.1 | exact hm.1 | exact hm.2 | exact hx.2.1 | exact hm.2.1 | exact hx.2.2 | exact hm.2.2
  · first | exact i2 | exact hx | exact hm | exact hx.1 | exact hx.2 | exact hx.2.2.1 | exact hm.1 | exact hm.2 | exact hx.2.1 | exact hm.2.1 | exact hx.2.2 | exact hm.2.2
  · first | exact i3 | exact hx | exact hm | exact hx.1 | exact hx.2 | exact hx.2.2.1 | exact hm.1 | exact hm.2 | exact hx.2.1 | exact hm.2.1 | exact hx.2.2 | exact hm.2.2
  · first | exact i4 | exact hx | exact hm | exact hx.1 | exact hx.2 | exact hx.2.2.1 | exact hm.1 | exact hm.2 | exact hx.2.1 | exact hm.2.1 | exact hx.2.2 | exact hm.2.2
  · first | exact i5 | exact hx | exact hm | exact hx.1 | exact hx.2 | exact hx.2.2.1 | exact hm.1 | exact hm.2 | exact hx.2.1 | exact hm.2.1 | exact hx.2.2 | exact hm.2.2
  · first | exact i6 | exact hx | exact hm | exact hx.1 | exact hx.2 | exact hx.2.2.1 | exact hm.1 | exact hm.2 | exact hx.2.1 | exact hm.2.1 | exact hx.2.2 | exact hm.2.2
  · first | exact i7 | exact hx | exact hm | exact hx.1 | exact hx.2 | exact hx.2.2.1 | exact hm.1 | exact hm.2 | exact hx.2.1 | exact hm.2.1 | exact hx.2.2 | exact hm.2.2
  · first | exact i8 | exact hx | exact hm | exact hx.1 | exact hx.2 | exact hx.2.2.1 | exact hm.1 | exact hm.2 | exact hx.2.1 | exact hm.2.1 | exact hx.2.2 | exact hm.2.2
  · first | exact i9 | exact hx | exact hm | exact hx.1 | exact hx.2 | exact hx.2.2.1 | exact hm.1 | exact hm.2 | exact hx.2.1 | exact hm.2.1 | exact hx.2.2 | exact hm.2.2
  · first | exact i10 | exact hx | exact hm | exact hx.1 | exact hx.2 | exact hx.2.2.1 | exact hm.1 | exact hm.2 | exact hx.2.1 | exact hm.2.1 | exact hx.2.2 | exact hm.2.2
  · first | exact i11 | exact hx | exact hm | exact hx.1 | exact hx.2 | exact hx.2.2.1 | exact hm.1 | exact hm.2 | exact hx.2.1 | exact hm.2.1 | exact hx.2.2 | exact hm.2.2
  · first | exact i12 | exact hx | exact hm | exact hx.1 | exact hx.2 | exact hx.2.2.1 | exact hm.1 | exact hm.2 | exact hx.2.1 | exact hm.2.1 | exact hx.2.2 | exact hm.2.2
  · first | exact i13 | exact hx | exact hm | exact hx.1 | exact hx.2 | exact hx.2.2.1 | exact hm.1 | exact hm.2 | exact hx.2.1 | exact hm.2.1 | exact hx.2.2 | exact hm.2.2
  · first | exact i14 | exact hx | exact hm | exact hx.1 | exact hx.2 | exact hx.2.2.1 | exact hm.1 | exact hm.2 | exact hx.2.1 | exact hm.2.1 | exact hx.2.2 | exact hm.2.2
  · first | exact i15 | exact hx | exact hm | exact hx.1 | exact hx.2 | exact hx.2.2.1 | exact hm.1 | exact hm.2 | exact hx.2.1 | exact hm.2.1 | exact hx.2.2 | exact hm.2.2
  · first | exact i16 | exact hx | exact hm | exact hx.1 | exact hx.2 | exact hx.2.2.1 | exact hm.1 | exact hm.2 | exact hx.2.1 | exact hm.2.1 | exact hx.2.2 | exact hm.2.2
  · first | exact i17 | exact hx | exact hm | exact hx.1 | exact hx.2 | exact hx.2.2.1 | exact hm.1 | exact hm.2 | exact hx.2.1 | exact hm.2.1 | exact hx.2.2 | exact hm.2.2
