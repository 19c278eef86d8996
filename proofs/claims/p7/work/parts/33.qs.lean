/-- the two objects, held alike -/
def Ex (σ : Nat → Nat → Int32) (G : kG) : Prop := (σ 1 1 = σ 42 1) ∧ (TBy (σ 2) (σ 43)) ∧ (σ 8 2 = σ 42 2) ∧ (σ 8 3 = σ 42 3) ∧ (0 ≤ (σ 42 3).toInt ∧ (σ 42 3).toInt ≤ 999) ∧ (SRC G (σ 8 2) (σ 58) (σ 59) (σ 60) (σ 61) (σ 62)) ∧ (σ 22 4 = σ 42 4) ∧ (σ 23 = σ 69) ∧ (σ 24 = σ 70) ∧ (σ 25 = σ 71) ∧ (∀ j, (0 ≤ (σ 69 j).toInt ∧ (σ 69 j).toInt ≤ 399) ∧ (0 ≤ (σ 70 j).toInt ∧ (σ 70 j).toInt ≤ 1439) ∧ (0 ≤ (σ 71 j).toInt ∧ (σ 71 j).toInt ≤ 3)) ∧ (σ 27 2 = σ 42 5) ∧ (σ 28 = σ 72) ∧ (∀ j, 0 ≤ (σ 72 j).toInt ∧ (σ 72 j).toInt ≤ 1000000000) ∧ (σ 30 5 = σ 42 6) ∧ (σ 31 = σ 73) ∧ (σ 32 = σ 74) ∧ (∀ j, (0 ≤ (σ 73 j).toInt ∧ (σ 73 j).toInt ≤ 399) ∧ (-100000 ≤ (σ 74 j).toInt ∧ (σ 74 j).toInt ≤ 100000)) ∧ (σ 39 = σ 75) ∧ (TX G (σ 48) (σ 49) (σ 46) (σ 47) (σ 45) (σ 44)) ∧ (LtN (σ 35)) ∧ (LtS (σ 11))
def Inv2 (σ : Nat → Nat → Int32) (G : kG) : Prop := Inv σ G ∧ Ex σ G
theorem Inv2_0 : Inv2 l0 G0 := by
  have z : (0 : Int32).toInt = 0 := by decide
  have zr : ∀ n : Int, 0 ≤ n → (0 ≤ (0 : Int32).toInt ∧ (0 : Int32).toInt ≤ n) := fun n h => by rw [z]; exact ⟨Int.le_refl _, h⟩
  refine ⟨Inv_0, rfl, fun _ => (show (0 : Int32) = 0 &&& 255 by decide), rfl, rfl, zr 999 (by omega), fun i hi => absurd hi (show ¬ (i : Int) < (0 : Int32).toInt by omega), rfl, rfl, rfl, rfl, fun _ => ⟨zr 399 (by omega), zr 1439 (by omega), zr 3 (by omega)⟩, rfl, rfl, fun _ => zr 1000000000 (by omega), rfl, rfl, rfl, fun _ => ⟨zr 399 (by omega), ?_⟩, rfl, fun s _ => Or.inl ⟨rfl, rfl⟩, ⟨rfl, rfl, rfl, rfl, rfl, rfl, rfl, rfl, rfl, rfl, rfl⟩, ⟨rfl, rfl, rfl, rfl, rfl, rfl⟩⟩
  show -100000 ≤ (0 : Int32).toInt ∧ (0 : Int32).toInt ≤ 100000
  omega
def qn_0 (I : (Nat → Nat → Int32) → kG → Prop) : Prop := ∀ (σ : Nat → Nat → Int32) (G : kG) (y1 : Int32) (y2 : Int32) (y3 : Int32) (y4 : Int32) (y5 : Int32), I σ G → ∃ (rx : Int32) (x_o_page_day : Int32) (x_o_sky_many : Int32) (x_nt : Option (Nat × Int32 × Int32 × Int32 × Int32 × Int32 × Int32)) (rm : Int32) (m_o_sources : Int32) (m_o_byStar : Nat → Int32) (m_o_minuteOf : Nat → Int32) (m_o_shape : Nat → Int32) (m_o_weekdays : Nat → Int32) (m_o_wide : Nat → Int32), f_X11_source G (σ 13 6) (σ 8 2) (if y1 = 0 then 0 else 1) y2 y3 y4 y5 = some (rx, x_o_page_day, x_o_sky_many, x_nt) ∧ f_X12_source (σ 42 2) (σ 58) (σ 59) (σ 61) (σ 62) (σ 60) (if y1 = 0 then 0 else 1) y2 y3 y4 y5 = some (rm, m_o_sources, m_o_byStar, m_o_minuteOf, m_o_shape, m_o_weekdays, m_o_wide) ∧ rx = rm ∧ ∀ G' : kG, kGS G x_nt G' → I (lus (lus σ [(8, (upd (σ 8) 2 x_o_sky_many)), (13, (upd (σ 13) 6 x_o_page_day))]) [(42, (upd (σ 42) 2 m_o_sources)), (58, m_o_byStar), (59, m_o_minuteOf), (60, m_o_wide), (61, m_o_shape), (62, m_o_weekdays)]) G'
def qn_1 (I : (Nat → Nat → Int32) → kG → Prop) : Prop := ∀ (σ : Nat → Nat → Int32) (G : kG) (y1 : Int32), I σ G → ∃ (rx : Int32) (x_o_page_day : Int32) (x_o_sky_seed : Int32) (rm : Int32) (m_o_seed : Int32), f_X11_seed (σ 13 6) (σ 8 3) y1 = some (rx, x_o_page_day, x_o_sky_seed) ∧ f_X12_seed (σ 42 3) y1 = some (rm, m_o_seed) ∧ rx = rm ∧ I (lus (lus σ [(8, (upd (σ 8) 3 x_o_sky_seed)), (13, (upd (σ 13) 6 x_o_page_day))]) [(42, (upd (σ 42) 3 m_o_seed))]) G
def qn_2 (I : (Nat → Nat → Int32) → kG → Prop) : Prop := ∀ (σ : Nat → Nat → Int32) (G : kG) (y1 : Int32) (y2 : Int32) (y3 : Int32) (y4 : Int32) (y5 : Int32), I σ G → ∃ (rx : Int32) (x_o_tape_length : Int32) (x_o_tape_bytes : Nat → Int32) (rm : Int32) (m_o_taped : Int32) (m_o_tape : Nat → Int32), f_X11_feed (σ 1 1) (σ 2) y1 y2 y3 y4 y5 = some (rx, x_o_tape_length, x_o_tape_bytes) ∧ f_X12_feed (σ 42 1) (σ 43) y1 y2 y3 y4 y5 = some (rm, m_o_taped, m_o_tape) ∧ rx = rm ∧ I (lus (lus σ [(1, (upd (σ 1) 1 x_o_tape_length)), (2, x_o_tape_bytes)]) [(42, (upd (σ 42) 1 m_o_taped)), (43, m_o_tape)]) G
def qn_3 (I : (Nat → Nat → Int32) → kG → Prop) : Prop := ∀ (σ : Nat → Nat → Int32) (G : kG) (y1 : Int32) (y2 : Int32), I σ G → ∃ (rx : Int32) (x_o_page_day : Int32) (x_o_scribe_length : Int32) (x_o_scribe_at : Int32) (x_o_scribe_used : Int32) (x_o_scribe_fault : Int32) (x_o_tape_length : Int32) (x_o_scribe_code : Nat → Int32) (x_o_scribe_middles : Nat → Int32) (x_o_scribe_starts : Nat → Int32) (x_nt : Option (Nat × kTv)) (rm : Int32) (m_o_taped : Int32) (m_o_place : Int32) (m_o_end : Int32) (m_o_bad : Int32) (m_o_clauses : Int32) (m_o_codes : Int32) (m_o_open : Int32) (m_o_stacked : Int32) (m_o_isOver : Int32) (m_o_isBehind : Int32) (m_o_code : Nat → Int32) (m_o_codeArg : Nat → Int32) (m_o_codeFrom : Nat → Int32) (m_o_codeTo : Nat → Int32) (m_o_many : Nat → Int32) (m_o_newArg : Nat → Int32) (m_o_newCode : Nat → Int32) (m_o_newFrom : Nat → Int32) (m_o_newSum : Nat → Int32) (m_o_newTo : Nat → Int32) (m_o_stack : Nat → Int32) (m_o_sumFrom : Nat → Int32), f_X11_law G (σ 13 6) (σ 3 4) (σ 3 5) (σ 3 6) (σ 3 7) (σ 8 2) (σ 1 1) (σ 4) (σ 6) (σ 5) (σ 2) y1 y2 = some (rx, x_o_page_day, x_o_scribe_length, x_o_scribe_at, x_o_scribe_used, x_o_scribe_fault, x_o_tape_length, x_o_scribe_code, x_o_scribe_middles, x_o_scribe_starts, x_nt) ∧ f_X12_law (σ 42 1) (σ 42 2) (σ 42 18) (σ 42 19) (σ 42 20) (σ 42 21) (σ 42 22) (σ 42 23) (σ 42 24) (σ 42 25) (σ 42 26) (σ 48) (σ 49) (σ 46) (σ 47) (σ 44) (σ 54) (σ 53) (σ 51) (σ 50) (σ 52) (σ 55) (σ 45) (σ 43) y1 y2 = some (rm, m_o_taped, m_o_place, m_o_end, m_o_bad, m_o_clauses, m_o_codes, m_o_open, m_o_stacked, m_o_isOver, m_o_isBehind, m_o_code, m_o_codeArg, m_o_codeFrom, m_o_codeTo, m_o_many, m_o_newArg, m_o_newCode, m_o_newFrom, m_o_newSum, m_o_newTo, m_o_stack, m_o_sumFrom) ∧ rx = rm ∧ (∀ q, x_nt = some q → q.1 < 10) ∧ ∀ G' : kG, kGT G x_nt G' → I (lus (lus σ [(1, (upd (σ 1) 1 x_o_tape_length)), (3, (upd (upd (upd (upd (σ 3) 4 x_o_scribe_length) 5 x_o_scribe_at) 6 x_o_scribe_used) 7 x_o_scribe_fault)), (4, x_o_scribe_code), (5, x_o_scribe_starts), (6, x_o_scribe_middles), (13, (upd (σ 13) 6 x_o_page_day))]) [(42, (upd (upd (upd (upd (upd (upd (upd (upd (upd (upd (σ 42) 1 m_o_taped) 18 m_o_place) 19 m_o_end) 20 m_o_bad) 21 m_o_clauses) 22 m_o_codes) 23 m_o_open) 24 m_o_stacked) 25 m_o_isOver) 26 m_o_isBehind)), (44, m_o_many), (45, m_o_sumFrom), (46, m_o_codeFrom), (47, m_o_codeTo), (48, m_o_code), (49, m_o_codeArg), (50, m_o_newSum), (51, m_o_newFrom), (52, m_o_newTo), (53, m_o_newCode), (54, m_o_newArg), (55, m_o_stack)]) G'
def qn_4 (I : (Nat → Nat → Int32) → kG → Prop) : Prop := ∀ (σ : Nat → Nat → Int32) (G : kG) (y1 : Int32) (y2 : Int32), I σ G → ∃ (rx : Int32) (x_o_page_readers : Int32) (x_o_scribe_length : Int32) (x_o_scribe_at : Int32) (x_o_scribe_used : Int32) (x_o_scribe_fault : Int32) (x_o_tape_length : Int32) (x_o_scribe_code : Nat → Int32) (x_o_scribe_middles : Nat → Int32) (x_o_scribe_starts : Nat → Int32) (x_nt : Option (Nat × kTv)) (rm : Int32) (m_o_taped : Int32) (m_o_place : Int32) (m_o_end : Int32) (m_o_bad : Int32) (m_o_clauses : Int32) (m_o_codes : Int32) (m_o_open : Int32) (m_o_stacked : Int32) (m_o_isOver : Int32) (m_o_isBehind : Int32) (m_o_code : Nat → Int32) (m_o_codeArg : Nat → Int32) (m_o_codeFrom : Nat → Int32) (m_o_codeTo : Nat → Int32) (m_o_many : Nat → Int32) (m_o_newArg : Nat → Int32) (m_o_newCode : Nat → Int32) (m_o_newFrom : Nat → Int32) (m_o_newSum : Nat → Int32) (m_o_newTo : Nat → Int32) (m_o_stack : Nat → Int32) (m_o_sumFrom : Nat → Int32), f_X11_way G (σ 13 5) (σ 3 4) (σ 3 5) (σ 3 6) (σ 3 7) (σ 1 1) (σ 4) (σ 6) (σ 5) (σ 2) y1 y2 = some (rx, x_o_page_readers, x_o_scribe_length, x_o_scribe_at, x_o_scribe_used, x_o_scribe_fault, x_o_tape_length, x_o_scribe_code, x_o_scribe_middles, x_o_scribe_starts, x_nt) ∧ f_X12_way (σ 42 1) (σ 42 18) (σ 42 19) (σ 42 20) (σ 42 21) (σ 42 22) (σ 42 23) (σ 42 24) (σ 42 25) (σ 42 26) (σ 48) (σ 49) (σ 46) (σ 47) (σ 44) (σ 54) (σ 53) (σ 51) (σ 50) (σ 52) (σ 55) (σ 45) (σ 43) y1 y2 = some (rm, m_o_taped, m_o_place, m_o_end, m_o_bad, m_o_clauses, m_o_codes, m_o_open, m_o_stacked, m_o_isOver, m_o_isBehind, m_o_code, m_o_codeArg, m_o_codeFrom, m_o_codeTo, m_o_many, m_o_newArg, m_o_newCode, m_o_newFrom, m_o_newSum, m_o_newTo, m_o_stack, m_o_sumFrom) ∧ rx = rm ∧ (∀ q, x_nt = some q → 10 ≤ q.1 ∧ q.1 < 14) ∧ ∀ G' : kG, kGT G x_nt G' → I (lus (lus σ [(1, (upd (σ 1) 1 x_o_tape_length)), (3, (upd (upd (upd (upd (σ 3) 4 x_o_scribe_length) 5 x_o_scribe_at) 6 x_o_scribe_used) 7 x_o_scribe_fault)), (4, x_o_scribe_code), (5, x_o_scribe_starts), (6, x_o_scribe_middles), (13, (upd (σ 13) 5 x_o_page_readers))]) [(42, (upd (upd (upd (upd (upd (upd (upd (upd (upd (upd (σ 42) 1 m_o_taped) 18 m_o_place) 19 m_o_end) 20 m_o_bad) 21 m_o_clauses) 22 m_o_codes) 23 m_o_open) 24 m_o_stacked) 25 m_o_isOver) 26 m_o_isBehind)), (44, m_o_many), (45, m_o_sumFrom), (46, m_o_codeFrom), (47, m_o_codeTo), (48, m_o_code), (49, m_o_codeArg), (50, m_o_newSum), (51, m_o_newFrom), (52, m_o_newTo), (53, m_o_newCode), (54, m_o_newArg), (55, m_o_stack)]) G'
def qn_5 (I : (Nat → Nat → Int32) → kG → Prop) : Prop := ∀ (σ : Nat → Nat → Int32) (G : kG) (y1 : Int32) (y2 : Int32), I σ G → ∃ (rx : Int32) (x_o_scribe_length : Int32) (x_o_scribe_at : Int32) (x_o_scribe_used : Int32) (x_o_scribe_fault : Int32) (x_o_tape_length : Int32) (x_o_scribe_code : Nat → Int32) (x_o_scribe_middles : Nat → Int32) (x_o_scribe_starts : Nat → Int32) (x_nt : Option (Nat × kTv)) (rm : Int32) (m_o_taped : Int32) (m_o_place : Int32) (m_o_end : Int32) (m_o_bad : Int32) (m_o_clauses : Int32) (m_o_codes : Int32) (m_o_open : Int32) (m_o_stacked : Int32) (m_o_isBehind : Int32) (m_o_code : Nat → Int32) (m_o_codeArg : Nat → Int32) (m_o_codeFrom : Nat → Int32) (m_o_codeTo : Nat → Int32) (m_o_many : Nat → Int32) (m_o_newArg : Nat → Int32) (m_o_newCode : Nat → Int32) (m_o_newFrom : Nat → Int32) (m_o_newSum : Nat → Int32) (m_o_newTo : Nat → Int32) (m_o_stack : Nat → Int32) (m_o_sumFrom : Nat → Int32), f_X11_story G (σ 3 4) (σ 3 5) (σ 3 6) (σ 3 7) (σ 1 1) (σ 4) (σ 6) (σ 5) (σ 2) y1 y2 = some (rx, x_o_scribe_length, x_o_scribe_at, x_o_scribe_used, x_o_scribe_fault, x_o_tape_length, x_o_scribe_code, x_o_scribe_middles, x_o_scribe_starts, x_nt) ∧ f_X12_story (σ 42 1) (σ 42 18) (σ 42 19) (σ 42 20) (σ 42 21) (σ 42 22) (σ 42 23) (σ 42 24) (σ 42 26) (σ 48) (σ 49) (σ 46) (σ 47) (σ 44) (σ 54) (σ 53) (σ 51) (σ 50) (σ 52) (σ 55) (σ 45) (σ 43) y1 y2 = some (rm, m_o_taped, m_o_place, m_o_end, m_o_bad, m_o_clauses, m_o_codes, m_o_open, m_o_stacked, m_o_isBehind, m_o_code, m_o_codeArg, m_o_codeFrom, m_o_codeTo, m_o_many, m_o_newArg, m_o_newCode, m_o_newFrom, m_o_newSum, m_o_newTo, m_o_stack, m_o_sumFrom) ∧ rx = rm ∧ (∀ q, x_nt = some q → 14 ≤ q.1 ∧ q.1 < 20) ∧ ∀ G' : kG, kGT G x_nt G' → I (lus (lus σ [(1, (upd (σ 1) 1 x_o_tape_length)), (3, (upd (upd (upd (upd (σ 3) 4 x_o_scribe_length) 5 x_o_scribe_at) 6 x_o_scribe_used) 7 x_o_scribe_fault)), (4, x_o_scribe_code), (5, x_o_scribe_starts), (6, x_o_scribe_middles)]) [(42, (upd (upd (upd (upd (upd (upd (upd (upd (upd (σ 42) 1 m_o_taped) 18 m_o_place) 19 m_o_end) 20 m_o_bad) 21 m_o_clauses) 22 m_o_codes) 23 m_o_open) 24 m_o_stacked) 26 m_o_isBehind)), (44, m_o_many), (45, m_o_sumFrom), (46, m_o_codeFrom), (47, m_o_codeTo), (48, m_o_code), (49, m_o_codeArg), (50, m_o_newSum), (51, m_o_newFrom), (52, m_o_newTo), (53, m_o_newCode), (54, m_o_newArg), (55, m_o_stack)]) G'
def qn_6 (I : (Nat → Nat → Int32) → kG → Prop) : Prop := ∀ (σ : Nat → Nat → Int32) (G : kG) (y1 : Int32) (y2 : Int32), I σ G → ∃ (rx : Int32) (rm : Int32), f_X11_star y1 y2 = some (rx) ∧ f_X12_star y1 y2 = some (rm) ∧ rx = rm ∧ I (lus (lus σ []) []) G
def qn_7 (I : (Nat → Nat → Int32) → kG → Prop) : Prop := ∀ (σ : Nat → Nat → Int32) (G : kG) (y1 : Int32) (y2 : Int32) (y3 : Int32), I σ G → ∃ (rx : Int32) (x_o_sky_reckoner_letters : Nat → Int32) (x_o_sky_reckoner_values : Nat → Int32) (rm : Int32) (m_o_atA : Int32) (m_o_atB : Int32) (m_o_atD : Int32) (m_o_atF : Int32) (m_o_atG : Int32) (m_o_atH : Int32) (m_o_atL : Int32) (m_o_atM : Int32) (m_o_atN : Int32) (m_o_atS : Int32) (m_o_atT : Int32) (m_o_atU : Int32) (m_o_atX : Int32) (m_o_isRefused : Nat → Int32) (m_o_worth : Nat → Int32), f_X11_height G (σ 8 2) (σ 8 3) (σ 11) (σ 12) y1 y2 y3 = some (rx, x_o_sky_reckoner_letters, x_o_sky_reckoner_values) ∧ f_X12_height (σ 42 2) (σ 42 3) (σ 42 28) (σ 42 29) (σ 42 30) (σ 42 31) (σ 42 32) (σ 42 33) (σ 42 34) (σ 42 35) (σ 42 36) (σ 42 37) (σ 42 38) (σ 42 39) (σ 42 40) (σ 58) (σ 48) (σ 49) (σ 46) (σ 47) (σ 57) (σ 44) (σ 59) (σ 45) (σ 62) (σ 60) (σ 56) y1 y2 y3 = some (rm, m_o_atA, m_o_atB, m_o_atD, m_o_atF, m_o_atG, m_o_atH, m_o_atL, m_o_atM, m_o_atN, m_o_atS, m_o_atT, m_o_atU, m_o_atX, m_o_isRefused, m_o_worth) ∧ rx = rm ∧ I (lus (lus σ [(11, x_o_sky_reckoner_letters), (12, x_o_sky_reckoner_values)]) [(42, (upd (upd (upd (upd (upd (upd (upd (upd (upd (upd (upd (upd (upd (σ 42) 28 m_o_atA) 29 m_o_atB) 30 m_o_atD) 31 m_o_atF) 32 m_o_atG) 33 m_o_atH) 34 m_o_atL) 35 m_o_atM) 36 m_o_atN) 37 m_o_atS) 38 m_o_atT) 39 m_o_atU) 40 m_o_atX)), (56, m_o_worth), (57, m_o_isRefused)]) G
def qn_8 (I : (Nat → Nat → Int32) → kG → Prop) : Prop := ∀ (σ : Nat → Nat → Int32) (G : kG) (y1 : Int32) (y2 : Int32) (y3 : Int32), I σ G → ∃ (rx : Int32) (x_o_page_readers : Int32) (x_o_page_day : Int32) (x_o_page_heights : Nat → Int32) (x_o_page_highest : Nat → Int32) (x_o_page_shapes : Nat → Int32) (x_o_sky_reckoner_letters : Nat → Int32) (x_o_sky_reckoner_values : Nat → Int32) (rm : Int32) (m_o_atA : Int32) (m_o_atB : Int32) (m_o_atD : Int32) (m_o_atF : Int32) (m_o_atG : Int32) (m_o_atH : Int32) (m_o_atL : Int32) (m_o_atM : Int32) (m_o_atN : Int32) (m_o_atS : Int32) (m_o_atT : Int32) (m_o_atU : Int32) (m_o_atX : Int32) (m_o_paperHigh : Int32) (m_o_paperShape : Int32) (m_o_isRefused : Nat → Int32) (m_o_worth : Nat → Int32), f_X11_paper G (σ 13 5) (σ 13 6) (σ 8 2) (σ 8 3) (σ 14) (σ 16) (σ 15) (σ 11) (σ 12) y1 y2 y3 = some (rx, x_o_page_readers, x_o_page_day, x_o_page_heights, x_o_page_highest, x_o_page_shapes, x_o_sky_reckoner_letters, x_o_sky_reckoner_values) ∧ f_X12_paper (σ 42 2) (σ 42 3) (σ 42 28) (σ 42 29) (σ 42 30) (σ 42 31) (σ 42 32) (σ 42 33) (σ 42 34) (σ 42 35) (σ 42 36) (σ 42 37) (σ 42 38) (σ 42 39) (σ 42 40) (σ 42 48) (σ 42 49) (σ 58) (σ 48) (σ 49) (σ 46) (σ 47) (σ 57) (σ 44) (σ 59) (σ 61) (σ 45) (σ 62) (σ 60) (σ 56) y1 y2 y3 = some (rm, m_o_atA, m_o_atB, m_o_atD, m_o_atF, m_o_atG, m_o_atH, m_o_atL, m_o_atM, m_o_atN, m_o_atS, m_o_atT, m_o_atU, m_o_atX, m_o_paperHigh, m_o_paperShape, m_o_isRefused, m_o_worth) ∧ I (lus (lus σ [(11, x_o_sky_reckoner_letters), (12, x_o_sky_reckoner_values), (13, (upd (upd (σ 13) 5 x_o_page_readers) 6 x_o_page_day)), (14, x_o_page_heights), (15, x_o_page_shapes), (16, x_o_page_highest)]) [(42, (upd (upd (upd (upd (upd (upd (upd (upd (upd (upd (upd (upd (upd (upd (upd (σ 42) 28 m_o_atA) 29 m_o_atB) 30 m_o_atD) 31 m_o_atF) 32 m_o_atG) 33 m_o_atH) 34 m_o_atL) 35 m_o_atM) 36 m_o_atN) 37 m_o_atS) 38 m_o_atT) 39 m_o_atU) 40 m_o_atX) 48 m_o_paperHigh) 49 m_o_paperShape)), (56, m_o_worth), (57, m_o_isRefused)]) G
def qn_9 (I : (Nat → Nat → Int32) → kG → Prop) : Prop := ∀ (σ : Nat → Nat → Int32) (G : kG) (y1 : Int32) (y2 : Int32) (y3 : Int32), I σ G → ∃ (rx : Int32) (x_o_page_readers : Int32) (x_o_page_day : Int32) (x_o_page_heights : Nat → Int32) (x_o_page_highest : Nat → Int32) (x_o_page_marked : Nat → Int32) (x_o_page_shapes : Nat → Int32) (x_o_page_reckoner_letters : Nat → Int32) (x_o_page_reckoner_values : Nat → Int32) (x_o_sky_reckoner_letters : Nat → Int32) (x_o_sky_reckoner_values : Nat → Int32) (rm : Int32) (m_o_atA : Int32) (m_o_atB : Int32) (m_o_atD : Int32) (m_o_atF : Int32) (m_o_atG : Int32) (m_o_atH : Int32) (m_o_atL : Int32) (m_o_atM : Int32) (m_o_atN : Int32) (m_o_atS : Int32) (m_o_atT : Int32) (m_o_atU : Int32) (m_o_atX : Int32) (m_o_paperHigh : Int32) (m_o_paperShape : Int32) (m_o_first : Nat → Int32) (m_o_greatest : Nat → Int32) (m_o_highAt : Nat → Int32) (m_o_isRefused : Nat → Int32) (m_o_last : Nat → Int32) (m_o_marked : Nat → Int32) (m_o_shapeAt : Nat → Int32) (m_o_worth : Nat → Int32), f_X11_marks G (σ 13 5) (σ 13 6) (σ 8 2) (σ 8 3) (σ 14) (σ 16) (σ 17) (σ 15) (σ 19) (σ 20) (σ 11) (σ 12) y1 y2 y3 = some (rx, x_o_page_readers, x_o_page_day, x_o_page_heights, x_o_page_highest, x_o_page_marked, x_o_page_shapes, x_o_page_reckoner_letters, x_o_page_reckoner_values, x_o_sky_reckoner_letters, x_o_sky_reckoner_values) ∧ f_X12_marks (σ 42 2) (σ 42 3) (σ 42 28) (σ 42 29) (σ 42 30) (σ 42 31) (σ 42 32) (σ 42 33) (σ 42 34) (σ 42 35) (σ 42 36) (σ 42 37) (σ 42 38) (σ 42 39) (σ 42 40) (σ 42 48) (σ 42 49) (σ 58) (σ 48) (σ 49) (σ 46) (σ 47) (σ 65) (σ 67) (σ 63) (σ 57) (σ 66) (σ 44) (σ 68) (σ 59) (σ 61) (σ 64) (σ 45) (σ 62) (σ 60) (σ 56) y1 y2 y3 = some (rm, m_o_atA, m_o_atB, m_o_atD, m_o_atF, m_o_atG, m_o_atH, m_o_atL, m_o_atM, m_o_atN, m_o_atS, m_o_atT, m_o_atU, m_o_atX, m_o_paperHigh, m_o_paperShape, m_o_first, m_o_greatest, m_o_highAt, m_o_isRefused, m_o_last, m_o_marked, m_o_shapeAt, m_o_worth) ∧ I (lus (lus σ [(11, x_o_sky_reckoner_letters), (12, x_o_sky_reckoner_values), (13, (upd (upd (σ 13) 5 x_o_page_readers) 6 x_o_page_day)), (14, x_o_page_heights), (15, x_o_page_shapes), (16, x_o_page_highest), (17, x_o_page_marked), (19, x_o_page_reckoner_letters), (20, x_o_page_reckoner_values)]) [(42, (upd (upd (upd (upd (upd (upd (upd (upd (upd (upd (upd (upd (upd (upd (upd (σ 42) 28 m_o_atA) 29 m_o_atB) 30 m_o_atD) 31 m_o_atF) 32 m_o_atG) 33 m_o_atH) 34 m_o_atL) 35 m_o_atM) 36 m_o_atN) 37 m_o_atS) 38 m_o_atT) 39 m_o_atU) 40 m_o_atX) 48 m_o_paperHigh) 49 m_o_paperShape)), (56, m_o_worth), (57, m_o_isRefused), (63, m_o_highAt), (64, m_o_shapeAt), (65, m_o_first), (66, m_o_last), (67, m_o_greatest), (68, m_o_marked)]) G
def qn_10 (I : (Nat → Nat → Int32) → kG → Prop) : Prop := ∀ (σ : Nat → Nat → Int32) (G : kG) (y1 : Int32) (y2 : Int32) (y3 : Int32) (y4 : Int32) (y5 : Int32), I σ G → ∃ (rx : Int32) (x_o_page_readers : Int32) (x_o_page_day : Int32) (x_o_page_heights : Nat → Int32) (x_o_page_highest : Nat → Int32) (x_o_page_marked : Nat → Int32) (x_o_page_shapes : Nat → Int32) (x_o_page_reckoner_letters : Nat → Int32) (x_o_page_reckoner_values : Nat → Int32) (x_o_sky_reckoner_letters : Nat → Int32) (x_o_sky_reckoner_values : Nat → Int32) (rm : Int32) (m_o_atA : Int32) (m_o_atB : Int32) (m_o_atD : Int32) (m_o_atF : Int32) (m_o_atG : Int32) (m_o_atH : Int32) (m_o_atL : Int32) (m_o_atM : Int32) (m_o_atN : Int32) (m_o_atS : Int32) (m_o_atT : Int32) (m_o_atU : Int32) (m_o_atX : Int32) (m_o_paperHigh : Int32) (m_o_paperShape : Int32) (m_o_first : Nat → Int32) (m_o_greatest : Nat → Int32) (m_o_highAt : Nat → Int32) (m_o_isRefused : Nat → Int32) (m_o_last : Nat → Int32) (m_o_marked : Nat → Int32) (m_o_shapeAt : Nat → Int32) (m_o_worth : Nat → Int32), f_X11_passed G (σ 13 5) (σ 13 6) (σ 8 2) (σ 8 3) (σ 14) (σ 16) (σ 17) (σ 15) (σ 19) (σ 20) (σ 11) (σ 12) y1 y2 y3 y4 y5 = some (rx, x_o_page_readers, x_o_page_day, x_o_page_heights, x_o_page_highest, x_o_page_marked, x_o_page_shapes, x_o_page_reckoner_letters, x_o_page_reckoner_values, x_o_sky_reckoner_letters, x_o_sky_reckoner_values) ∧ f_X12_passed (σ 42 2) (σ 42 3) (σ 42 28) (σ 42 29) (σ 42 30) (σ 42 31) (σ 42 32) (σ 42 33) (σ 42 34) (σ 42 35) (σ 42 36) (σ 42 37) (σ 42 38) (σ 42 39) (σ 42 40) (σ 42 48) (σ 42 49) (σ 58) (σ 48) (σ 49) (σ 46) (σ 47) (σ 65) (σ 67) (σ 63) (σ 57) (σ 66) (σ 44) (σ 68) (σ 59) (σ 61) (σ 64) (σ 45) (σ 62) (σ 60) (σ 56) y1 y2 y3 y4 y5 = some (rm, m_o_atA, m_o_atB, m_o_atD, m_o_atF, m_o_atG, m_o_atH, m_o_atL, m_o_atM, m_o_atN, m_o_atS, m_o_atT, m_o_atU, m_o_atX, m_o_paperHigh, m_o_paperShape, m_o_first, m_o_greatest, m_o_highAt, m_o_isRefused, m_o_last, m_o_marked, m_o_shapeAt, m_o_worth) ∧ I (lus (lus σ [(11, x_o_sky_reckoner_letters), (12, x_o_sky_reckoner_values), (13, (upd (upd (σ 13) 5 x_o_page_readers) 6 x_o_page_day)), (14, x_o_page_heights), (15, x_o_page_shapes), (16, x_o_page_highest), (17, x_o_page_marked), (19, x_o_page_reckoner_letters), (20, x_o_page_reckoner_values)]) [(42, (upd (upd (upd (upd (upd (upd (upd (upd (upd (upd (upd (upd (upd (upd (upd (σ 42) 28 m_o_atA) 29 m_o_atB) 30 m_o_atD) 31 m_o_atF) 32 m_o_atG) 33 m_o_atH) 34 m_o_atL) 35 m_o_atM) 36 m_o_atN) 37 m_o_atS) 38 m_o_atT) 39 m_o_atU) 40 m_o_atX) 48 m_o_paperHigh) 49 m_o_paperShape)), (56, m_o_worth), (57, m_o_isRefused), (63, m_o_highAt), (64, m_o_shapeAt), (65, m_o_first), (66, m_o_last), (67, m_o_greatest), (68, m_o_marked)]) G
def qn_11 (I : (Nat → Nat → Int32) → kG → Prop) : Prop := ∀ (σ : Nat → Nat → Int32) (G : kG) (y1 : Int32) (y2 : Int32) (y3 : Int32), I σ G → ∃ (rx : Int32) (x_o_notes_many : Int32) (x_o_notes_days : Nat → Int32) (x_o_notes_minutes : Nat → Int32) (x_o_notes_shapes : Nat → Int32) (rm : Int32) (m_o_notes : Int32) (m_o_noteDay : Nat → Int32) (m_o_noteMinute : Nat → Int32) (m_o_noteShape : Nat → Int32), f_X11_note (σ 22 4) (σ 23) (σ 24) (σ 25) y1 y2 y3 = some (rx, x_o_notes_many, x_o_notes_days, x_o_notes_minutes, x_o_notes_shapes) ∧ f_X12_note (σ 42 4) (σ 69) (σ 70) (σ 71) y1 y2 y3 = some (rm, m_o_notes, m_o_noteDay, m_o_noteMinute, m_o_noteShape) ∧ rx = rm ∧ I (lus (lus σ [(22, (upd (σ 22) 4 x_o_notes_many)), (23, x_o_notes_days), (24, x_o_notes_minutes), (25, x_o_notes_shapes)]) [(42, (upd (σ 42) 4 m_o_notes)), (69, m_o_noteDay), (70, m_o_noteMinute), (71, m_o_noteShape)]) G
def qn_12 (I : (Nat → Nat → Int32) → kG → Prop) : Prop := ∀ (σ : Nat → Nat → Int32) (G : kG) (y1 : Int32) (y2 : Int32), I σ G → ∃ (rx : Int32) (x_o_notes_gathered : Nat → Int32) (rm : Int32), f_X11_one (σ 22 4) (σ 23) (σ 26) (σ 24) (σ 25) y1 y2 = some (rx, x_o_notes_gathered) ∧ f_X12_one (σ 42 4) (σ 69) (σ 70) (σ 71) y1 y2 = some (rm) ∧ rx = rm ∧ I (lus (lus σ [(26, x_o_notes_gathered)]) []) G
def qn_13 (I : (Nat → Nat → Int32) → kG → Prop) : Prop := ∀ (σ : Nat → Nat → Int32) (G : kG) (y1 : Int32) (y2 : Int32), I σ G → ∃ (rx : Int32) (x_o_notes_gathered : Nat → Int32) (rm : Int32), f_X11_known (σ 22 4) (σ 23) (σ 26) (σ 24) (σ 25) y1 y2 = some (rx, x_o_notes_gathered) ∧ f_X12_known (σ 42 4) (σ 69) (σ 70) (σ 71) y1 y2 = some (rm) ∧ rx = rm ∧ I (lus (lus σ [(26, x_o_notes_gathered)]) []) G
def qn_14 (I : (Nat → Nat → Int32) → kG → Prop) : Prop := ∀ (σ : Nat → Nat → Int32) (G : kG) (y1 : Int32) (y2 : Int32) (y3 : Int32), I σ G → ∃ (rx : Int32) (x_o_notes_gathered : Nat → Int32) (rm : Int32), f_X11_row (σ 22 4) (σ 23) (σ 26) (σ 24) (σ 25) y1 y2 y3 = some (rx, x_o_notes_gathered) ∧ f_X12_row (σ 42 4) (σ 69) (σ 70) (σ 71) y1 y2 y3 = some (rm) ∧ rx = rm ∧ I (lus (lus σ [(26, x_o_notes_gathered)]) []) G
def qn_15 (I : (Nat → Nat → Int32) → kG → Prop) : Prop := ∀ (σ : Nat → Nat → Int32) (G : kG) (y1 : Int32), I σ G → ∃ (rx : Int32) (x_o_blips_many : Int32) (x_o_blips_times : Nat → Int32) (rm : Int32) (m_o_blips : Int32) (m_o_time : Nat → Int32), f_X11_blip (σ 27 2) (σ 28) y1 = some (rx, x_o_blips_many, x_o_blips_times) ∧ f_X12_blip (σ 42 5) (σ 72) y1 = some (rm, m_o_blips, m_o_time) ∧ rx = rm ∧ I (lus (lus σ [(27, (upd (σ 27) 2 x_o_blips_many)), (28, x_o_blips_times)]) [(42, (upd (σ 42) 5 m_o_blips)), (72, m_o_time)]) G
def qn_16 (I : (Nat → Nat → Int32) → kG → Prop) : Prop := ∀ (σ : Nat → Nat → Int32) (G : kG) (y1 : Int32) (y2 : Int32), I σ G → ∃ (rx : Int32) (x_o_blips_rests : Nat → Int32) (rm : Int32), f_X11_fits (σ 27 2) (σ 29) (σ 28) y1 y2 = some (rx, x_o_blips_rests) ∧ f_X12_fits (σ 42 5) (σ 72) y1 y2 = some (rm) ∧ rx = rm ∧ I (lus (lus σ [(29, x_o_blips_rests)]) []) G
def qn_17 (I : (Nat → Nat → Int32) → kG → Prop) : Prop := ∀ (σ : Nat → Nat → Int32) (G : kG) (y1 : Int32) (y2 : Int32) (y3 : Int32) (y4 : Int32), I σ G → ∃ (rx : Int32) (x_o_blips_fitting : Int32) (x_o_blips_least : Int32) (x_o_blips_greatest : Int32) (x_o_blips_rests : Nat → Int32) (rm : Int32) (m_o_fitMany : Int32) (m_o_fitLeast : Int32) (m_o_fitMost : Int32), f_X11_beats (σ 27 2) (σ 27 3) (σ 27 4) (σ 27 5) (σ 29) (σ 28) y1 y2 y3 y4 = some (rx, x_o_blips_fitting, x_o_blips_least, x_o_blips_greatest, x_o_blips_rests) ∧ f_X12_beats (σ 42 5) (σ 42 60) (σ 42 61) (σ 42 62) (σ 72) y1 y2 y3 y4 = some (rm, m_o_fitMany, m_o_fitLeast, m_o_fitMost) ∧ rx = rm ∧ I (lus (lus σ [(27, (upd (upd (upd (σ 27) 3 x_o_blips_fitting) 4 x_o_blips_least) 5 x_o_blips_greatest)), (29, x_o_blips_rests)]) [(42, (upd (upd (upd (σ 42) 60 m_o_fitMany) 61 m_o_fitLeast) 62 m_o_fitMost))]) G
def qn_18 (I : (Nat → Nat → Int32) → kG → Prop) : Prop := ∀ (σ : Nat → Nat → Int32) (G : kG) (y1 : Int32) (y2 : Int32), I σ G → ∃ (rx : Int32) (rm : Int32), f_X11_counted (σ 27 2) (σ 28) y1 y2 = some (rx) ∧ f_X12_counted (σ 42 5) (σ 72) y1 y2 = some (rm) ∧ rx = rm ∧ I (lus (lus σ []) []) G
def qn_19 (I : (Nat → Nat → Int32) → kG → Prop) : Prop := ∀ (σ : Nat → Nat → Int32) (G : kG) (y1 : Int32) (y2 : Int32) (y3 : Int32), I σ G → ∃ (rx : Int32) (x_o_blips_fitting : Int32) (x_o_blips_least : Int32) (x_o_blips_greatest : Int32) (x_o_blips_rests : Nat → Int32) (rm : Int32) (m_o_fitMany : Int32) (m_o_fitLeast : Int32) (m_o_fitMost : Int32), f_X11_sure (σ 27 2) (σ 27 3) (σ 27 4) (σ 27 5) (σ 29) (σ 28) y1 y2 y3 = some (rx, x_o_blips_fitting, x_o_blips_least, x_o_blips_greatest, x_o_blips_rests) ∧ f_X12_sure (σ 42 5) (σ 42 60) (σ 42 61) (σ 42 62) (σ 72) y1 y2 y3 = some (rm, m_o_fitMany, m_o_fitLeast, m_o_fitMost) ∧ rx = rm ∧ I (lus (lus σ [(27, (upd (upd (upd (σ 27) 3 x_o_blips_fitting) 4 x_o_blips_least) 5 x_o_blips_greatest)), (29, x_o_blips_rests)]) [(42, (upd (upd (upd (σ 42) 60 m_o_fitMany) 61 m_o_fitLeast) 62 m_o_fitMost))]) G
def qn_20 (I : (Nat → Nat → Int32) → kG → Prop) : Prop := ∀ (σ : Nat → Nat → Int32) (G : kG) (y1 : Int32) (y2 : Int32) (y3 : Int32), I σ G → ∃ (rx : Int32) (x_o_blips_fitting : Int32) (x_o_blips_least : Int32) (x_o_blips_greatest : Int32) (x_o_blips_rests : Nat → Int32) (rm : Int32) (m_o_fitMany : Int32) (m_o_fitLeast : Int32) (m_o_fitMost : Int32), f_X11_lost (σ 27 2) (σ 27 3) (σ 27 4) (σ 27 5) (σ 29) (σ 28) y1 y2 y3 = some (rx, x_o_blips_fitting, x_o_blips_least, x_o_blips_greatest, x_o_blips_rests) ∧ f_X12_lost (σ 42 5) (σ 42 60) (σ 42 61) (σ 42 62) (σ 72) y1 y2 y3 = some (rm, m_o_fitMany, m_o_fitLeast, m_o_fitMost) ∧ rx = rm ∧ I (lus (lus σ [(27, (upd (upd (upd (σ 27) 3 x_o_blips_fitting) 4 x_o_blips_least) 5 x_o_blips_greatest)), (29, x_o_blips_rests)]) [(42, (upd (upd (upd (σ 42) 60 m_o_fitMany) 61 m_o_fitLeast) 62 m_o_fitMost))]) G
def qn_21 (I : (Nat → Nat → Int32) → kG → Prop) : Prop := ∀ (σ : Nat → Nat → Int32) (G : kG) (y1 : Int32) (y2 : Int32), I σ G → ∃ (rx : Int32) (x_o_nights_many : Int32) (x_o_nights_days : Nat → Int32) (x_o_nights_shifts : Nat → Int32) (rm : Int32) (m_o_nights : Int32) (m_o_found : Nat → Int32) (m_o_nightDay : Nat → Int32), f_X11_night (σ 30 5) (σ 31) (σ 32) y1 y2 = some (rx, x_o_nights_many, x_o_nights_days, x_o_nights_shifts) ∧ f_X12_night (σ 42 6) (σ 74) (σ 73) y1 y2 = some (rm, m_o_nights, m_o_found, m_o_nightDay) ∧ rx = rm ∧ I (lus (lus σ [(30, (upd (σ 30) 5 x_o_nights_many)), (31, x_o_nights_days), (32, x_o_nights_shifts)]) [(42, (upd (σ 42) 6 m_o_nights)), (73, m_o_nightDay), (74, m_o_found)]) G
def qn_22 (I : (Nat → Nat → Int32) → kG → Prop) : Prop := ∀ (σ : Nat → Nat → Int32) (G : kG) (y1 : Int32) (y2 : Int32), I σ G → ∃ (rx : Int32) (x_o_nights_reckoner_letters : Nat → Int32) (x_o_nights_reckoner_values : Nat → Int32) (rm : Int32) (m_o_atA : Int32) (m_o_atB : Int32) (m_o_atD : Int32) (m_o_atF : Int32) (m_o_atG : Int32) (m_o_atH : Int32) (m_o_atL : Int32) (m_o_atM : Int32) (m_o_atN : Int32) (m_o_atS : Int32) (m_o_atT : Int32) (m_o_atU : Int32) (m_o_atX : Int32) (m_o_isRefused : Nat → Int32) (m_o_worth : Nat → Int32), f_X11_says G (σ 30 5) (σ 31) (σ 35) (σ 36) y1 y2 = some (rx, x_o_nights_reckoner_letters, x_o_nights_reckoner_values) ∧ f_X12_says (σ 42 6) (σ 42 28) (σ 42 29) (σ 42 30) (σ 42 31) (σ 42 32) (σ 42 33) (σ 42 34) (σ 42 35) (σ 42 36) (σ 42 37) (σ 42 38) (σ 42 39) (σ 42 40) (σ 48) (σ 49) (σ 46) (σ 57) (σ 44) (σ 73) (σ 45) (σ 56) y1 y2 = some (rm, m_o_atA, m_o_atB, m_o_atD, m_o_atF, m_o_atG, m_o_atH, m_o_atL, m_o_atM, m_o_atN, m_o_atS, m_o_atT, m_o_atU, m_o_atX, m_o_isRefused, m_o_worth) ∧ rx = rm ∧ I (lus (lus σ [(35, x_o_nights_reckoner_letters), (36, x_o_nights_reckoner_values)]) [(42, (upd (upd (upd (upd (upd (upd (upd (upd (upd (upd (upd (upd (upd (σ 42) 28 m_o_atA) 29 m_o_atB) 30 m_o_atD) 31 m_o_atF) 32 m_o_atG) 33 m_o_atH) 34 m_o_atL) 35 m_o_atM) 36 m_o_atN) 37 m_o_atS) 38 m_o_atT) 39 m_o_atU) 40 m_o_atX)), (56, m_o_worth), (57, m_o_isRefused)]) G
def qn_23 (I : (Nat → Nat → Int32) → kG → Prop) : Prop := ∀ (σ : Nat → Nat → Int32) (G : kG) (y1 : Int32) (y2 : Int32), I σ G → ∃ (rx : Int32) (x_o_nights_reckoner_letters : Nat → Int32) (x_o_nights_reckoner_values : Nat → Int32) (rm : Int32) (m_o_atA : Int32) (m_o_atB : Int32) (m_o_atD : Int32) (m_o_atF : Int32) (m_o_atG : Int32) (m_o_atH : Int32) (m_o_atL : Int32) (m_o_atM : Int32) (m_o_atN : Int32) (m_o_atS : Int32) (m_o_atT : Int32) (m_o_atU : Int32) (m_o_atX : Int32) (m_o_isRefused : Nat → Int32) (m_o_worth : Nat → Int32), f_X11_falls G (σ 30 5) (σ 31) (σ 32) (σ 35) (σ 36) y1 y2 = some (rx, x_o_nights_reckoner_letters, x_o_nights_reckoner_values) ∧ f_X12_falls (σ 42 6) (σ 42 28) (σ 42 29) (σ 42 30) (σ 42 31) (σ 42 32) (σ 42 33) (σ 42 34) (σ 42 35) (σ 42 36) (σ 42 37) (σ 42 38) (σ 42 39) (σ 42 40) (σ 48) (σ 49) (σ 46) (σ 74) (σ 57) (σ 44) (σ 73) (σ 45) (σ 56) y1 y2 = some (rm, m_o_atA, m_o_atB, m_o_atD, m_o_atF, m_o_atG, m_o_atH, m_o_atL, m_o_atM, m_o_atN, m_o_atS, m_o_atT, m_o_atU, m_o_atX, m_o_isRefused, m_o_worth) ∧ rx = rm ∧ I (lus (lus σ [(35, x_o_nights_reckoner_letters), (36, x_o_nights_reckoner_values)]) [(42, (upd (upd (upd (upd (upd (upd (upd (upd (upd (upd (upd (upd (upd (σ 42) 28 m_o_atA) 29 m_o_atB) 30 m_o_atD) 31 m_o_atF) 32 m_o_atG) 33 m_o_atH) 34 m_o_atL) 35 m_o_atM) 36 m_o_atN) 37 m_o_atS) 38 m_o_atT) 39 m_o_atU) 40 m_o_atX)), (56, m_o_worth), (57, m_o_isRefused)]) G
def qn_24 (I : (Nat → Nat → Int32) → kG → Prop) : Prop := ∀ (σ : Nat → Nat → Int32) (G : kG) (y1 : Int32) (y2 : Int32), I σ G → ∃ (rx : Int32) (x_o_nights_fallen : Nat → Int32) (x_o_nights_reckoner_letters : Nat → Int32) (x_o_nights_reckoner_values : Nat → Int32) (rm : Int32) (m_o_atA : Int32) (m_o_atB : Int32) (m_o_atD : Int32) (m_o_atF : Int32) (m_o_atG : Int32) (m_o_atH : Int32) (m_o_atL : Int32) (m_o_atM : Int32) (m_o_atN : Int32) (m_o_atS : Int32) (m_o_atT : Int32) (m_o_atU : Int32) (m_o_atX : Int32) (m_o_isRefused : Nat → Int32) (m_o_worth : Nat → Int32), f_X11_told G (σ 30 5) (σ 31) (σ 33) (σ 32) (σ 35) (σ 36) y1 y2 = some (rx, x_o_nights_fallen, x_o_nights_reckoner_letters, x_o_nights_reckoner_values) ∧ f_X12_told (σ 42 6) (σ 42 28) (σ 42 29) (σ 42 30) (σ 42 31) (σ 42 32) (σ 42 33) (σ 42 34) (σ 42 35) (σ 42 36) (σ 42 37) (σ 42 38) (σ 42 39) (σ 42 40) (σ 48) (σ 49) (σ 46) (σ 74) (σ 57) (σ 44) (σ 73) (σ 45) (σ 56) y1 y2 = some (rm, m_o_atA, m_o_atB, m_o_atD, m_o_atF, m_o_atG, m_o_atH, m_o_atL, m_o_atM, m_o_atN, m_o_atS, m_o_atT, m_o_atU, m_o_atX, m_o_isRefused, m_o_worth) ∧ rx = rm ∧ I (lus (lus σ [(33, x_o_nights_fallen), (35, x_o_nights_reckoner_letters), (36, x_o_nights_reckoner_values)]) [(42, (upd (upd (upd (upd (upd (upd (upd (upd (upd (upd (upd (upd (upd (σ 42) 28 m_o_atA) 29 m_o_atB) 30 m_o_atD) 31 m_o_atF) 32 m_o_atG) 33 m_o_atH) 34 m_o_atL) 35 m_o_atM) 36 m_o_atN) 37 m_o_atS) 38 m_o_atT) 39 m_o_atU) 40 m_o_atX)), (56, m_o_worth), (57, m_o_isRefused)]) G
def qn_25 (I : (Nat → Nat → Int32) → kG → Prop) : Prop := ∀ (σ : Nat → Nat → Int32) (G : kG) (y1 : Int32) (y2 : Int32), I σ G → ∃ (rx : Int32) (rm : Int32), f_X11_bound (σ 30 5) (σ 31) (σ 32) y1 y2 = some (rx) ∧ f_X12_bound (σ 42 6) (σ 74) (σ 73) y1 y2 = some (rm) ∧ rx = rm ∧ I (lus (lus σ []) []) G
def qn_26 (I : (Nat → Nat → Int32) → kG → Prop) : Prop := ∀ (σ : Nat → Nat → Int32) (G : kG) (y1 : Int32) (y2 : Int32), I σ G → ∃ (rx : Int32) (x_o_lots_tens : Nat → Int32) (rm : Int32) (m_o_ten : Nat → Int32), f_X11_there (σ 39) y1 y2 = some (rx, x_o_lots_tens) ∧ f_X12_there (σ 75) y1 y2 = some (rm, m_o_ten) ∧ rx = rm ∧ I (lus (lus σ [(39, x_o_lots_tens)]) [(75, m_o_ten)]) G
def qn_27 (I : (Nat → Nat → Int32) → kG → Prop) : Prop := ∀ (σ : Nat → Nat → Int32) (G : kG) (y1 : Int32) (y2 : Int32) (y3 : Int32), I σ G → ∃ (rx : Int32) (x_o_lots_unseen : Int32) (x_o_lots_best : Nat → Int32) (x_o_lots_chosen : Nat → Int32) (rm : Int32) (m_o_leastFrom : Nat → Int32), f_X11_pen (σ 38 3) (σ 41) (σ 40) (σ 39) y1 y2 y3 = some (rx, x_o_lots_unseen, x_o_lots_best, x_o_lots_chosen) ∧ f_X12_pen (σ 76) (σ 75) y1 y2 y3 = some (rm, m_o_leastFrom) ∧ I (lus (lus σ [(38, (upd (σ 38) 3 x_o_lots_unseen)), (40, x_o_lots_chosen), (41, x_o_lots_best)]) [(76, m_o_leastFrom)]) G
def qn_28 (I : (Nat → Nat → Int32) → kG → Prop) : Prop := ∀ (σ : Nat → Nat → Int32) (G : kG) (y1 : Int32) (y2 : Int32) (y3 : Int32) (y4 : Int32) (y5 : Int32), I σ G → ∃ (rx : Int64) (rm : Int64), f_X11_odds y1 y2 y3 y4 y5 = some (rx) ∧ f_X12_odds y1 y2 y3 y4 y5 = some (rm) ∧ rx = rm ∧ I (lus (lus σ []) []) G
def qn_29 (I : (Nat → Nat → Int32) → kG → Prop) : Prop := ∀ (σ : Nat → Nat → Int32) (G : kG) (y1 : Int32) (y2 : Int32) (y3 : Int32) (y4 : Int32) (y5 : Int32), I σ G → ∃ (rx : Int32) (rm : Int32), f_X11_more y1 y2 y3 y4 y5 = some (rx) ∧ f_X12_more y1 y2 y3 y4 y5 = some (rm) ∧ rx = rm ∧ I (lus (lus σ []) []) G
def qn_30 (I : (Nat → Nat → Int32) → kG → Prop) : Prop := ∀ (σ : Nat → Nat → Int32) (G : kG) (y1 : Int32) (y2 : Int32) (y3 : Int32), I σ G → ∃ (rx : Int32) (x_o_page_readers : Int32) (x_o_page_day : Int32) (x_o_tape_length : Int32) (x_o_page_heights : Nat → Int32) (x_o_page_highest : Nat → Int32) (x_o_page_marked : Nat → Int32) (x_o_page_shapes : Nat → Int32) (x_o_page_reckoner_letters : Nat → Int32) (x_o_page_reckoner_values : Nat → Int32) (x_o_sky_reckoner_letters : Nat → Int32) (x_o_sky_reckoner_values : Nat → Int32) (rm : Int32) (m_o_taped : Int32) (m_o_atA : Int32) (m_o_atB : Int32) (m_o_atD : Int32) (m_o_atF : Int32) (m_o_atG : Int32) (m_o_atH : Int32) (m_o_atL : Int32) (m_o_atM : Int32) (m_o_atN : Int32) (m_o_atS : Int32) (m_o_atT : Int32) (m_o_atU : Int32) (m_o_atX : Int32) (m_o_paperHigh : Int32) (m_o_paperShape : Int32) (m_o_first : Nat → Int32) (m_o_greatest : Nat → Int32) (m_o_highAt : Nat → Int32) (m_o_isRefused : Nat → Int32) (m_o_last : Nat → Int32) (m_o_marked : Nat → Int32) (m_o_shapeAt : Nat → Int32) (m_o_worth : Nat → Int32), f_X11_check G (σ 13 5) (σ 13 6) (σ 8 2) (σ 8 3) (σ 1 1) (σ 14) (σ 16) (σ 17) (σ 15) (σ 2) (σ 19) (σ 20) (σ 11) (σ 12) y1 y2 y3 = some (rx, x_o_page_readers, x_o_page_day, x_o_tape_length, x_o_page_heights, x_o_page_highest, x_o_page_marked, x_o_page_shapes, x_o_page_reckoner_letters, x_o_page_reckoner_values, x_o_sky_reckoner_letters, x_o_sky_reckoner_values) ∧ f_X12_check (σ 42 1) (σ 42 2) (σ 42 3) (σ 42 28) (σ 42 29) (σ 42 30) (σ 42 31) (σ 42 32) (σ 42 33) (σ 42 34) (σ 42 35) (σ 42 36) (σ 42 37) (σ 42 38) (σ 42 39) (σ 42 40) (σ 42 48) (σ 42 49) (σ 58) (σ 48) (σ 49) (σ 46) (σ 47) (σ 65) (σ 67) (σ 63) (σ 57) (σ 66) (σ 44) (σ 68) (σ 59) (σ 61) (σ 64) (σ 45) (σ 43) (σ 62) (σ 60) (σ 56) y1 y2 y3 = some (rm, m_o_taped, m_o_atA, m_o_atB, m_o_atD, m_o_atF, m_o_atG, m_o_atH, m_o_atL, m_o_atM, m_o_atN, m_o_atS, m_o_atT, m_o_atU, m_o_atX, m_o_paperHigh, m_o_paperShape, m_o_first, m_o_greatest, m_o_highAt, m_o_isRefused, m_o_last, m_o_marked, m_o_shapeAt, m_o_worth) ∧ I (lus (lus σ [(1, (upd (σ 1) 1 x_o_tape_length)), (11, x_o_sky_reckoner_letters), (12, x_o_sky_reckoner_values), (13, (upd (upd (σ 13) 5 x_o_page_readers) 6 x_o_page_day)), (14, x_o_page_heights), (15, x_o_page_shapes), (16, x_o_page_highest), (17, x_o_page_marked), (19, x_o_page_reckoner_letters), (20, x_o_page_reckoner_values)]) [(42, (upd (upd (upd (upd (upd (upd (upd (upd (upd (upd (upd (upd (upd (upd (upd (upd (σ 42) 1 m_o_taped) 28 m_o_atA) 29 m_o_atB) 30 m_o_atD) 31 m_o_atF) 32 m_o_atG) 33 m_o_atH) 34 m_o_atL) 35 m_o_atM) 36 m_o_atN) 37 m_o_atS) 38 m_o_atT) 39 m_o_atU) 40 m_o_atX) 48 m_o_paperHigh) 49 m_o_paperShape)), (56, m_o_worth), (57, m_o_isRefused), (63, m_o_highAt), (64, m_o_shapeAt), (65, m_o_first), (66, m_o_last), (67, m_o_greatest), (68, m_o_marked)]) G
def qn_31 (I : (Nat → Nat → Int32) → kG → Prop) : Prop := ∀ (σ : Nat → Nat → Int32) (G : kG) (y1 : Int32), I σ G → ∃ (rx : Int32) (rm : Int32), f_X11_count G (σ 27 2) (σ 30 5) (σ 22 4) (σ 8 2) (σ 8 3) (σ 1 1) y1 = some (rx) ∧ f_X12_count (σ 42 1) (σ 42 2) (σ 42 3) (σ 42 4) (σ 42 5) (σ 42 6) (σ 44) y1 = some (rm) ∧ rx = rm ∧ I (lus (lus σ []) []) G
set_option maxHeartbeats 4000000 in
theorem qs_0 : qn_0 Inv2 := by
  intro σ G y1 y2 y3 y4 y5 hI2
  obtain ⟨hI, c_tl, c_tb, c_sk, c_sd, c_sdb, c_src, c_no, c_nd, c_nm, c_ns, c_nb, c_bl, c_bt, c_bb, c_ni, c_nid, c_nis, c_nib, c_tn, c_tx, c_ln, c_ls⟩ := hI2
  obtain ⟨rx, x_o_page_day, x_o_sky_many, x_nt, rm, m_o_sources, m_o_byStar, m_o_minuteOf, m_o_shape, m_o_weekdays, m_o_wide, ex, em, hN⟩ := ps_0 σ G y1 y2 y3 y4 y5 hI
  have ex' := ex
  rw [c_sk] at ex'
  have hy : (if y1 = 0 then (0 : Int32) else 1).toInt = 0 ∨ (if y1 = 0 then (0 : Int32) else 1).toInt = 1 := by split <;> decide
  have h_r : rx = rm := by
    obtain ⟨G1, hG⟩ : ∃ G1, kGS G x_nt G1 := by
      cases x_nt with
      | none => exact ⟨G, rfl⟩
      | some q => exact ⟨_, 0, rfl⟩
    exact (pe_0 ex' em (by rw [← c_sk]; exact hI.2.2.2.2.2.1) hy (by rw [← c_sk]; exact hI.2.1) (by rw [← c_sk]; exact c_src) hG).1
  refine ⟨rx, x_o_page_day, x_o_sky_many, x_nt, rm, m_o_sources, m_o_byStar, m_o_minuteOf, m_o_shape, m_o_weekdays, m_o_wide, ex, em, h_r, fun G2 hG => ⟨hN G2 hG, ?_, ?_, ?_, ?_, ?_, ?_, ?_, ?_, ?_, ?_, ?_, ?_, ?_, ?_, ?_, ?_, ?_, ?_, ?_, ?_, ?_, ?_⟩⟩
  · exact c_tl
  · exact c_tb
  · exact (pe_0 ex' em (by rw [← c_sk]; exact hI.2.2.2.2.2.1) hy (by rw [← c_sk]; exact hI.2.1) (by rw [← c_sk]; exact c_src) hG).2.1
  · exact c_sd
  · exact c_sdb
  · exact (pe_0 ex' em (by rw [← c_sk]; exact hI.2.2.2.2.2.1) hy (by rw [← c_sk]; exact hI.2.1) (by rw [← c_sk]; exact c_src) hG).2.2
  · exact c_no
  · exact c_nd
  · exact c_nm
  · exact c_ns
  · exact c_nb
  · exact c_bl
  · exact c_bt
  · exact c_bb
  · exact c_ni
  · exact c_nid
  · exact c_nis
  · exact c_nib
  · exact c_tn
  · exact TX_S c_tx hG
  · exact c_ln
  · exact c_ls
set_option maxHeartbeats 4000000 in
theorem qs_1 : qn_1 Inv2 := by
  intro σ G y1 hI2
  obtain ⟨hI, c_tl, c_tb, c_sk, c_sd, c_sdb, c_src, c_no, c_nd, c_nm, c_ns, c_nb, c_bl, c_bt, c_bb, c_ni, c_nid, c_nis, c_nib, c_tn, c_tx, c_ln, c_ls⟩ := hI2
  obtain ⟨rx, x_o_page_day, x_o_sky_seed, rm, m_o_seed, ex, em, hN⟩ := ps_1 σ G y1 hI
  have ex' := ex
  rw [c_sd] at ex'
  obtain ⟨h_r, h_sd, h_sdb, _⟩ := pe_1 ex' em c_sdb
  refine ⟨rx, x_o_page_day, x_o_sky_seed, rm, m_o_seed, ex, em, h_r, ⟨hN, ?_, ?_, ?_, ?_, ?_, ?_, ?_, ?_, ?_, ?_, ?_, ?_, ?_, ?_, ?_, ?_, ?_, ?_, ?_, ?_, ?_, ?_⟩⟩
  · exact c_tl
  · exact c_tb
  · exact c_sk
  · exact h_sd
  · exact h_sdb
  · exact c_src
  · exact c_no
  · exact c_nd
  · exact c_nm
  · exact c_ns
  · exact c_nb
  · exact c_bl
  · exact c_bt
  · exact c_bb
  · exact c_ni
  · exact c_nid
  · exact c_nis
  · exact c_nib
  · exact c_tn
  · exact c_tx
  · exact c_ln
  · exact c_ls
set_option maxHeartbeats 4000000 in
theorem qs_2 : qn_2 Inv2 := by
  intro σ G y1 y2 y3 y4 y5 hI2
  obtain ⟨hI, c_tl, c_tb, c_sk, c_sd, c_sdb, c_src, c_no, c_nd, c_nm, c_ns, c_nb, c_bl, c_bt, c_bb, c_ni, c_nid, c_nis, c_nib, c_tn, c_tx, c_ln, c_ls⟩ := hI2
  obtain ⟨rx, x_o_tape_length, x_o_tape_bytes, rm, m_o_taped, m_o_tape, ex, em, hN⟩ := ps_2 σ G y1 y2 y3 y4 y5 hI
  have ex' := ex
  rw [c_tl] at ex'
  obtain ⟨h_r, h_tl, h_tb⟩ := pf_2 ex' em (by rw [← c_tl]; exact hI.2.2.1.1) (by rw [← c_tl]; exact hI.2.2.1.2) c_tb
  refine ⟨rx, x_o_tape_length, x_o_tape_bytes, rm, m_o_taped, m_o_tape, ex, em, h_r, ⟨hN, ?_, ?_, ?_, ?_, ?_, ?_, ?_, ?_, ?_, ?_, ?_, ?_, ?_, ?_, ?_, ?_, ?_, ?_, ?_, ?_, ?_, ?_⟩⟩
  · exact h_tl
  · exact h_tb
  · exact c_sk
  · exact c_sd
  · exact c_sdb
  · exact c_src
  · exact c_no
  · exact c_nd
  · exact c_nm
  · exact c_ns
  · exact c_nb
  · exact c_bl
  · exact c_bt
  · exact c_bb
  · exact c_ni
  · exact c_nid
  · exact c_nis
  · exact c_nib
  · exact c_tn
  · exact c_tx
  · exact c_ln
  · exact c_ls
set_option maxHeartbeats 4000000 in
theorem qs_3 : qn_3 Inv2 := by
  intro σ G y1 y2 hI2
  obtain ⟨hI, c_tl, c_tb, c_sk, c_sd, c_sdb, c_src, c_no, c_nd, c_nm, c_ns, c_nb, c_bl, c_bt, c_bb, c_ni, c_nid, c_nis, c_nib, c_tn, c_tx, c_ln, c_ls⟩ := hI2
  obtain ⟨rx, x_o_page_day, x_o_scribe_length, x_o_scribe_at, x_o_scribe_used, x_o_scribe_fault, x_o_tape_length, x_o_scribe_code, x_o_scribe_middles, x_o_scribe_starts, x_nt, rm, m_o_taped, m_o_place, m_o_end, m_o_bad, m_o_clauses, m_o_codes, m_o_open, m_o_stacked, m_o_isOver, m_o_isBehind, m_o_code, m_o_codeArg, m_o_codeFrom, m_o_codeTo, m_o_many, m_o_newArg, m_o_newCode, m_o_newFrom, m_o_newSum, m_o_newTo, m_o_stack, m_o_sumFrom, ex, em, hq, hN⟩ := ps_3 σ G y1 y2 hI
  have px := Sf_det ex (e_X11_law _ _ _ _ _ _ _ _ _ _ _ _ _ _ hI.2.2.2.2.2.1.1 hI.2.2.2.2.2.1.2 hI.2.2.1.1 hI.2.2.1.2 hI.2.2.2.1 hI.2.2.2.2.1 (SRC_s c_src))
  have pm := Sf_det em (e_X12_law hI.2.2.2.2.2.2.2.2.2.2.1.1 hI.2.2.2.2.2.2.2.2.2.2.1.2 hI.2.2.2.2.2.2.2.2.2.2.2.2.2.2.1)
  dsimp only at px pm
  have e1 := eqI c_tl
  have e2 := eqI c_sk
  have h_tl : x_o_tape_length = m_o_taped := i32_eq (by omega)
  have ex' := ex
  rw [c_tl, c_sk] at ex'
  have g0 := law_sim (G := G) (day := σ 13 6) (sky := σ 42 2) (len := σ 3 4) (at0 := σ 3 5) (us0 := σ 3 6) (fa0 := σ 3 7) (tl := σ 42 1) (p1 := y1) (p2 := y2) (pl := σ 42 18) (en := σ 42 19) (bd := σ 42 20) (cl := σ 42 21) (co := σ 42 22) (op := σ 42 23) (stk := σ 42 24) (iso := σ 42 25) (ib := σ 42 26) (wc := σ 4) (mid := σ 6) (sta := σ 5) (b := σ 2) (t := σ 43) (code := σ 48) (ca := σ 49) (cf := σ 46) (ct := σ 47) (many := σ 44) (na := σ 54) (nc := σ 53) (nf := σ 51) (ns := σ 50) (nt := σ 52) (st := σ 55) (sf := σ 45) hI.2.2.2.2.2.2.2.2.2.2.1.1 hI.2.2.2.2.2.2.2.2.2.2.1.2 (by rw [← c_sk]; exact SRC_s c_src) c_tb c_tx
  have g1 := Sf_det ex' g0
  have g2 := Sf_det em g1
  have h_r : rx = rm := g2.1
  refine ⟨rx, x_o_page_day, x_o_scribe_length, x_o_scribe_at, x_o_scribe_used, x_o_scribe_fault, x_o_tape_length, x_o_scribe_code, x_o_scribe_middles, x_o_scribe_starts, x_nt, rm, m_o_taped, m_o_place, m_o_end, m_o_bad, m_o_clauses, m_o_codes, m_o_open, m_o_stacked, m_o_isOver, m_o_isBehind, m_o_code, m_o_codeArg, m_o_codeFrom, m_o_codeTo, m_o_many, m_o_newArg, m_o_newCode, m_o_newFrom, m_o_newSum, m_o_newTo, m_o_stack, m_o_sumFrom, ex, em, h_r, hq, fun G2 hG => ⟨hN G2 hG, ?_, ?_, ?_, ?_, ?_, ?_, ?_, ?_, ?_, ?_, ?_, ?_, ?_, ?_, ?_, ?_, ?_, ?_, ?_, ?_, ?_, ?_⟩⟩
  · exact h_tl
  · exact c_tb
  · exact c_sk
  · exact c_sd
  · exact c_sdb
  · exact SRC_T c_src hG
  · exact c_no
  · exact c_nd
  · exact c_nm
  · exact c_ns
  · exact c_nb
  · exact c_bl
  · exact c_bt
  · exact c_bb
  · exact c_ni
  · exact c_nid
  · exact c_nis
  · exact c_nib
  · exact c_tn
  · exact g2.2 G2 hG
  · exact c_ln
  · exact c_ls
set_option maxHeartbeats 4000000 in
theorem qs_4 : qn_4 Inv2 := by
  intro σ G y1 y2 hI2
  obtain ⟨hI, c_tl, c_tb, c_sk, c_sd, c_sdb, c_src, c_no, c_nd, c_nm, c_ns, c_nb, c_bl, c_bt, c_bb, c_ni, c_nid, c_nis, c_nib, c_tn, c_tx, c_ln, c_ls⟩ := hI2
  obtain ⟨rx, x_o_page_readers, x_o_scribe_length, x_o_scribe_at, x_o_scribe_used, x_o_scribe_fault, x_o_tape_length, x_o_scribe_code, x_o_scribe_middles, x_o_scribe_starts, x_nt, rm, m_o_taped, m_o_place, m_o_end, m_o_bad, m_o_clauses, m_o_codes, m_o_open, m_o_stacked, m_o_isOver, m_o_isBehind, m_o_code, m_o_codeArg, m_o_codeFrom, m_o_codeTo, m_o_many, m_o_newArg, m_o_newCode, m_o_newFrom, m_o_newSum, m_o_newTo, m_o_stack, m_o_sumFrom, ex, em, hq, hN⟩ := ps_4 σ G y1 y2 hI
  have px := Sf_det ex (e_X11_way _ _ _ _ _ _ _ _ _ _ _ _ _ hI.2.2.1.1 hI.2.2.1.2 hI.2.2.2.1 hI.2.2.2.2.1)
  have pm := Sf_det em (e_X12_way hI.2.2.2.2.2.2.2.2.2.2.2.2.2.2.1)
  dsimp only at px pm
  have e1 := eqI c_tl
  have e2 := eqI c_sk
  have h_tl : x_o_tape_length = m_o_taped := i32_eq (by omega)
  have ex' := ex
  rw [c_tl] at ex'
  have g0 := way_sim (G := G) (rdr := σ 13 5) (len := σ 3 4) (at0 := σ 3 5) (us0 := σ 3 6) (fa0 := σ 3 7) (tl := σ 42 1) (p1 := y1) (p2 := y2) (pl := σ 42 18) (en := σ 42 19) (bd := σ 42 20) (cl := σ 42 21) (co := σ 42 22) (op := σ 42 23) (stk := σ 42 24) (iso := σ 42 25) (ib := σ 42 26) (wc := σ 4) (mid := σ 6) (sta := σ 5) (b := σ 2) (t := σ 43) (code := σ 48) (ca := σ 49) (cf := σ 46) (ct := σ 47) (many := σ 44) (na := σ 54) (nc := σ 53) (nf := σ 51) (ns := σ 50) (nt := σ 52) (st := σ 55) (sf := σ 45) c_tb c_tx
  have g1 := Sf_det ex' g0
  have g2 := Sf_det em g1
  have h_r : rx = rm := g2.1
  refine ⟨rx, x_o_page_readers, x_o_scribe_length, x_o_scribe_at, x_o_scribe_used, x_o_scribe_fault, x_o_tape_length, x_o_scribe_code, x_o_scribe_middles, x_o_scribe_starts, x_nt, rm, m_o_taped, m_o_place, m_o_end, m_o_bad, m_o_clauses, m_o_codes, m_o_open, m_o_stacked, m_o_isOver, m_o_isBehind, m_o_code, m_o_codeArg, m_o_codeFrom, m_o_codeTo, m_o_many, m_o_newArg, m_o_newCode, m_o_newFrom, m_o_newSum, m_o_newTo, m_o_stack, m_o_sumFrom, ex, em, h_r, hq, fun G2 hG => ⟨hN G2 hG, ?_, ?_, ?_, ?_, ?_, ?_, ?_, ?_, ?_, ?_, ?_, ?_, ?_, ?_, ?_, ?_, ?_, ?_, ?_, ?_, ?_, ?_⟩⟩
  · exact h_tl
  · exact c_tb
  · exact c_sk
  · exact c_sd
  · exact c_sdb
  · exact SRC_T c_src hG
  · exact c_no
  · exact c_nd
  · exact c_nm
  · exact c_ns
  · exact c_nb
  · exact c_bl
  · exact c_bt
  · exact c_bb
  · exact c_ni
  · exact c_nid
  · exact c_nis
  · exact c_nib
  · exact c_tn
  · exact g2.2 G2 hG
  · exact c_ln
  · exact c_ls
set_option maxHeartbeats 4000000 in
theorem qs_5 : qn_5 Inv2 := by
  intro σ G y1 y2 hI2
  obtain ⟨hI, c_tl, c_tb, c_sk, c_sd, c_sdb, c_src, c_no, c_nd, c_nm, c_ns, c_nb, c_bl, c_bt, c_bb, c_ni, c_nid, c_nis, c_nib, c_tn, c_tx, c_ln, c_ls⟩ := hI2
  obtain ⟨rx, x_o_scribe_length, x_o_scribe_at, x_o_scribe_used, x_o_scribe_fault, x_o_tape_length, x_o_scribe_code, x_o_scribe_middles, x_o_scribe_starts, x_nt, rm, m_o_taped, m_o_place, m_o_end, m_o_bad, m_o_clauses, m_o_codes, m_o_open, m_o_stacked, m_o_isBehind, m_o_code, m_o_codeArg, m_o_codeFrom, m_o_codeTo, m_o_many, m_o_newArg, m_o_newCode, m_o_newFrom, m_o_newSum, m_o_newTo, m_o_stack, m_o_sumFrom, ex, em, hq, hN⟩ := ps_5 σ G y1 y2 hI
  have px := Sf_det ex (e_X11_story _ _ _ _ _ _ _ _ _ _ _ _ hI.2.2.1.1 hI.2.2.1.2 hI.2.2.2.1 hI.2.2.2.2.1)
  have pm := Sf_det em (e_X12_story hI.2.2.2.2.2.2.2.2.2.2.2.2.2.2.1)
  dsimp only at px pm
  have e1 := eqI c_tl
  have e2 := eqI c_sk
  have h_tl : x_o_tape_length = m_o_taped := i32_eq (by omega)
  have ex' := ex
  rw [c_tl] at ex'
  have g0 := story_sim (G := G) (len := σ 3 4) (at0 := σ 3 5) (us0 := σ 3 6) (fa0 := σ 3 7) (tl := σ 42 1) (p1 := y1) (p2 := y2) (pl := σ 42 18) (en := σ 42 19) (bd := σ 42 20) (cl := σ 42 21) (co := σ 42 22) (op := σ 42 23) (stk := σ 42 24) (ib := σ 42 26) (wc := σ 4) (mid := σ 6) (sta := σ 5) (b := σ 2) (t := σ 43) (code := σ 48) (ca := σ 49) (cf := σ 46) (ct := σ 47) (many := σ 44) (na := σ 54) (nc := σ 53) (nf := σ 51) (ns := σ 50) (nt := σ 52) (st := σ 55) (sf := σ 45) c_tb c_tx
  have g1 := Sf_det ex' g0
  have g2 := Sf_det em g1
  have h_r : rx = rm := g2.1
  refine ⟨rx, x_o_scribe_length, x_o_scribe_at, x_o_scribe_used, x_o_scribe_fault, x_o_tape_length, x_o_scribe_code, x_o_scribe_middles, x_o_scribe_starts, x_nt, rm, m_o_taped, m_o_place, m_o_end, m_o_bad, m_o_clauses, m_o_codes, m_o_open, m_o_stacked, m_o_isBehind, m_o_code, m_o_codeArg, m_o_codeFrom, m_o_codeTo, m_o_many, m_o_newArg, m_o_newCode, m_o_newFrom, m_o_newSum, m_o_newTo, m_o_stack, m_o_sumFrom, ex, em, h_r, hq, fun G2 hG => ⟨hN G2 hG, ?_, ?_, ?_, ?_, ?_, ?_, ?_, ?_, ?_, ?_, ?_, ?_, ?_, ?_, ?_, ?_, ?_, ?_, ?_, ?_, ?_, ?_⟩⟩
  · exact h_tl
  · exact c_tb
  · exact c_sk
  · exact c_sd
  · exact c_sdb
  · exact SRC_T c_src hG
  · exact c_no
  · exact c_nd
  · exact c_nm
  · exact c_ns
  · exact c_nb
  · exact c_bl
  · exact c_bt
  · exact c_bb
  · exact c_ni
  · exact c_nid
  · exact c_nis
  · exact c_nib
  · exact c_tn
  · exact g2.2 G2 hG
  · exact c_ln
  · exact c_ls
set_option maxHeartbeats 4000000 in
theorem qs_6 : qn_6 Inv2 := by
  intro σ G y1 y2 hI2
  obtain ⟨hI, c_tl, c_tb, c_sk, c_sd, c_sdb, c_src, c_no, c_nd, c_nm, c_ns, c_nb, c_bl, c_bt, c_bb, c_ni, c_nid, c_nis, c_nib, c_tn, c_tx, c_ln, c_ls⟩ := hI2
  obtain ⟨rx, rm, ex, em, hN⟩ := ps_6 σ G y1 y2 hI
  obtain ⟨r0, ex0, em0⟩ := pf_6 y1 y2
  have h_r : rx = rm := by
    have a1 := ex.symm.trans ex0
    have a2 := em.symm.trans em0
    cases a1
    cases a2
    rfl
  refine ⟨rx, rm, ex, em, h_r, ⟨hN, ?_, ?_, ?_, ?_, ?_, ?_, ?_, ?_, ?_, ?_, ?_, ?_, ?_, ?_, ?_, ?_, ?_, ?_, ?_, ?_, ?_, ?_⟩⟩
  · exact c_tl
  · exact c_tb
  · exact c_sk
  · exact c_sd
  · exact c_sdb
  · exact c_src
  · exact c_no
  · exact c_nd
  · exact c_nm
  · exact c_ns
  · exact c_nb
  · exact c_bl
  · exact c_bt
  · exact c_bb
  · exact c_ni
  · exact c_nid
  · exact c_nis
  · exact c_nib
  · exact c_tn
  · exact c_tx
  · exact c_ln
  · exact c_ls
set_option maxHeartbeats 4000000 in
theorem qs_7 : qn_7 Inv2 := by
  intro σ G y1 y2 y3 hI2
  obtain ⟨hI, c_tl, c_tb, c_sk, c_sd, c_sdb, c_src, c_no, c_nd, c_nm, c_ns, c_nb, c_bl, c_bt, c_bb, c_ni, c_nid, c_nis, c_nib, c_tn, c_tx, c_ln, c_ls⟩ := hI2
  obtain ⟨rx, x_o_sky_reckoner_letters, x_o_sky_reckoner_values, rm, m_o_atA, m_o_atB, m_o_atD, m_o_atF, m_o_atG, m_o_atH, m_o_atL, m_o_atM, m_o_atN, m_o_atS, m_o_atT, m_o_atU, m_o_atX, m_o_isRefused, m_o_worth, ex, em, hN⟩ := ps_7 σ G y1 y2 y3 hI
  have ex' := ex
  rw [c_sk, c_sd] at ex'
  have g0 := height_sim (G := G) (so := σ 42 2) (sd := σ 42 3) (a1 := σ 42 28) (a2 := σ 42 29) (a3 := σ 42 30) (a4 := σ 42 31) (a5 := σ 42 32) (a6 := σ 42 33) (a7 := σ 42 34) (a8 := σ 42 35) (a9 := σ 42 36) (a10 := σ 42 37) (a11 := σ 42 38) (a12 := σ 42 39) (a13 := σ 42 40) (bs := σ 58) (code := σ 48) (ca := σ 49) (cf := σ 46) (ct := σ 47) (rf := σ 57) (many := σ 44) (mo := σ 59) (sf := σ 45) (wd := σ 62) (wi := σ 60) (sh := σ 61) (wo := σ 56) (Lt := σ 11) (vals := σ 12) (p1 := y1) (p2 := y2) (p3 := y3) hI.2.2.2.2.2.2.2.2.2.2.1.1 hI.2.2.2.2.2.2.2.2.2.2.1.2 c_sdb (by rw [← c_sk]; exact c_src) c_tx c_ls
  have g1 := Sf_det ex' g0
  have g2 := Sf_det em g1.2
  have h_r : rx = rm := g2
  refine ⟨rx, x_o_sky_reckoner_letters, x_o_sky_reckoner_values, rm, m_o_atA, m_o_atB, m_o_atD, m_o_atF, m_o_atG, m_o_atH, m_o_atL, m_o_atM, m_o_atN, m_o_atS, m_o_atT, m_o_atU, m_o_atX, m_o_isRefused, m_o_worth, ex, em, h_r, ⟨hN, ?_, ?_, ?_, ?_, ?_, ?_, ?_, ?_, ?_, ?_, ?_, ?_, ?_, ?_, ?_, ?_, ?_, ?_, ?_, ?_, ?_, ?_⟩⟩
  · exact c_tl
  · exact c_tb
  · exact c_sk
  · exact c_sd
  · exact c_sdb
  · exact c_src
  · exact c_no
  · exact c_nd
  · exact c_nm
  · exact c_ns
  · exact c_nb
  · exact c_bl
  · exact c_bt
  · exact c_bb
  · exact c_ni
  · exact c_nid
  · exact c_nis
  · exact c_nib
  · exact c_tn
  · exact c_tx
  · exact c_ln
  · exact g1.1
set_option maxHeartbeats 4000000 in
theorem qs_8 : qn_8 Inv2 := by
  intro σ G y1 y2 y3 hI2
  obtain ⟨hI, c_tl, c_tb, c_sk, c_sd, c_sdb, c_src, c_no, c_nd, c_nm, c_ns, c_nb, c_bl, c_bt, c_bb, c_ni, c_nid, c_nis, c_nib, c_tn, c_tx, c_ln, c_ls⟩ := hI2
  obtain ⟨rx, x_o_page_readers, x_o_page_day, x_o_page_heights, x_o_page_highest, x_o_page_shapes, x_o_sky_reckoner_letters, x_o_sky_reckoner_values, rm, m_o_atA, m_o_atB, m_o_atD, m_o_atF, m_o_atG, m_o_atH, m_o_atL, m_o_atM, m_o_atN, m_o_atS, m_o_atT, m_o_atU, m_o_atX, m_o_paperHigh, m_o_paperShape, m_o_isRefused, m_o_worth, ex, em, hN⟩ := ps_8 σ G y1 y2 y3 hI
  refine ⟨rx, x_o_page_readers, x_o_page_day, x_o_page_heights, x_o_page_highest, x_o_page_shapes, x_o_sky_reckoner_letters, x_o_sky_reckoner_values, rm, m_o_atA, m_o_atB, m_o_atD, m_o_atF, m_o_atG, m_o_atH, m_o_atL, m_o_atM, m_o_atN, m_o_atS, m_o_atT, m_o_atU, m_o_atX, m_o_paperHigh, m_o_paperShape, m_o_isRefused, m_o_worth, ex, em, ⟨hN, ?_, ?_, ?_, ?_, ?_, ?_, ?_, ?_, ?_, ?_, ?_, ?_, ?_, ?_, ?_, ?_, ?_, ?_, ?_, ?_, ?_, ?_⟩⟩
  · exact c_tl
  · exact c_tb
  · exact c_sk
  · exact c_sd
  · exact c_sdb
  · exact c_src
  · exact c_no
  · exact c_nd
  · exact c_nm
  · exact c_ns
  · exact c_nb
  · exact c_bl
  · exact c_bt
  · exact c_bb
  · exact c_ni
  · exact c_nid
  · exact c_nis
  · exact c_nib
  · exact c_tn
  · exact c_tx
  · exact c_ln
  · exact paper_Pt c_ls _ ex
set_option maxHeartbeats 4000000 in
theorem qs_9 : qn_9 Inv2 := by
  intro σ G y1 y2 y3 hI2
  obtain ⟨hI, c_tl, c_tb, c_sk, c_sd, c_sdb, c_src, c_no, c_nd, c_nm, c_ns, c_nb, c_bl, c_bt, c_bb, c_ni, c_nid, c_nis, c_nib, c_tn, c_tx, c_ln, c_ls⟩ := hI2
  obtain ⟨rx, x_o_page_readers, x_o_page_day, x_o_page_heights, x_o_page_highest, x_o_page_marked, x_o_page_shapes, x_o_page_reckoner_letters, x_o_page_reckoner_values, x_o_sky_reckoner_letters, x_o_sky_reckoner_values, rm, m_o_atA, m_o_atB, m_o_atD, m_o_atF, m_o_atG, m_o_atH, m_o_atL, m_o_atM, m_o_atN, m_o_atS, m_o_atT, m_o_atU, m_o_atX, m_o_paperHigh, m_o_paperShape, m_o_first, m_o_greatest, m_o_highAt, m_o_isRefused, m_o_last, m_o_marked, m_o_shapeAt, m_o_worth, ex, em, hN⟩ := ps_9 σ G y1 y2 y3 hI
  refine ⟨rx, x_o_page_readers, x_o_page_day, x_o_page_heights, x_o_page_highest, x_o_page_marked, x_o_page_shapes, x_o_page_reckoner_letters, x_o_page_reckoner_values, x_o_sky_reckoner_letters, x_o_sky_reckoner_values, rm, m_o_atA, m_o_atB, m_o_atD, m_o_atF, m_o_atG, m_o_atH, m_o_atL, m_o_atM, m_o_atN, m_o_atS, m_o_atT, m_o_atU, m_o_atX, m_o_paperHigh, m_o_paperShape, m_o_first, m_o_greatest, m_o_highAt, m_o_isRefused, m_o_last, m_o_marked, m_o_shapeAt, m_o_worth, ex, em, ⟨hN, ?_, ?_, ?_, ?_, ?_, ?_, ?_, ?_, ?_, ?_, ?_, ?_, ?_, ?_, ?_, ?_, ?_, ?_, ?_, ?_, ?_, ?_⟩⟩
  · exact c_tl
  · exact c_tb
  · exact c_sk
  · exact c_sd
  · exact c_sdb
  · exact c_src
  · exact c_no
  · exact c_nd
  · exact c_nm
  · exact c_ns
  · exact c_nb
  · exact c_bl
  · exact c_bt
  · exact c_bb
  · exact c_ni
  · exact c_nid
  · exact c_nis
  · exact c_nib
  · exact c_tn
  · exact c_tx
  · exact c_ln
  · exact marks_Pt c_ls _ ex
set_option maxHeartbeats 4000000 in
theorem qs_10 : qn_10 Inv2 := by
  intro σ G y1 y2 y3 y4 y5 hI2
  obtain ⟨hI, c_tl, c_tb, c_sk, c_sd, c_sdb, c_src, c_no, c_nd, c_nm, c_ns, c_nb, c_bl, c_bt, c_bb, c_ni, c_nid, c_nis, c_nib, c_tn, c_tx, c_ln, c_ls⟩ := hI2
  obtain ⟨rx, x_o_page_readers, x_o_page_day, x_o_page_heights, x_o_page_highest, x_o_page_marked, x_o_page_shapes, x_o_page_reckoner_letters, x_o_page_reckoner_values, x_o_sky_reckoner_letters, x_o_sky_reckoner_values, rm, m_o_atA, m_o_atB, m_o_atD, m_o_atF, m_o_atG, m_o_atH, m_o_atL, m_o_atM, m_o_atN, m_o_atS, m_o_atT, m_o_atU, m_o_atX, m_o_paperHigh, m_o_paperShape, m_o_first, m_o_greatest, m_o_highAt, m_o_isRefused, m_o_last, m_o_marked, m_o_shapeAt, m_o_worth, ex, em, hN⟩ := ps_10 σ G y1 y2 y3 y4 y5 hI
  refine ⟨rx, x_o_page_readers, x_o_page_day, x_o_page_heights, x_o_page_highest, x_o_page_marked, x_o_page_shapes, x_o_page_reckoner_letters, x_o_page_reckoner_values, x_o_sky_reckoner_letters, x_o_sky_reckoner_values, rm, m_o_atA, m_o_atB, m_o_atD, m_o_atF, m_o_atG, m_o_atH, m_o_atL, m_o_atM, m_o_atN, m_o_atS, m_o_atT, m_o_atU, m_o_atX, m_o_paperHigh, m_o_paperShape, m_o_first, m_o_greatest, m_o_highAt, m_o_isRefused, m_o_last, m_o_marked, m_o_shapeAt, m_o_worth, ex, em, ⟨hN, ?_, ?_, ?_, ?_, ?_, ?_, ?_, ?_, ?_, ?_, ?_, ?_, ?_, ?_, ?_, ?_, ?_, ?_, ?_, ?_, ?_, ?_⟩⟩
  · exact c_tl
  · exact c_tb
  · exact c_sk
  · exact c_sd
  · exact c_sdb
  · exact c_src
  · exact c_no
  · exact c_nd
  · exact c_nm
  · exact c_ns
  · exact c_nb
  · exact c_bl
  · exact c_bt
  · exact c_bb
  · exact c_ni
  · exact c_nid
  · exact c_nis
  · exact c_nib
  · exact c_tn
  · exact c_tx
  · exact c_ln
  · exact passed_Pt c_ls _ ex
set_option maxHeartbeats 4000000 in
theorem qs_11 : qn_11 Inv2 := by
  intro σ G y1 y2 y3 hI2
  obtain ⟨hI, c_tl, c_tb, c_sk, c_sd, c_sdb, c_src, c_no, c_nd, c_nm, c_ns, c_nb, c_bl, c_bt, c_bb, c_ni, c_nid, c_nis, c_nib, c_tn, c_tx, c_ln, c_ls⟩ := hI2
  obtain ⟨rx, x_o_notes_many, x_o_notes_days, x_o_notes_minutes, x_o_notes_shapes, rm, m_o_notes, m_o_noteDay, m_o_noteMinute, m_o_noteShape, ex, em, hN⟩ := ps_11 σ G y1 y2 y3 hI
  have ex' := ex
  rw [c_no, c_nd, c_nm, c_ns] at ex'
  obtain ⟨h_r, h_no, h_nd, h_nm, h_ns, h_nb⟩ := pe_11 ex' em (by rw [← c_no]; exact hI.2.2.2.2.2.2.1.1) (by rw [← c_no]; exact hI.2.2.2.2.2.2.1.2) c_nb
  refine ⟨rx, x_o_notes_many, x_o_notes_days, x_o_notes_minutes, x_o_notes_shapes, rm, m_o_notes, m_o_noteDay, m_o_noteMinute, m_o_noteShape, ex, em, h_r, ⟨hN, ?_, ?_, ?_, ?_, ?_, ?_, ?_, ?_, ?_, ?_, ?_, ?_, ?_, ?_, ?_, ?_, ?_, ?_, ?_, ?_, ?_, ?_⟩⟩
  · exact c_tl
  · exact c_tb
  · exact c_sk
  · exact c_sd
  · exact c_sdb
  · exact c_src
  · exact h_no
  · exact h_nd
  · exact h_nm
  · exact h_ns
  · exact h_nb
  · exact c_bl
  · exact c_bt
  · exact c_bb
  · exact c_ni
  · exact c_nid
  · exact c_nis
  · exact c_nib
  · exact c_tn
  · exact c_tx
  · exact c_ln
  · exact c_ls
set_option maxHeartbeats 4000000 in
theorem qs_12 : qn_12 Inv2 := by
  intro σ G y1 y2 hI2
  obtain ⟨hI, c_tl, c_tb, c_sk, c_sd, c_sdb, c_src, c_no, c_nd, c_nm, c_ns, c_nb, c_bl, c_bt, c_bb, c_ni, c_nid, c_nis, c_nib, c_tn, c_tx, c_ln, c_ls⟩ := hI2
  obtain ⟨rx, x_o_notes_gathered, rm, ex, em, hN⟩ := ps_12 σ G y1 y2 hI
  have ex' := ex
  rw [c_no, c_nd, c_nm, c_ns] at ex'
  have h_r := pe_12 ex' em (by rw [← c_no]; exact hI.2.2.2.2.2.2.1.1) (by rw [← c_no]; exact hI.2.2.2.2.2.2.1.2) (fun j => ⟨(c_nb j).1, (c_nb j).2.1⟩)
  refine ⟨rx, x_o_notes_gathered, rm, ex, em, h_r, ⟨hN, ?_, ?_, ?_, ?_, ?_, ?_, ?_, ?_, ?_, ?_, ?_, ?_, ?_, ?_, ?_, ?_, ?_, ?_, ?_, ?_, ?_, ?_⟩⟩
  · exact c_tl
  · exact c_tb
  · exact c_sk
  · exact c_sd
  · exact c_sdb
  · exact c_src
  · exact c_no
  · exact c_nd
  · exact c_nm
  · exact c_ns
  · exact c_nb
  · exact c_bl
  · exact c_bt
  · exact c_bb
  · exact c_ni
  · exact c_nid
  · exact c_nis
  · exact c_nib
  · exact c_tn
  · exact c_tx
  · exact c_ln
  · exact c_ls
set_option maxHeartbeats 4000000 in
theorem qs_13 : qn_13 Inv2 := by
  intro σ G y1 y2 hI2
  obtain ⟨hI, c_tl, c_tb, c_sk, c_sd, c_sdb, c_src, c_no, c_nd, c_nm, c_ns, c_nb, c_bl, c_bt, c_bb, c_ni, c_nid, c_nis, c_nib, c_tn, c_tx, c_ln, c_ls⟩ := hI2
  obtain ⟨rx, x_o_notes_gathered, rm, ex, em, hN⟩ := ps_13 σ G y1 y2 hI
  have ex' := ex
  rw [c_no, c_nd, c_nm, c_ns] at ex'
  have h_r := pe_13 ex' em (by rw [← c_no]; exact hI.2.2.2.2.2.2.1.1) (by rw [← c_no]; exact hI.2.2.2.2.2.2.1.2) (fun j => ⟨(c_nb j).1, (c_nb j).2.1⟩)
  refine ⟨rx, x_o_notes_gathered, rm, ex, em, h_r, ⟨hN, ?_, ?_, ?_, ?_, ?_, ?_, ?_, ?_, ?_, ?_, ?_, ?_, ?_, ?_, ?_, ?_, ?_, ?_, ?_, ?_, ?_, ?_⟩⟩
  · exact c_tl
  · exact c_tb
  · exact c_sk
  · exact c_sd
  · exact c_sdb
  · exact c_src
  · exact c_no
  · exact c_nd
  · exact c_nm
  · exact c_ns
  · exact c_nb
  · exact c_bl
  · exact c_bt
  · exact c_bb
  · exact c_ni
  · exact c_nid
  · exact c_nis
  · exact c_nib
  · exact c_tn
  · exact c_tx
  · exact c_ln
  · exact c_ls
set_option maxHeartbeats 4000000 in
theorem qs_14 : qn_14 Inv2 := by
  intro σ G y1 y2 y3 hI2
  obtain ⟨hI, c_tl, c_tb, c_sk, c_sd, c_sdb, c_src, c_no, c_nd, c_nm, c_ns, c_nb, c_bl, c_bt, c_bb, c_ni, c_nid, c_nis, c_nib, c_tn, c_tx, c_ln, c_ls⟩ := hI2
  obtain ⟨rx, x_o_notes_gathered, rm, ex, em, hN⟩ := ps_14 σ G y1 y2 y3 hI
  have ex' := ex
  rw [c_no, c_nd, c_nm, c_ns] at ex'
  have h_r := pe_14 ex' em (by rw [← c_no]; exact hI.2.2.2.2.2.2.1.1) (by rw [← c_no]; exact hI.2.2.2.2.2.2.1.2) (fun j => ⟨(c_nb j).1, (c_nb j).2.1⟩)
  refine ⟨rx, x_o_notes_gathered, rm, ex, em, h_r, ⟨hN, ?_, ?_, ?_, ?_, ?_, ?_, ?_, ?_, ?_, ?_, ?_, ?_, ?_, ?_, ?_, ?_, ?_, ?_, ?_, ?_, ?_, ?_⟩⟩
  · exact c_tl
  · exact c_tb
  · exact c_sk
  · exact c_sd
  · exact c_sdb
  · exact c_src
  · exact c_no
  · exact c_nd
  · exact c_nm
  · exact c_ns
  · exact c_nb
  · exact c_bl
  · exact c_bt
  · exact c_bb
  · exact c_ni
  · exact c_nid
  · exact c_nis
  · exact c_nib
  · exact c_tn
  · exact c_tx
  · exact c_ln
  · exact c_ls
set_option maxHeartbeats 4000000 in
theorem qs_15 : qn_15 Inv2 := by
  intro σ G y1 hI2
  obtain ⟨hI, c_tl, c_tb, c_sk, c_sd, c_sdb, c_src, c_no, c_nd, c_nm, c_ns, c_nb, c_bl, c_bt, c_bb, c_ni, c_nid, c_nis, c_nib, c_tn, c_tx, c_ln, c_ls⟩ := hI2
  obtain ⟨rx, x_o_blips_many, x_o_blips_times, rm, m_o_blips, m_o_time, ex, em, hN⟩ := ps_15 σ G y1 hI
  have ex' := ex
  rw [c_bl, c_bt] at ex'
  obtain ⟨h_r, h_bl, h_bt, h_bb⟩ := pe_15 ex' em (by rw [← c_bl]; exact hI.2.2.2.2.2.2.2.1.1) (by rw [← c_bl]; exact hI.2.2.2.2.2.2.2.1.2) c_bb
  refine ⟨rx, x_o_blips_many, x_o_blips_times, rm, m_o_blips, m_o_time, ex, em, h_r, ⟨hN, ?_, ?_, ?_, ?_, ?_, ?_, ?_, ?_, ?_, ?_, ?_, ?_, ?_, ?_, ?_, ?_, ?_, ?_, ?_, ?_, ?_, ?_⟩⟩
  · exact c_tl
  · exact c_tb
  · exact c_sk
  · exact c_sd
  · exact c_sdb
  · exact c_src
  · exact c_no
  · exact c_nd
  · exact c_nm
  · exact c_ns
  · exact c_nb
  · exact h_bl
  · exact h_bt
  · exact h_bb
  · exact c_ni
  · exact c_nid
  · exact c_nis
  · exact c_nib
  · exact c_tn
  · exact c_tx
  · exact c_ln
  · exact c_ls
set_option maxHeartbeats 4000000 in
theorem qs_16 : qn_16 Inv2 := by
  intro σ G y1 y2 hI2
  obtain ⟨hI, c_tl, c_tb, c_sk, c_sd, c_sdb, c_src, c_no, c_nd, c_nm, c_ns, c_nb, c_bl, c_bt, c_bb, c_ni, c_nid, c_nis, c_nib, c_tn, c_tx, c_ln, c_ls⟩ := hI2
  obtain ⟨rx, x_o_blips_rests, rm, ex, em, hN⟩ := ps_16 σ G y1 y2 hI
  have ex' := ex
  rw [c_bl, c_bt] at ex'
  have h_r := pe_16 ex' em (by rw [← c_bl]; exact hI.2.2.2.2.2.2.2.1.1) (by rw [← c_bl]; exact hI.2.2.2.2.2.2.2.1.2) c_bb
  refine ⟨rx, x_o_blips_rests, rm, ex, em, h_r, ⟨hN, ?_, ?_, ?_, ?_, ?_, ?_, ?_, ?_, ?_, ?_, ?_, ?_, ?_, ?_, ?_, ?_, ?_, ?_, ?_, ?_, ?_, ?_⟩⟩
  · exact c_tl
  · exact c_tb
  · exact c_sk
  · exact c_sd
  · exact c_sdb
  · exact c_src
  · exact c_no
  · exact c_nd
  · exact c_nm
  · exact c_ns
  · exact c_nb
  · exact c_bl
  · exact c_bt
  · exact c_bb
  · exact c_ni
  · exact c_nid
  · exact c_nis
  · exact c_nib
  · exact c_tn
  · exact c_tx
  · exact c_ln
  · exact c_ls
set_option maxHeartbeats 4000000 in
theorem qs_17 : qn_17 Inv2 := by
  intro σ G y1 y2 y3 y4 hI2
  obtain ⟨hI, c_tl, c_tb, c_sk, c_sd, c_sdb, c_src, c_no, c_nd, c_nm, c_ns, c_nb, c_bl, c_bt, c_bb, c_ni, c_nid, c_nis, c_nib, c_tn, c_tx, c_ln, c_ls⟩ := hI2
  obtain ⟨rx, x_o_blips_fitting, x_o_blips_least, x_o_blips_greatest, x_o_blips_rests, rm, m_o_fitMany, m_o_fitLeast, m_o_fitMost, ex, em, hN⟩ := ps_17 σ G y1 y2 y3 y4 hI
  have ex' := ex
  rw [c_bl, c_bt] at ex'
  have h_r := pe_17 ex' em (by rw [← c_bl]; exact hI.2.2.2.2.2.2.2.1.1) (by rw [← c_bl]; exact hI.2.2.2.2.2.2.2.1.2) c_bb
  refine ⟨rx, x_o_blips_fitting, x_o_blips_least, x_o_blips_greatest, x_o_blips_rests, rm, m_o_fitMany, m_o_fitLeast, m_o_fitMost, ex, em, h_r, ⟨hN, ?_, ?_, ?_, ?_, ?_, ?_, ?_, ?_, ?_, ?_, ?_, ?_, ?_, ?_, ?_, ?_, ?_, ?_, ?_, ?_, ?_, ?_⟩⟩
  · exact c_tl
  · exact c_tb
  · exact c_sk
  · exact c_sd
  · exact c_sdb
  · exact c_src
  · exact c_no
  · exact c_nd
  · exact c_nm
  · exact c_ns
  · exact c_nb
  · exact c_bl
  · exact c_bt
  · exact c_bb
  · exact c_ni
  · exact c_nid
  · exact c_nis
  · exact c_nib
  · exact c_tn
  · exact c_tx
  · exact c_ln
  · exact c_ls
set_option maxHeartbeats 4000000 in
theorem qs_18 : qn_18 Inv2 := by
  intro σ G y1 y2 hI2
  obtain ⟨hI, c_tl, c_tb, c_sk, c_sd, c_sdb, c_src, c_no, c_nd, c_nm, c_ns, c_nb, c_bl, c_bt, c_bb, c_ni, c_nid, c_nis, c_nib, c_tn, c_tx, c_ln, c_ls⟩ := hI2
  obtain ⟨rx, rm, ex, em, hN⟩ := ps_18 σ G y1 y2 hI
  have ex' := ex
  rw [c_bl, c_bt] at ex'
  have h_r := pe_18 ex' em (by rw [← c_bl]; exact hI.2.2.2.2.2.2.2.1.1) (by rw [← c_bl]; exact hI.2.2.2.2.2.2.2.1.2)
  refine ⟨rx, rm, ex, em, h_r, ⟨hN, ?_, ?_, ?_, ?_, ?_, ?_, ?_, ?_, ?_, ?_, ?_, ?_, ?_, ?_, ?_, ?_, ?_, ?_, ?_, ?_, ?_, ?_⟩⟩
  · exact c_tl
  · exact c_tb
  · exact c_sk
  · exact c_sd
  · exact c_sdb
  · exact c_src
  · exact c_no
  · exact c_nd
  · exact c_nm
  · exact c_ns
  · exact c_nb
  · exact c_bl
  · exact c_bt
  · exact c_bb
  · exact c_ni
  · exact c_nid
  · exact c_nis
  · exact c_nib
  · exact c_tn
  · exact c_tx
  · exact c_ln
  · exact c_ls
set_option maxHeartbeats 4000000 in
theorem qs_19 : qn_19 Inv2 := by
  intro σ G y1 y2 y3 hI2
  obtain ⟨hI, c_tl, c_tb, c_sk, c_sd, c_sdb, c_src, c_no, c_nd, c_nm, c_ns, c_nb, c_bl, c_bt, c_bb, c_ni, c_nid, c_nis, c_nib, c_tn, c_tx, c_ln, c_ls⟩ := hI2
  obtain ⟨rx, x_o_blips_fitting, x_o_blips_least, x_o_blips_greatest, x_o_blips_rests, rm, m_o_fitMany, m_o_fitLeast, m_o_fitMost, ex, em, hN⟩ := ps_19 σ G y1 y2 y3 hI
  have ex' := ex
  rw [c_bl, c_bt] at ex'
  have h_r := pe_19 ex' em (by rw [← c_bl]; exact hI.2.2.2.2.2.2.2.1.1) (by rw [← c_bl]; exact hI.2.2.2.2.2.2.2.1.2) c_bb
  refine ⟨rx, x_o_blips_fitting, x_o_blips_least, x_o_blips_greatest, x_o_blips_rests, rm, m_o_fitMany, m_o_fitLeast, m_o_fitMost, ex, em, h_r, ⟨hN, ?_, ?_, ?_, ?_, ?_, ?_, ?_, ?_, ?_, ?_, ?_, ?_, ?_, ?_, ?_, ?_, ?_, ?_, ?_, ?_, ?_, ?_⟩⟩
  · exact c_tl
  · exact c_tb
  · exact c_sk
  · exact c_sd
  · exact c_sdb
  · exact c_src
  · exact c_no
  · exact c_nd
  · exact c_nm
  · exact c_ns
  · exact c_nb
  · exact c_bl
  · exact c_bt
  · exact c_bb
  · exact c_ni
  · exact c_nid
  · exact c_nis
  · exact c_nib
  · exact c_tn
  · exact c_tx
  · exact c_ln
  · exact c_ls
set_option maxHeartbeats 4000000 in
theorem qs_20 : qn_20 Inv2 := by
  intro σ G y1 y2 y3 hI2
  obtain ⟨hI, c_tl, c_tb, c_sk, c_sd, c_sdb, c_src, c_no, c_nd, c_nm, c_ns, c_nb, c_bl, c_bt, c_bb, c_ni, c_nid, c_nis, c_nib, c_tn, c_tx, c_ln, c_ls⟩ := hI2
  obtain ⟨rx, x_o_blips_fitting, x_o_blips_least, x_o_blips_greatest, x_o_blips_rests, rm, m_o_fitMany, m_o_fitLeast, m_o_fitMost, ex, em, hN⟩ := ps_20 σ G y1 y2 y3 hI
  have ex' := ex
  rw [c_bl, c_bt] at ex'
  have h_r := pe_20 ex' em (by rw [← c_bl]; exact hI.2.2.2.2.2.2.2.1.1) (by rw [← c_bl]; exact hI.2.2.2.2.2.2.2.1.2) c_bb
  refine ⟨rx, x_o_blips_fitting, x_o_blips_least, x_o_blips_greatest, x_o_blips_rests, rm, m_o_fitMany, m_o_fitLeast, m_o_fitMost, ex, em, h_r, ⟨hN, ?_, ?_, ?_, ?_, ?_, ?_, ?_, ?_, ?_, ?_, ?_, ?_, ?_, ?_, ?_, ?_, ?_, ?_, ?_, ?_, ?_, ?_⟩⟩
  · exact c_tl
  · exact c_tb
  · exact c_sk
  · exact c_sd
  · exact c_sdb
  · exact c_src
  · exact c_no
  · exact c_nd
  · exact c_nm
  · exact c_ns
  · exact c_nb
  · exact c_bl
  · exact c_bt
  · exact c_bb
  · exact c_ni
  · exact c_nid
  · exact c_nis
  · exact c_nib
  · exact c_tn
  · exact c_tx
  · exact c_ln
  · exact c_ls
set_option maxHeartbeats 4000000 in
theorem qs_21 : qn_21 Inv2 := by
  intro σ G y1 y2 hI2
  obtain ⟨hI, c_tl, c_tb, c_sk, c_sd, c_sdb, c_src, c_no, c_nd, c_nm, c_ns, c_nb, c_bl, c_bt, c_bb, c_ni, c_nid, c_nis, c_nib, c_tn, c_tx, c_ln, c_ls⟩ := hI2
  obtain ⟨rx, x_o_nights_many, x_o_nights_days, x_o_nights_shifts, rm, m_o_nights, m_o_found, m_o_nightDay, ex, em, hN⟩ := ps_21 σ G y1 y2 hI
  have ex' := ex
  rw [c_ni, c_nid, c_nis] at ex'
  obtain ⟨h_r, h_ni, h_nid, h_nis, h_nib⟩ := pe_21 ex' em (by rw [← c_ni]; exact hI.2.2.2.2.2.2.2.2.1.1) (by rw [← c_ni]; exact hI.2.2.2.2.2.2.2.2.1.2) c_nib
  refine ⟨rx, x_o_nights_many, x_o_nights_days, x_o_nights_shifts, rm, m_o_nights, m_o_found, m_o_nightDay, ex, em, h_r, ⟨hN, ?_, ?_, ?_, ?_, ?_, ?_, ?_, ?_, ?_, ?_, ?_, ?_, ?_, ?_, ?_, ?_, ?_, ?_, ?_, ?_, ?_, ?_⟩⟩
  · exact c_tl
  · exact c_tb
  · exact c_sk
  · exact c_sd
  · exact c_sdb
  · exact c_src
  · exact c_no
  · exact c_nd
  · exact c_nm
  · exact c_ns
  · exact c_nb
  · exact c_bl
  · exact c_bt
  · exact c_bb
  · exact h_ni
  · exact h_nid
  · exact h_nis
  · exact h_nib
  · exact c_tn
  · exact c_tx
  · exact c_ln
  · exact c_ls
set_option maxHeartbeats 4000000 in
theorem qs_22 : qn_22 Inv2 := by
  intro σ G y1 y2 hI2
  obtain ⟨hI, c_tl, c_tb, c_sk, c_sd, c_sdb, c_src, c_no, c_nd, c_nm, c_ns, c_nb, c_bl, c_bt, c_bb, c_ni, c_nid, c_nis, c_nib, c_tn, c_tx, c_ln, c_ls⟩ := hI2
  obtain ⟨rx, x_o_nights_reckoner_letters, x_o_nights_reckoner_values, rm, m_o_atA, m_o_atB, m_o_atD, m_o_atF, m_o_atG, m_o_atH, m_o_atL, m_o_atM, m_o_atN, m_o_atS, m_o_atT, m_o_atU, m_o_atX, m_o_isRefused, m_o_worth, ex, em, hN⟩ := ps_22 σ G y1 y2 hI
  have ex' := ex
  rw [c_ni, c_nid] at ex'
  have g0 := says_sim (G := G) (days := σ 73) (code := σ 48) (ca := σ 49) (cf := σ 46) (ct := σ 47) (sf := σ 45) (many := σ 44) (rf := σ 57) (wo := σ 56) (Lt := σ 35) (vals := σ 36) (ni := σ 42 6) (y1 := y1) (y2 := y2) (a1 := σ 42 28) (a2 := σ 42 29) (a3 := σ 42 30) (a4 := σ 42 31) (a5 := σ 42 32) (a6 := σ 42 33) (a7 := σ 42 34) (a8 := σ 42 35) (a9 := σ 42 36) (a10 := σ 42 37) (a11 := σ 42 38) (a12 := σ 42 39) (a13 := σ 42 40) c_tx (by rw [← c_ni]; exact hI.2.2.2.2.2.2.2.2.1.1) (by rw [← c_ni]; exact hI.2.2.2.2.2.2.2.2.1.2) c_ln
  have g1 := Sf_det ex' g0
  have g2 := Sf_det em g1.2
  have h_r : rx = rm := g2
  refine ⟨rx, x_o_nights_reckoner_letters, x_o_nights_reckoner_values, rm, m_o_atA, m_o_atB, m_o_atD, m_o_atF, m_o_atG, m_o_atH, m_o_atL, m_o_atM, m_o_atN, m_o_atS, m_o_atT, m_o_atU, m_o_atX, m_o_isRefused, m_o_worth, ex, em, h_r, ⟨hN, ?_, ?_, ?_, ?_, ?_, ?_, ?_, ?_, ?_, ?_, ?_, ?_, ?_, ?_, ?_, ?_, ?_, ?_, ?_, ?_, ?_, ?_⟩⟩
  · exact c_tl
  · exact c_tb
  · exact c_sk
  · exact c_sd
  · exact c_sdb
  · exact c_src
  · exact c_no
  · exact c_nd
  · exact c_nm
  · exact c_ns
  · exact c_nb
  · exact c_bl
  · exact c_bt
  · exact c_bb
  · exact c_ni
  · exact c_nid
  · exact c_nis
  · exact c_nib
  · exact c_tn
  · exact c_tx
  · exact g1.1
  · exact c_ls
set_option maxHeartbeats 4000000 in
theorem qs_23 : qn_23 Inv2 := by
  intro σ G y1 y2 hI2
  obtain ⟨hI, c_tl, c_tb, c_sk, c_sd, c_sdb, c_src, c_no, c_nd, c_nm, c_ns, c_nb, c_bl, c_bt, c_bb, c_ni, c_nid, c_nis, c_nib, c_tn, c_tx, c_ln, c_ls⟩ := hI2
  obtain ⟨rx, x_o_nights_reckoner_letters, x_o_nights_reckoner_values, rm, m_o_atA, m_o_atB, m_o_atD, m_o_atF, m_o_atG, m_o_atH, m_o_atL, m_o_atM, m_o_atN, m_o_atS, m_o_atT, m_o_atU, m_o_atX, m_o_isRefused, m_o_worth, ex, em, hN⟩ := ps_23 σ G y1 y2 hI
  have ex' := ex
  rw [c_ni, c_nid, c_nis] at ex'
  have g0 := falls_sim (G := G) (days := σ 73) (shift := σ 74) (code := σ 48) (ca := σ 49) (cf := σ 46) (ct := σ 47) (sf := σ 45) (many := σ 44) (rf := σ 57) (wo := σ 56) (Lt := σ 35) (vals := σ 36) (ni := σ 42 6) (y1 := y1) (y2 := y2) (a1 := σ 42 28) (a2 := σ 42 29) (a3 := σ 42 30) (a4 := σ 42 31) (a5 := σ 42 32) (a6 := σ 42 33) (a7 := σ 42 34) (a8 := σ 42 35) (a9 := σ 42 36) (a10 := σ 42 37) (a11 := σ 42 38) (a12 := σ 42 39) (a13 := σ 42 40) c_tx (by rw [← c_ni]; exact hI.2.2.2.2.2.2.2.2.1.1) (by rw [← c_ni]; exact hI.2.2.2.2.2.2.2.2.1.2) c_ln
  have g1 := Sf_det ex' g0
  have g2 := Sf_det em g1.2
  have h_r : rx = rm := g2
  refine ⟨rx, x_o_nights_reckoner_letters, x_o_nights_reckoner_values, rm, m_o_atA, m_o_atB, m_o_atD, m_o_atF, m_o_atG, m_o_atH, m_o_atL, m_o_atM, m_o_atN, m_o_atS, m_o_atT, m_o_atU, m_o_atX, m_o_isRefused, m_o_worth, ex, em, h_r, ⟨hN, ?_, ?_, ?_, ?_, ?_, ?_, ?_, ?_, ?_, ?_, ?_, ?_, ?_, ?_, ?_, ?_, ?_, ?_, ?_, ?_, ?_, ?_⟩⟩
  · exact c_tl
  · exact c_tb
  · exact c_sk
  · exact c_sd
  · exact c_sdb
  · exact c_src
  · exact c_no
  · exact c_nd
  · exact c_nm
  · exact c_ns
  · exact c_nb
  · exact c_bl
  · exact c_bt
  · exact c_bb
  · exact c_ni
  · exact c_nid
  · exact c_nis
  · exact c_nib
  · exact c_tn
  · exact c_tx
  · exact g1.1
  · exact c_ls
set_option maxHeartbeats 4000000 in
theorem qs_24 : qn_24 Inv2 := by
  intro σ G y1 y2 hI2
  obtain ⟨hI, c_tl, c_tb, c_sk, c_sd, c_sdb, c_src, c_no, c_nd, c_nm, c_ns, c_nb, c_bl, c_bt, c_bb, c_ni, c_nid, c_nis, c_nib, c_tn, c_tx, c_ln, c_ls⟩ := hI2
  obtain ⟨rx, x_o_nights_fallen, x_o_nights_reckoner_letters, x_o_nights_reckoner_values, rm, m_o_atA, m_o_atB, m_o_atD, m_o_atF, m_o_atG, m_o_atH, m_o_atL, m_o_atM, m_o_atN, m_o_atS, m_o_atT, m_o_atU, m_o_atX, m_o_isRefused, m_o_worth, ex, em, hN⟩ := ps_24 σ G y1 y2 hI
  have ex' := ex
  rw [c_ni, c_nid, c_nis] at ex'
  have g0 := told_sim (G := G) (days := σ 73) (shift := σ 74) (fa := σ 33) (code := σ 48) (ca := σ 49) (cf := σ 46) (ct := σ 47) (sf := σ 45) (many := σ 44) (rf := σ 57) (wo := σ 56) (Lt := σ 35) (vals := σ 36) (ni := σ 42 6) (y1 := y1) (y2 := y2) (a1 := σ 42 28) (a2 := σ 42 29) (a3 := σ 42 30) (a4 := σ 42 31) (a5 := σ 42 32) (a6 := σ 42 33) (a7 := σ 42 34) (a8 := σ 42 35) (a9 := σ 42 36) (a10 := σ 42 37) (a11 := σ 42 38) (a12 := σ 42 39) (a13 := σ 42 40) c_tx (by rw [← c_ni]; exact hI.2.2.2.2.2.2.2.2.1.1) (by rw [← c_ni]; exact hI.2.2.2.2.2.2.2.2.1.2) c_ln
  have g1 := Sf_det ex' g0
  have g2 := Sf_det em g1.2
  have h_r : rx = rm := g2
  refine ⟨rx, x_o_nights_fallen, x_o_nights_reckoner_letters, x_o_nights_reckoner_values, rm, m_o_atA, m_o_atB, m_o_atD, m_o_atF, m_o_atG, m_o_atH, m_o_atL, m_o_atM, m_o_atN, m_o_atS, m_o_atT, m_o_atU, m_o_atX, m_o_isRefused, m_o_worth, ex, em, h_r, ⟨hN, ?_, ?_, ?_, ?_, ?_, ?_, ?_, ?_, ?_, ?_, ?_, ?_, ?_, ?_, ?_, ?_, ?_, ?_, ?_, ?_, ?_, ?_⟩⟩
  · exact c_tl
  · exact c_tb
  · exact c_sk
  · exact c_sd
  · exact c_sdb
  · exact c_src
  · exact c_no
  · exact c_nd
  · exact c_nm
  · exact c_ns
  · exact c_nb
  · exact c_bl
  · exact c_bt
  · exact c_bb
  · exact c_ni
  · exact c_nid
  · exact c_nis
  · exact c_nib
  · exact c_tn
  · exact c_tx
  · exact g1.1
  · exact c_ls
set_option maxHeartbeats 4000000 in
theorem qs_25 : qn_25 Inv2 := by
  intro σ G y1 y2 hI2
  obtain ⟨hI, c_tl, c_tb, c_sk, c_sd, c_sdb, c_src, c_no, c_nd, c_nm, c_ns, c_nb, c_bl, c_bt, c_bb, c_ni, c_nid, c_nis, c_nib, c_tn, c_tx, c_ln, c_ls⟩ := hI2
  obtain ⟨rx, rm, ex, em, hN⟩ := ps_25 σ G y1 y2 hI
  have ex' := ex
  rw [c_ni, c_nid, c_nis] at ex'
  have h_r := pe_25 ex' em (by rw [← c_ni]; exact hI.2.2.2.2.2.2.2.2.1.1) (by rw [← c_ni]; exact hI.2.2.2.2.2.2.2.2.1.2) c_nib
  refine ⟨rx, rm, ex, em, h_r, ⟨hN, ?_, ?_, ?_, ?_, ?_, ?_, ?_, ?_, ?_, ?_, ?_, ?_, ?_, ?_, ?_, ?_, ?_, ?_, ?_, ?_, ?_, ?_⟩⟩
  · exact c_tl
  · exact c_tb
  · exact c_sk
  · exact c_sd
  · exact c_sdb
  · exact c_src
  · exact c_no
  · exact c_nd
  · exact c_nm
  · exact c_ns
  · exact c_nb
  · exact c_bl
  · exact c_bt
  · exact c_bb
  · exact c_ni
  · exact c_nid
  · exact c_nis
  · exact c_nib
  · exact c_tn
  · exact c_tx
  · exact c_ln
  · exact c_ls
set_option maxHeartbeats 4000000 in
theorem qs_26 : qn_26 Inv2 := by
  intro σ G y1 y2 hI2
  obtain ⟨hI, c_tl, c_tb, c_sk, c_sd, c_sdb, c_src, c_no, c_nd, c_nm, c_ns, c_nb, c_bl, c_bt, c_bb, c_ni, c_nid, c_nis, c_nib, c_tn, c_tx, c_ln, c_ls⟩ := hI2
  obtain ⟨rx, x_o_lots_tens, rm, m_o_ten, ex, em, hN⟩ := ps_26 σ G y1 y2 hI
  have ex' := ex
  rw [c_tn] at ex'
  obtain ⟨h_r, h_tn⟩ := pe_26 ex' em
  refine ⟨rx, x_o_lots_tens, rm, m_o_ten, ex, em, h_r, ⟨hN, ?_, ?_, ?_, ?_, ?_, ?_, ?_, ?_, ?_, ?_, ?_, ?_, ?_, ?_, ?_, ?_, ?_, ?_, ?_, ?_, ?_, ?_⟩⟩
  · exact c_tl
  · exact c_tb
  · exact c_sk
  · exact c_sd
  · exact c_sdb
  · exact c_src
  · exact c_no
  · exact c_nd
  · exact c_nm
  · exact c_ns
  · exact c_nb
  · exact c_bl
  · exact c_bt
  · exact c_bb
  · exact c_ni
  · exact c_nid
  · exact c_nis
  · exact c_nib
  · exact h_tn
  · exact c_tx
  · exact c_ln
  · exact c_ls
set_option maxHeartbeats 4000000 in
theorem qs_27 : qn_27 Inv2 := by
  intro σ G y1 y2 y3 hI2
  obtain ⟨hI, c_tl, c_tb, c_sk, c_sd, c_sdb, c_src, c_no, c_nd, c_nm, c_ns, c_nb, c_bl, c_bt, c_bb, c_ni, c_nid, c_nis, c_nib, c_tn, c_tx, c_ln, c_ls⟩ := hI2
  obtain ⟨rx, x_o_lots_unseen, x_o_lots_best, x_o_lots_chosen, rm, m_o_leastFrom, ex, em, hN⟩ := ps_27 σ G y1 y2 y3 hI
  refine ⟨rx, x_o_lots_unseen, x_o_lots_best, x_o_lots_chosen, rm, m_o_leastFrom, ex, em, ⟨hN, ?_, ?_, ?_, ?_, ?_, ?_, ?_, ?_, ?_, ?_, ?_, ?_, ?_, ?_, ?_, ?_, ?_, ?_, ?_, ?_, ?_, ?_⟩⟩
  · exact c_tl
  · exact c_tb
  · exact c_sk
  · exact c_sd
  · exact c_sdb
  · exact c_src
  · exact c_no
  · exact c_nd
  · exact c_nm
  · exact c_ns
  · exact c_nb
  · exact c_bl
  · exact c_bt
  · exact c_bb
  · exact c_ni
  · exact c_nid
  · exact c_nis
  · exact c_nib
  · exact c_tn
  · exact c_tx
  · exact c_ln
  · exact c_ls
set_option maxHeartbeats 4000000 in
theorem qs_28 : qn_28 Inv2 := by
  intro σ G y1 y2 y3 y4 y5 hI2
  obtain ⟨hI, c_tl, c_tb, c_sk, c_sd, c_sdb, c_src, c_no, c_nd, c_nm, c_ns, c_nb, c_bl, c_bt, c_bb, c_ni, c_nid, c_nis, c_nib, c_tn, c_tx, c_ln, c_ls⟩ := hI2
  obtain ⟨rx, rm, ex, em, hN⟩ := ps_28 σ G y1 y2 y3 y4 y5 hI
  obtain ⟨r0, ex0, em0⟩ := pf_28 y1 y2 y3 y4 y5
  have h_r : rx = rm := by
    have a1 := ex.symm.trans ex0
    have a2 := em.symm.trans em0
    cases a1
    cases a2
    rfl
  refine ⟨rx, rm, ex, em, h_r, ⟨hN, ?_, ?_, ?_, ?_, ?_, ?_, ?_, ?_, ?_, ?_, ?_, ?_, ?_, ?_, ?_, ?_, ?_, ?_, ?_, ?_, ?_, ?_⟩⟩
  · exact c_tl
  · exact c_tb
  · exact c_sk
  · exact c_sd
  · exact c_sdb
  · exact c_src
  · exact c_no
  · exact c_nd
  · exact c_nm
  · exact c_ns
  · exact c_nb
  · exact c_bl
  · exact c_bt
  · exact c_bb
  · exact c_ni
  · exact c_nid
  · exact c_nis
  · exact c_nib
  · exact c_tn
  · exact c_tx
  · exact c_ln
  · exact c_ls
set_option maxHeartbeats 4000000 in
theorem qs_29 : qn_29 Inv2 := by
  intro σ G y1 y2 y3 y4 y5 hI2
  obtain ⟨hI, c_tl, c_tb, c_sk, c_sd, c_sdb, c_src, c_no, c_nd, c_nm, c_ns, c_nb, c_bl, c_bt, c_bb, c_ni, c_nid, c_nis, c_nib, c_tn, c_tx, c_ln, c_ls⟩ := hI2
  obtain ⟨rx, rm, ex, em, hN⟩ := ps_29 σ G y1 y2 y3 y4 y5 hI
  obtain ⟨r0, ex0, em0⟩ := pf_29 y1 y2 y3 y4 y5
  have h_r : rx = rm := by
    have a1 := ex.symm.trans ex0
    have a2 := em.symm.trans em0
    cases a1
    cases a2
    rfl
  refine ⟨rx, rm, ex, em, h_r, ⟨hN, ?_, ?_, ?_, ?_, ?_, ?_, ?_, ?_, ?_, ?_, ?_, ?_, ?_, ?_, ?_, ?_, ?_, ?_, ?_, ?_, ?_, ?_⟩⟩
  · exact c_tl
  · exact c_tb
  · exact c_sk
  · exact c_sd
  · exact c_sdb
  · exact c_src
  · exact c_no
  · exact c_nd
  · exact c_nm
  · exact c_ns
  · exact c_nb
  · exact c_bl
  · exact c_bt
  · exact c_bb
  · exact c_ni
  · exact c_nid
  · exact c_nis
  · exact c_nib
  · exact c_tn
  · exact c_tx
  · exact c_ln
  · exact c_ls
set_option maxHeartbeats 4000000 in
theorem qs_30 : qn_30 Inv2 := by
  intro σ G y1 y2 y3 hI2
  obtain ⟨hI, c_tl, c_tb, c_sk, c_sd, c_sdb, c_src, c_no, c_nd, c_nm, c_ns, c_nb, c_bl, c_bt, c_bb, c_ni, c_nid, c_nis, c_nib, c_tn, c_tx, c_ln, c_ls⟩ := hI2
  obtain ⟨rx, x_o_page_readers, x_o_page_day, x_o_tape_length, x_o_page_heights, x_o_page_highest, x_o_page_marked, x_o_page_shapes, x_o_page_reckoner_letters, x_o_page_reckoner_values, x_o_sky_reckoner_letters, x_o_sky_reckoner_values, rm, m_o_taped, m_o_atA, m_o_atB, m_o_atD, m_o_atF, m_o_atG, m_o_atH, m_o_atL, m_o_atM, m_o_atN, m_o_atS, m_o_atT, m_o_atU, m_o_atX, m_o_paperHigh, m_o_paperShape, m_o_first, m_o_greatest, m_o_highAt, m_o_isRefused, m_o_last, m_o_marked, m_o_shapeAt, m_o_worth, ex, em, hN⟩ := ps_30 σ G y1 y2 y3 hI
  have px := Sf_det ex (e_X11_check _ _ _ _ _ _ _ _ _ _ _ _ _ _ _ _ _ _ hI.1 hI.2.2.2.2.2.1.1 hI.2.2.2.2.2.1.2 hI.2.2.1.1 hI.2.2.1.2)
  have pm := Sf_det em (e_X12_check _ _ _ _ _ _ _ _ _ _ _ _ _ _ _ _ _ _ _ _ _ _ _ _ _ _ _ _ _ _ _ _ _ _ _ _ _ _ _ _ _ hI.2.2.2.2.2.2.2.2.2.2.1.1 hI.2.2.2.2.2.2.2.2.2.2.1.2 hI.2.2.2.2.2.2.2.2.2.2.2.2.2.2.1 hI.2.2.2.2.2.2.2.2.2.2.2.2.2.2.2.1 hI.2.2.2.2.2.2.2.2.2.1.1 hI.2.2.2.2.2.2.2.2.2.1.2)
  dsimp only at px pm
  have e1 := eqI c_tl
  have e2 := eqI c_sk
  have h_tl : x_o_tape_length = m_o_taped := i32_eq (by omega)
  refine ⟨rx, x_o_page_readers, x_o_page_day, x_o_tape_length, x_o_page_heights, x_o_page_highest, x_o_page_marked, x_o_page_shapes, x_o_page_reckoner_letters, x_o_page_reckoner_values, x_o_sky_reckoner_letters, x_o_sky_reckoner_values, rm, m_o_taped, m_o_atA, m_o_atB, m_o_atD, m_o_atF, m_o_atG, m_o_atH, m_o_atL, m_o_atM, m_o_atN, m_o_atS, m_o_atT, m_o_atU, m_o_atX, m_o_paperHigh, m_o_paperShape, m_o_first, m_o_greatest, m_o_highAt, m_o_isRefused, m_o_last, m_o_marked, m_o_shapeAt, m_o_worth, ex, em, ⟨hN, ?_, ?_, ?_, ?_, ?_, ?_, ?_, ?_, ?_, ?_, ?_, ?_, ?_, ?_, ?_, ?_, ?_, ?_, ?_, ?_, ?_, ?_⟩⟩
  · exact h_tl
  · exact c_tb
  · exact c_sk
  · exact c_sd
  · exact c_sdb
  · exact c_src
  · exact c_no
  · exact c_nd
  · exact c_nm
  · exact c_ns
  · exact c_nb
  · exact c_bl
  · exact c_bt
  · exact c_bb
  · exact c_ni
  · exact c_nid
  · exact c_nis
  · exact c_nib
  · exact c_tn
  · exact c_tx
  · exact c_ln
  · exact check_Pt c_ls _ ex
set_option maxHeartbeats 4000000 in
theorem qs_31 : qn_31 Inv2 := by
  intro σ G y1 hI2
  obtain ⟨hI, c_tl, c_tb, c_sk, c_sd, c_sdb, c_src, c_no, c_nd, c_nm, c_ns, c_nb, c_bl, c_bt, c_bb, c_ni, c_nid, c_nis, c_nib, c_tn, c_tx, c_ln, c_ls⟩ := hI2
  obtain ⟨rx, rm, ex, em, hN⟩ := ps_31 σ G y1 hI
  have ex' := ex
  rw [c_bl, c_ni, c_no, c_sk, c_sd, c_tl] at ex'
  have g0 := count_sim (G := G) (so := σ 42 2) (no := σ 42 4) (bl := σ 42 5) (ni := σ 42 6) (sd := σ 42 3) (tp := σ 42 1) (p1 := y1) hI.2.2.2.2.2.2.2.2.2.2.1.1 hI.2.2.2.2.2.2.2.2.2.2.1.2 (by rw [← c_sk]; exact SRC_s c_src) c_tx
  have g1 := Sf_det ex' g0
  have h_r : rx = rm := by
    have a1 := g1.symm.trans em
    cases a1
    rfl
  refine ⟨rx, rm, ex, em, h_r, ⟨hN, ?_, ?_, ?_, ?_, ?_, ?_, ?_, ?_, ?_, ?_, ?_, ?_, ?_, ?_, ?_, ?_, ?_, ?_, ?_, ?_, ?_, ?_⟩⟩
  · exact c_tl
  · exact c_tb
  · exact c_sk
  · exact c_sd
  · exact c_sdb
  · exact c_src
  · exact c_no
  · exact c_nd
  · exact c_nm
  · exact c_ns
  · exact c_nb
  · exact c_bl
  · exact c_bt
  · exact c_bb
  · exact c_ni
  · exact c_nid
  · exact c_nis
  · exact c_nib
  · exact c_tn
  · exact c_tx
  · exact c_ln
  · exact c_ls
