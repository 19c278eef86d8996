def FOK (many p e : Int32) : Prop := 1 ≤ p.toInt ∧ p.toInt ≤ 1000000 ∧ 0 ≤ e.toInt ∧ e.toInt ≤ 1000 ∧ 2 * e.toInt < p.toInt ∧ 2 ≤ many.toInt
theorem fits_x {many p e : Int32} {rs T : Nat → Int32} (hm : 0 ≤ many.toInt) (hm2 : many.toInt ≤ 40) (hb : ∀ j, 0 ≤ (T j).toInt ∧ (T j).toInt ≤ 1000000000) : Sf (f_X11_fits many rs T p e) (fun y => (FOK many p e ∧ isB y.1 (FitP T many p.toInt e.toInt)) ∨ (¬ FOK many p e ∧ y.1 = -1)) := by
  have z : (0 : Int32).toInt = 0 := by decide
  have z2 : (2 : Int32).toInt = 2 := by decide
  have z1000 : (1000 : Int32).toInt = 1000 := by decide
  rw [f_X11_fits]
  refine Sf_cb1 (s_X11_isBeat p) (fun r hr => ?_)
  have hr := hr.2
  refine Sf_ite (fun g => Sf_some (Or.inr ⟨fun w => ?_, rfl⟩)) (fun g => ?_)
  · have := eqI g; have := w.1; have := w.2.1; omega
  have g := neI g
  refine Sf_cb1 (s_X11_isWithin e 0 1000) (fun r2 hr2 => ?_)
  have hr2 := hr2.2
  refine Sf_ite (fun g2 => Sf_some (Or.inr ⟨fun w => ?_, rfl⟩)) (fun g2 => ?_)
  · have := eqI g2; have := w.2.2.1; have := w.2.2.2.1; omega
  have g2 := neI g2
  have e2 := mlY 2 e 2 (by decide) (by omega) (by omega)
  refine Sf_ite (fun g3 => Sf_some (Or.inr ⟨fun w => ?_, rfl⟩)) (fun g3 => ?_)
  · have := leI g3; have := w.2.2.2.2.1; omega
  have g3 := nleI g3
  refine Sf_ite (fun g4 => ?_) (fun g4 => Sf_some (Or.inr ⟨fun w => ?_, rfl⟩))
  · have g4 := leI g4
    refine Sf_cb2 (fitTo_e hm hm2 (by omega) (by omega) (by omega) (by omega) hb) (fun q rs' hq => ?_)
    have hF : FOK many p e := ⟨by omega, by omega, by omega, by omega, by omega, by omega⟩
    refine Sf_ite (fun g5 => Sf_some (Or.inl ⟨hF, Or.inr ⟨rfl, isB_0 hq g5⟩⟩)) (fun g5 => Sf_some (Or.inl ⟨hF, Or.inl ⟨rfl, isB_1 hq g5⟩⟩))
  · have := nleI g4; have := w.2.2.2.2.2; omega
theorem fits_m {many p e : Int32} {T : Nat → Int32} (hm : 0 ≤ many.toInt) (hm2 : many.toInt ≤ 40) (hb : ∀ j, 0 ≤ (T j).toInt ∧ (T j).toInt ≤ 1000000000) : Sf (f_X12_fits many T p e) (fun y => (FOK many p e ∧ isB y (FitP T many p.toInt e.toInt)) ∨ (¬ FOK many p e ∧ y = -1)) := by
  have z : (0 : Int32).toInt = 0 := by decide
  have z1 : (1 : Int32).toInt = 1 := by decide
  have a0 : (0 : Int64).toInt = 0 := by decide
  have a1000 : (1000 : Int64).toInt = 1000 := by decide
  have t1 := t64 e
  rw [f_X12_fits]
  refine Sf_cb1 (s_X12_isBeat p) (fun r hr => ?_)
  have hr := hr.2
  refine Sf_ite (fun g => Sf_some (Or.inr ⟨fun w => ?_, rfl⟩)) (fun g => ?_)
  · have := eqI g; have := w.1; have := w.2.1; omega
  have g := neI g
  refine Sf_cb1 (s_X12_lies (Int32.toInt64 e) 0 1000) (fun r2 hr2 => ?_)
  have hr2 := hr2.2
  refine Sf_ite (fun g2 => Sf_some (Or.inr ⟨fun w => ?_, rfl⟩)) (fun g2 => ?_)
  · have := eqI g2; have := w.2.2.1; have := w.2.2.2.1; omega
  have g2 := neI g2
  have e2 := mlY 2 e 2 (by decide) (by omega) (by omega)
  refine Sf_ite (fun g3 => Sf_some (Or.inr ⟨fun w => ?_, rfl⟩)) (fun g3 => ?_)
  · have := leI g3; have := w.2.2.2.2.1; omega
  have g3 := nleI g3
  refine Sf_ite (fun g4 => Sf_some (Or.inr ⟨fun w => ?_, rfl⟩)) (fun g4 => ?_)
  · have := leI g4; have := w.2.2.2.2.2; omega
  · have g4 := nleI g4
    refine Sf_cb1 (isFit_e hm hm2 (by omega) (by omega) (by omega) (by omega) hb) (fun q hq => ?_)
    have hF : FOK many p e := ⟨by omega, by omega, by omega, by omega, by omega, by omega⟩
    refine Sf_ite (fun g5 => Sf_some (Or.inl ⟨hF, Or.inr ⟨rfl, isB_0 hq g5⟩⟩)) (fun g5 => Sf_some (Or.inl ⟨hF, Or.inl ⟨rfl, isB_1 hq g5⟩⟩))
theorem pe_16 {many y1 y2 rx rm : Int32} {rs rs' T : Nat → Int32} (ex : f_X11_fits many rs T y1 y2 = some (rx, rs')) (em : f_X12_fits many T y1 y2 = some rm) (hm : 0 ≤ many.toInt) (hm2 : many.toInt ≤ 40) (hb : ∀ j, 0 ≤ (T j).toInt ∧ (T j).toInt ≤ 1000000000) : rx = rm := by
  have px := Sf_det ex (fits_x hm hm2 hb)
  have pm := Sf_det em (fits_m hm hm2 hb)
  dsimp only at px pm
  rcases px with ⟨a1, a2⟩ | ⟨a1, a2⟩ <;> rcases pm with ⟨b1, b2⟩ | ⟨b1, b2⟩
  · exact isB_eq a2 b2 Iff.rfl
  · exact absurd a1 b1
  · exact absurd b1 a1
  · rw [a2, b2]
def SCK (many p1 p2 p3 : Int32) : Prop := 1 ≤ p1.toInt ∧ p1.toInt ≤ 1000000 ∧ 1 ≤ p2.toInt ∧ p2.toInt ≤ 1000000 ∧ 0 ≤ p3.toInt ∧ p3.toInt ≤ 1000 ∧ p1.toInt ≤ p2.toInt ∧ p2.toInt ≤ p1.toInt + 2000 ∧ 2 * p3.toInt < p1.toInt ∧ 2 ≤ many.toInt
theorem can_2 {many p1 p2 p3 : Int32} (hm : 0 ≤ many.toInt) (hm2 : many.toInt ≤ 40) : ∃ r : Int32, f_X11_canScan many p1 p2 p3 = some r ∧ f_X12_canBeat many p1 p2 p3 = some r ∧ isB r (SCK many p1 p2 p3) := by
  obtain ⟨r, e1, h1⟩ := e_X11_canScan many p1 p2 p3 hm hm2
  obtain ⟨q, e2, h2⟩ := e_X12_canBeat many p1 p2 p3 hm hm2
  have h1 : isB r (SCK many p1 p2 p3) := isB_mk h1.2
  have h2 : isB q (SCK many p1 p2 p3) := isB_mk h2.2
  have : r = q := isB_eq h1 h2 Iff.rfl
  exact ⟨r, e1, by rw [e2, this], h1⟩
theorem within_2 {p : Int32} (a b : Int32) (A B : Int64) (hA : A.toInt = a.toInt) (hB : B.toInt = b.toInt) : ∃ r : Int32, f_X11_isWithin p a b = some r ∧ f_X12_lies (Int32.toInt64 p) A B = some r ∧ isB r (a.toInt ≤ p.toInt ∧ p.toInt ≤ b.toInt) := by
  obtain ⟨r, e1, h1⟩ := s_X11_isWithin p a b
  obtain ⟨q, e2, h2⟩ := s_X12_lies (Int32.toInt64 p) A B
  have h1 := h1.2
  have h2 := h2.2
  rw [t64, hA, hB] at h2
  have h1 : isB r (a.toInt ≤ p.toInt ∧ p.toInt ≤ b.toInt) := isB_mk (by omega)
  have h2 : isB q (a.toInt ≤ p.toInt ∧ p.toInt ≤ b.toInt) := isB_mk (by omega)
  have : r = q := isB_eq h1 h2 Iff.rfl
  exact ⟨r, e1, by rw [e2, this], h1⟩
theorem pe_17 {many y1 y2 y3 y4 c0 l0 g0 c1 l1 g1 rx c2 l2 g2 rm c3 l3 g3 : Int32} {rs rs' T : Nat → Int32} (ex : f_X11_beats many c0 l0 g0 rs T y1 y2 y3 y4 = some (rx, c2, l2, g2, rs')) (em : f_X12_beats many c1 l1 g1 T y1 y2 y3 y4 = some (rm, c3, l3, g3)) (hm : 0 ≤ many.toInt) (hm2 : many.toInt ≤ 40) (hb : ∀ j, 0 ≤ (T j).toInt ∧ (T j).toInt ≤ 1000000000) : rx = rm := by
  obtain ⟨r, q1, q2, hr⟩ := can_2 (many := many) (p1 := y1) (p2 := y2) (p3 := y3) hm hm2
  obtain ⟨r2, q3, q4, hr2⟩ := within_2 (p := y4) 0 2 0 2 (by decide) (by decide)
  rw [f_X11_beats, q1, cb1_o, q3] at ex
  rw [f_X12_beats, q2, cb1_o, q4] at em
  by_cases c : r = 0
  · rw [if_pos c] at ex em
    cases ex; cases em; rfl
  · rw [if_neg c, cb1_o] at ex em
    obtain ⟨s1, s2, s3, s4, s5, s6, s7, s8, s9, s10⟩ := isB_1 hr c
    by_cases d : r2 = 0
    · rw [if_pos d] at ex em
      cases ex; cases em; rfl
    · rw [if_neg d] at ex em
      obtain ⟨c', l', g', rs3, w1, w2, w3⟩ := scan_e (T := T) (c0 := c0) (l0 := l0) (g0 := g0) (c1 := c1) (l1 := l1) (g1 := g1) rs hm hm2 s1 s7 s8 s4 s5 s6 hb
      rw [w1, cb4_o] at ex
      rw [w2, cb3_o] at em
      by_cases f : y4 = 0
      · rw [if_pos f] at ex em
        cases ex; cases em; rfl
      · rw [if_neg f] at ex em
        by_cases f2 : y4 = 1
        · rw [if_pos f2] at ex em
          cases ex; cases em; rfl
        · rw [if_neg f2] at ex em
          cases ex; cases em; rfl
theorem beatsTo_e {T : Nat → Int32} {i p : Int32} (hp : 1 ≤ p.toInt) : f_X0_beatsTo T i p = f_X12_countOf T i p := by
  have o : (1 : Int32).toInt = 1 := by decide
  rw [f_X0_beatsTo, f_X12_countOf, if_pos (Int32.le_iff_toInt_le.mpr (by omega))]
  rfl
theorem pe_18 {many y1 y2 rx rm : Int32} {T : Nat → Int32} (ex : f_X11_counted many T y1 y2 = some rx) (em : f_X12_counted many T y1 y2 = some rm) (hm : 0 ≤ many.toInt) (hm2 : many.toInt ≤ 40) : rx = rm := by
  have em1 := sbN many 1 1 (by decide) (by omega) (by omega)
  obtain ⟨r, q1, q2, hr⟩ := within_2 (p := y1) 0 (many - 1) 0 (Int32.toInt64 (many - 1)) (by decide) (t64 _)
  obtain ⟨b1, p1, h1⟩ := s_X11_isBeat y2
  obtain ⟨b2, p2, h2⟩ := s_X12_isBeat y2
  have hbb : b1 = b2 := i32_eq (by have := h1.2; have := h2.2; omega)
  rw [f_X11_counted, p1, cb1_o, q1] at ex
  rw [f_X12_counted, q2, cb1_o, p2] at em
  by_cases c : b1 = 0
  · rw [if_pos c] at ex
    by_cases d : r = 0
    · rw [if_pos d] at em
      cases ex; cases em; rfl
    · rw [if_neg d, cb1_o, if_pos (by rw [← hbb]; exact c)] at em
      cases ex; cases em; rfl
  · rw [if_neg c, cb1_o] at ex
    by_cases d : r = 0
    · rw [if_pos d] at ex em
      cases ex; cases em; rfl
    · rw [if_neg d] at ex
      rw [if_neg d, cb1_o, if_neg (by rw [← hbb]; exact c)] at em
      have hy : 1 ≤ y2.toInt := by
        have := h1.2
        have := neI c
        have z : (0 : Int32).toInt = 0 := by decide
        omega
      rw [beatsTo_e hy] at ex
      rw [ex] at em
      cases em
      rfl
theorem alike_2 {many l g c : Int32} {T : Nat → Int32} (hm : 0 ≤ many.toInt) (hm2 : many.toInt ≤ 40) (hl : 1 ≤ l.toInt) (hg : 1 ≤ g.toInt) : ∀ (n : Nat) (x : Int32), 0 ≤ x.toInt → x.toInt ≤ 40 → 41 - x.toInt < (n : Int) → ∃ r : Int32, f_X0_countAlike_L2 many T l g n x = some r ∧ f_X12_sure_L32 many T c l g n x = some (r, c, l, g) ∧ (r = 0 ∨ r = 1) := by
  intro n
  induction n with
  | zero => intro x h0 h1 hm; exact absurd hm (by omega)
  | succ n ih =>
    intro x h0 hx hme
    rw [f_X0_countAlike_L2, f_X12_sure_L32]
    by_cases c1 : many ≤ x
    · rw [if_pos c1, if_pos c1]
      exact ⟨1, rfl, rfl, Or.inr rfl⟩
    · have c2 := nleI c1
      have e1 := adN x 1 1 (by decide) (by omega) (by omega)
      rw [if_neg c1, if_neg c1, beatsTo_e hl, beatsTo_e hg]
      obtain ⟨a, p1, -⟩ := s_X12_countOf T x l (by omega) (by omega) (by omega)
      obtain ⟨b, p2, -⟩ := s_X12_countOf T x g (by omega) (by omega) (by omega)
      rw [p1, p2, cb1_o, cb1_o, cb1_o, cb1_o]
      by_cases d : a = b
      · rw [if_pos d, if_pos d]
        exact ih (x + 1) (by omega) (by omega) (by omega)
      · rw [if_neg d, if_neg d]
        exact ⟨0, rfl, rfl, Or.inl rfl⟩
theorem pe_19 {many y1 y2 y3 c0 l0 g0 c1 l1 g1 rx c2 l2 g2 rm c3 l3 g3 : Int32} {rs rs' T : Nat → Int32} (ex : f_X11_sure many c0 l0 g0 rs T y1 y2 y3 = some (rx, c2, l2, g2, rs')) (em : f_X12_sure many c1 l1 g1 T y1 y2 y3 = some (rm, c3, l3, g3)) (hm : 0 ≤ many.toInt) (hm2 : many.toInt ≤ 40) (hb : ∀ j, 0 ≤ (T j).toInt ∧ (T j).toInt ≤ 1000000000) : rx = rm := by
  have hFU : (100000 : Int) ≤ (FU : Int) := Int.ofNat_le.mpr FU_ge
  have z : (0 : Int32).toInt = 0 := by decide
  obtain ⟨r, q1, q2, hr⟩ := can_2 (many := many) (p1 := y1) (p2 := y2) (p3 := y3) hm hm2
  rw [f_X11_sure, q1, cb1_o] at ex
  rw [f_X12_sure, q2, cb1_o] at em
  by_cases c : r = 0
  · rw [if_pos c] at ex em
    cases ex; cases em; rfl
  · rw [if_neg c] at ex em
    obtain ⟨s1, s2, s3, s4, s5, s6, s7, s8, s9, s10⟩ := isB_1 hr c
    obtain ⟨c', l', g', rs3, w1, w2, w3⟩ := scan_e (T := T) (c0 := c0) (l0 := l0) (g0 := g0) (c1 := c1) (l1 := l1) (g1 := g1) rs hm hm2 s1 s7 s8 s4 s5 s6 hb
    rw [w1, cb4_o] at ex
    rw [w2, cb3_o] at em
    by_cases f : c' = 0
    · rw [if_pos f] at ex em
      cases ex; cases em; rfl
    · rw [if_neg f] at ex em
      have f := neI f
      have w4 := w3.resolve_left (fun w => by have := w.1; omega)
      obtain ⟨r3, v1, v2, v3⟩ := alike_2 (many := many) (l := l') (g := g') (c := c') (T := T) hm hm2 (by omega) (by omega) FU 0 (by omega) (by omega) (by omega)
      rw [f_X0_countAlike, v1, cb1_o] at ex
      rw [v2] at em
      by_cases k : r3 = 0
      · rw [if_pos k] at ex
        cases ex; cases em; rw [k]
      · rw [if_neg k] at ex
        have k2 := v3.resolve_left k
        cases ex; cases em; rw [k2]
theorem pe_20 {many y1 y2 y3 c0 l0 g0 c1 l1 g1 rx c2 l2 g2 rm c3 l3 g3 : Int32} {rs rs' T : Nat → Int32} (ex : f_X11_lost many c0 l0 g0 rs T y1 y2 y3 = some (rx, c2, l2, g2, rs')) (em : f_X12_lost many c1 l1 g1 T y1 y2 y3 = some (rm, c3, l3, g3)) (hm : 0 ≤ many.toInt) (hm2 : many.toInt ≤ 40) (hb : ∀ j, 0 ≤ (T j).toInt ∧ (T j).toInt ≤ 1000000000) : rx = rm := by
  have z : (0 : Int32).toInt = 0 := by decide
  have z2 : (2 : Int32).toInt = 2 := by decide
  obtain ⟨r, q1, q2, hr⟩ := can_2 (many := many) (p1 := y1) (p2 := y2) (p3 := y3) hm hm2
  rw [f_X11_lost, q1, cb1_o] at ex
  rw [f_X12_lost, q2, cb1_o] at em
  by_cases c : r = 0
  · rw [if_pos c] at ex em
    cases ex; cases em; rfl
  · rw [if_neg c] at ex em
    obtain ⟨s1, s2, s3, s4, s5, s6, s7, s8, s9, s10⟩ := isB_1 hr c
    obtain ⟨c', l', g', rs3, w1, w2, w3⟩ := scan_e (T := T) (c0 := c0) (l0 := l0) (g0 := g0) (c1 := c1) (l1 := l1) (g1 := g1) rs hm hm2 s1 s7 s8 s4 s5 s6 hb
    rw [w1, cb4_o, f_X0_beatsTillLost, nmI_o] at ex
    rw [w2, cb3_o] at em
    have gl := sbX g' l' (by rcases w3 with h | h <;> omega) (by rcases w3 with h | h <;> omega)
    have tw := mlY 2 (g' - l') 2 (by decide) (by rcases w3 with h | h <;> omega) (by rcases w3 with h | h <;> omega)
    by_cases f : 2 ≤ c'
    · have f1 := leI f
      have w4 := w3.resolve_left (fun w => by have := w.1; omega)
      have hlt : 0 < 2 * (g' - l') := Int32.lt_iff_toInt_lt.mpr (by have := w4.2.2.2.2.2 (by omega); omega)
      rw [if_pos hlt] at ex
      rw [if_pos f, nmI_o] at em
      unfold dvI at ex em
      by_cases k : 2 * (g' - l') = 0
      · have := eqI k
        have := ltI hlt
        exfalso; omega
      · rw [if_neg k] at ex em
        rw [cb1_o] at ex
        cases ex; cases em; rfl
    · have f1 := nleI f
      have hlt : ¬ 0 < 2 * (g' - l') := fun w => by
        have := ltI w
        rcases w3 with h | h
        · omega
        · have := h.2.2.2.2.1 (by omega); omega
      rw [if_neg hlt] at ex
      rw [if_neg f] at em
      rw [cb1_o] at ex
      cases ex; cases em; rfl
