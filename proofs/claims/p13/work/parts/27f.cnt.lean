theorem back_e {p c : Int32} (C : Int) (hc : c.toInt = C) (hC : 0 ≤ C) (hC2 : C ≤ 100) (h1 : 0 ≤ (p - c).toInt) (h2 : (p - c).toInt ≤ 100) : p.toInt = (p - c).toInt + C := by
  have e := adN (p - c) c C hc (by omega) (by omega)
  rw [Int32.sub_add_cancel] at e
  exact e
theorem s_X12_count {tp so no bl ni sd p1 : Int32} {many : Nat → Int32} (h1 : 0 ≤ so.toInt) (h2 : so.toInt ≤ 10) : Sf (f_X12_count tp so sd no bl ni many p1) (fun _ => True) := by
  have z : (0 : Int32).toInt = 0 := by decide
  have l10 : (10 : Int32).toInt = 10 := by decide
  have l14 : (14 : Int32).toInt = 14 := by decide
  have l20 : (20 : Int32).toInt = 20 := by decide
  have l30 : (30 : Int32).toInt = 30 := by decide
  rw [f_X12_count]
  refine Sf_cb1 (s_X12_isSource so (p1 - 10) h1 h2) (fun r hr => ?_)
  refine Sf_ite (fun _ => ?_) (fun g => ?_)
  · refine Sf_cb1 (s_X12_isReader (p1 - 20)) (fun r hr => ?_)
    refine Sf_ite (fun _ => ?_) (fun g => ?_)
    · refine Sf_cb1 (s_X12_isTale (p1 - 30)) (fun r hr => ?_)
      refine Sf_ite (fun _ => ?_) (fun g => ?_)
      · repeat' (refine Sf_ite (fun _ => ?_) (fun _ => ?_))
        all_goals exact Sf_some trivial
      · have g := neI g
        have hr := hr.2.resolve_right (fun w => by have := w.1; omega)
        have e := back_e (p := p1) 30 l30 (by omega) (by omega) (by omega) (by omega)
        have e1 := adX 14 p1 (by omega) (by omega)
        have e2 := sbX (14 + p1) 30 (by omega) (by omega)
        exact Sf_rdI (by omega) (by omega) (fun _ _ => Sf_some trivial)
    · have g := neI g
      have hr := hr.2.resolve_right (fun w => by have := w.1; omega)
      have e := back_e (p := p1) 20 l20 (by omega) (by omega) (by omega) (by omega)
      have e1 := adX 10 p1 (by omega) (by omega)
      have e2 := sbX (10 + p1) 20 (by omega) (by omega)
      exact Sf_rdI (by omega) (by omega) (fun _ _ => Sf_some trivial)
  · have g := neI g
    have hr := hr.2.resolve_left (by omega)
    have e := back_e (p := p1) 10 l10 (by omega) (by omega) (by omega) (by omega)
    have e1 := adX 0 p1 (by omega) (by omega)
    have e2 := sbX (0 + p1) 10 (by omega) (by omega)
    exact Sf_rdI (by omega) (by omega) (fun _ _ => Sf_some trivial)
theorem pf_6 (y1 : Int32) (y2 : Int32) : ∃ (r : Int32), f_X11_star y1 y2 = some (r) ∧ f_X12_star y1 y2 = some (r) := by
  simp only [f_X11_star, f_X12_star, isDay_e, isMinute_e, misDay_e, misMinute_e, cb1_o, bI_0, f_X11_starMinute, f_X12_starAt]
  by_cases h1 : 0 ≤ y1.toInt ∧ y1.toInt ≤ 399 <;> by_cases h2 : 0 ≤ y2.toInt ∧ y2.toInt ≤ 1439 <;> simp [h1, h2]
