/-! what is counted -/
theorem TX_S {G G' : kG} {q : Option (Nat × Int32 × Int32 × Int32 × Int32 × Int32 × Int32)} {code ca cf ct sf many : Nat → Int32} (h : TX G code ca cf ct sf many) (hG : kGS G q G') : TX G' code ca cf ct sf many := by
  have e : G'.2 = G.2 := by
    cases q with
    | none => have e : G' = G := hG; rw [e]
    | some q => obtain ⟨a, e⟩ := hG; rw [e]; rfl
  intro s hs
  rw [e]
  exact h s hs
theorem TX_cnt {G : kG} {s : Nat} {code ca cf ct sf many : Nat → Int32} (h : TX G code ca cf ct sf many) (hs : s < 20) : oT G (some s) (cb1 (f_X11_clausesOf_N) fun r => some r) (fun _ t => cb1 (f_X11_clausesOf (t.2.1)) fun r => some r) = some (many s) := by
  show (if s < 20 then (match G.2 s with | none => (cb1 (f_X11_clausesOf_N) fun r => some r) | some t => (cb1 (f_X11_clausesOf (t.2.1)) fun r => some r)) else none) = _
  rw [if_pos hs]
  rcases h s hs with ⟨g1, g2⟩ | ⟨x, c, g1, g2, g3⟩
  · rw [g1, g2]
    rfl
  · rw [g1, g2]
    have e : x.2.1 = nI c := by
      rcases g3 with g | g | g
      · exact g.2.1
      · exact g.2.2.1
      · exact g.2.1
    show cb1 (f_X11_clausesOf (x.2.1)) _ = _
    rw [f_X11_clausesOf, cb1_o, e]
set_option maxHeartbeats 4000000 in
theorem count_sim {G : kG} {so no bl ni sd tp p1 : Int32} {code ca cf ct sf many : Nat → Int32} (hk0 : 0 ≤ so.toInt) (hk1 : so.toInt ≤ 10) (hG : ∀ i : Nat, (i : Int) < so.toInt → ∃ s, G.1 i = some s) (hT : TX G code ca cf ct sf many) : Sf (f_X11_count G bl ni no so sd tp p1) (fun y => f_X12_count tp so sd no bl ni many p1 = some y) := by
  have z : (0 : Int32).toInt = 0 := by decide
  have l1 : (1 : Int32).toInt = 1 := by decide
  have l10 : (10 : Int32).toInt = 10 := by decide
  have l14 : (14 : Int32).toInt = 14 := by decide
  have l20 : (20 : Int32).toInt = 20 := by decide
  have l23 : (23 : Int32).toInt = 23 := by decide
  have l30 : (30 : Int32).toInt = 30 := by decide
  have l35 : (35 : Int32).toInt = 35 := by decide
  have rg := rgI p1
  obtain ⟨r1, e1, h1⟩ := e_X12_isSource so (p1 - 10) hk0 hk1
  obtain ⟨r2, e2, h2⟩ := s_X12_isReader (p1 - 20)
  obtain ⟨r3, e3, h3⟩ := s_X12_isTale (p1 - 30)
  have h1 := h1.2
  have h2 := h2.2
  have h3 := h3.2
  have hR : f_X12_count tp so sd no bl ni many p1 = if r1 = 0 then (if r2 = 0 then (if r3 = 0 then (if p1 = 0 then some so else if p1 = 1 then some no else if p1 = 2 then some bl else if p1 = 3 then some ni else if p1 = 4 then some sd else if p1 = 5 then some tp else some (-1)) else rdI many 20 ((14 + p1) - 30) fun v => some v) else rdI many 20 ((10 + p1) - 20) fun v => some v) else rdI many 20 ((0 + p1) - 10) fun v => some v := by
    rw [f_X12_count, e1, cb1_o, e2, cb1_o, e3, cb1_o]
  have hA : (r1.toInt = 1 ∧ 10 ≤ p1.toInt ∧ p1.toInt < 10 + so.toInt ∧ (p1 - 10).toInt = p1.toInt - 10) ∨ (r1.toInt = 0 ∧ (p1.toInt < 10 ∨ 10 + so.toInt ≤ p1.toInt)) := by
    rcases h1 with ⟨a, b, c⟩ | ⟨a, b⟩
    · have := back_e (p := p1) 10 l10 (by omega) (by omega) (by omega) (by omega)
      omega
    · right
      refine ⟨a, ?_⟩
      by_cases w : 10 ≤ p1.toInt
      · have := sbN p1 10 10 l10 (by omega) (by omega)
        omega
      · omega
  have hB : (r2.toInt = 1 ∧ 20 ≤ p1.toInt ∧ p1.toInt ≤ 23 ∧ (p1 - 20).toInt = p1.toInt - 20) ∨ (r2.toInt = 0 ∧ (p1.toInt < 20 ∨ 23 < p1.toInt)) := by
    rcases h2 with ⟨a, b, c⟩ | ⟨a, b⟩
    · have := back_e (p := p1) 20 l20 (by omega) (by omega) (by omega) (by omega)
      omega
    · right
      refine ⟨a, ?_⟩
      by_cases w : 20 ≤ p1.toInt
      · have := sbN p1 20 20 l20 (by omega) (by omega)
        omega
      · omega
  have hC : (r3.toInt = 1 ∧ 30 ≤ p1.toInt ∧ p1.toInt ≤ 35 ∧ (p1 - 30).toInt = p1.toInt - 30) ∨ (r3.toInt = 0 ∧ (p1.toInt < 30 ∨ 35 < p1.toInt)) := by
    rcases h3 with ⟨a, b, c⟩ | ⟨a, b⟩
    · have := back_e (p := p1) 30 l30 (by omega) (by omega) (by omega) (by omega)
      omega
    · right
      refine ⟨a, ?_⟩
      by_cases w : 30 ≤ p1.toInt
      · have := sbN p1 30 30 l30 (by omega) (by omega)
        omega
      · omega
  have hsmall : ((p1.toInt < 10 ∨ 10 + so.toInt ≤ p1.toInt) ∧ (p1.toInt < 20 ∨ 23 < p1.toInt) ∧ (p1.toInt < 30 ∨ 35 < p1.toInt)) → f_X12_count tp so sd no bl ni many p1 = (if p1 = 0 then some so else if p1 = 1 then some no else if p1 = 2 then some bl else if p1 = 3 then some ni else if p1 = 4 then some sd else if p1 = 5 then some tp else some (-1)) := by
    intro h
    rw [hR, if_pos (i32_eq (by omega)), if_pos (i32_eq (by omega)), if_pos (i32_eq (by omega))]
  have hs2 : p1.toInt < 10 → ((p1.toInt < 10 ∨ 10 + so.toInt ≤ p1.toInt) ∧ (p1.toInt < 20 ∨ 23 < p1.toInt) ∧ (p1.toInt < 30 ∨ 35 < p1.toInt)) := fun h => by omega
  rw [f_X11_count]
  refine Sf_ite (fun c => Sf_some ?_) (fun c0 => Sf_ite (fun c => Sf_some ?_) (fun c1 => Sf_ite (fun c => Sf_some ?_) (fun c2 => Sf_ite (fun c => Sf_some ?_) (fun c3 => Sf_ite (fun c => Sf_some ?_) (fun c4 => Sf_ite (fun c => Sf_some ?_) (fun c5 => ?_))))))
  · rw [hsmall (hs2 (by rw [c]; decide)), if_pos c]
  · rw [hsmall (hs2 (by rw [c]; decide)), if_neg c0, if_pos c]
  · rw [hsmall (hs2 (by rw [c]; decide)), if_neg c0, if_neg c1, if_pos c]
  · rw [hsmall (hs2 (by rw [c]; decide)), if_neg c0, if_neg c1, if_neg c2, if_pos c]
  · rw [hsmall (hs2 (by rw [c]; decide)), if_neg c0, if_neg c1, if_neg c2, if_neg c3, if_pos c]
  · rw [hsmall (hs2 (by rw [c]; decide)), if_neg c0, if_neg c1, if_neg c2, if_neg c3, if_neg c4, if_pos c]
  refine Sf_cb1 (R := fun y => f_X12_count tp so sd no bl ni many p1 = some y) ?_ (fun r h => Sf_some h)
  rw [f_X11_textCount]
  have a1 := adX 10 so (by omega) (by omega)
  have a2 := sbX (10 + so) 1 (by omega) (by omega)
  refine Sf_cb1 (s_X11_isWithin p1 10 ((10 + so) - 1)) (fun q hq => ?_)
  have hq := hq.2
  refine Sf_ite (fun g => ?_) (fun g => ?_)
  · have g := eqI g
    refine Sf_cb1 (s_X11_isWithin p1 20 23) (fun q2 hq2 => ?_)
    have hq2 := hq2.2
    refine Sf_ite (fun g2 => ?_) (fun g2 => ?_)
    · have g2 := eqI g2
      refine Sf_cb1 (s_X11_isWithin p1 30 35) (fun q3 hq3 => ?_)
      have hq3 := hq3.2
      refine Sf_ite (fun g3 => Sf_some ?_) (fun g3 => ?_)
      · have g3 := eqI g3
        rw [hsmall (by omega), if_neg c0, if_neg c1, if_neg c2, if_neg c3, if_neg c4, if_neg c5]
      · have g3 := neI g3
        have hc := hC.resolve_right (fun w => by omega)
        have ht := tN (p1 - 30) (by omega)
        refine Sf_gdN (by omega) (by omega) ?_
        have hx : (14 + p1) - 30 = nI (14 + (p1 - 30).toNatClampNeg) := i32_eq (by
          have b1 := adX 14 p1 (by omega) (by omega)
          have b2 := sbX (14 + p1) 30 (by omega) (by omega)
          rw [nI_toInt (by omega)]; omega)
        rw [TX_cnt hT (by omega)]
        refine Sf_some ?_
        rw [hR, if_pos (i32_eq (by omega)), if_pos (i32_eq (by omega)), if_neg (fun w => by have := eqI w; omega), hx, rdI_o (jin_n (by omega) (by omega)), nI_clamp (by omega)]
    · have g2 := neI g2
      have hc := hB.resolve_right (fun w => by omega)
      have ht := tN (p1 - 20) (by omega)
      refine Sf_gdN (by omega) (by omega) ?_
      have hx : (10 + p1) - 20 = nI (10 + (p1 - 20).toNatClampNeg) := i32_eq (by
        have b1 := adX 10 p1 (by omega) (by omega)
        have b2 := sbX (10 + p1) 20 (by omega) (by omega)
        rw [nI_toInt (by omega)]; omega)
      rw [TX_cnt hT (by omega)]
      refine Sf_some ?_
      rw [hR, if_pos (i32_eq (by omega)), if_neg (fun w => by have := eqI w; omega), hx, rdI_o (jin_n (by omega) (by omega)), nI_clamp (by omega)]
  · have g := neI g
    have hc := hA.resolve_right (fun w => by omega)
    have ht := tN (p1 - 10) (by omega)
    have hx : (0 + p1) - 10 = nI (p1 - 10).toNatClampNeg := i32_eq (by
      have b1 := adX 0 p1 (by omega) (by omega)
      have b2 := sbX (0 + p1) 10 (by omega) (by omega)
      rw [nI_toInt (by omega)]; omega)
    refine Sf_cb1 (e_X7_sourceAt G so (p1 - 10) hk0 hk1) (fun q4 hq4 => ?_)
    have hq5 : q4 = some (p1 - 10).toNatClampNeg := by
      rcases hq4 with w | w
      · exact w.2.2
      · exfalso; have := w.2; omega
    subst hq5
    refine Sf_oS (fun i hi => ?_) (fun h => ?_) (fun i s0 hi hi10 hs => ?_)
    · cases hi; omega
    · exfalso
      rcases h with h | ⟨i, hi, hn⟩
      · cases h
      · cases hi
        obtain ⟨s, hs⟩ := hG (p1 - 10).toNatClampNeg (by omega)
        rw [hs] at hn
        cases hn
    · cases hi
      rw [TX_cnt hT (by omega)]
      refine Sf_some ?_
      rw [hR, if_neg (fun w => by have := eqI w; omega), hx, rdI_o (jin_n (by omega) (by omega)), nI_clamp (by omega)]
