/-! passed, the method -/
section PX
variable {G : kG} {so sd rd dy p1 p2 p3 p4 p5 ph ps a1 a2 a3 a4 a5 a6 a7 a8 a9 a10 a11 a12 a13 : Int32} {bs mo wi sh wd code ca cf ct sf many rf wo he hi sp mk pL pv Lt vals fi gr la hA sA rm0 : Nat → Int32}
set_option maxHeartbeats 4000000 in
theorem passed_sim (hk0 : 0 ≤ so.toInt) (hk1 : so.toInt ≤ 10) (hsd : 0 ≤ sd.toInt ∧ sd.toInt ≤ 999) (hsrc : SRC G so bs mo wi sh wd) (hT : TX G code ca cf ct sf many) (hL : LtS Lt) (hP : PGo G so sd bs mo wi sh wd dy he hi sp) (hM : PMo G rd dy he sp mk) (hLP : LtP pL) :
    Sf (f_X11_passed G rd dy so sd he hi mk sp pL pv Lt vals p1 p2 p3 p4 p5) (fun y => (PGo G so sd bs mo wi sh wd y.2.2.1 y.2.2.2.1 y.2.2.2.2.1 y.2.2.2.2.2.2.1 ∧ PMo G y.2.1 y.2.2.1 y.2.2.2.1 y.2.2.2.2.2.2.1 y.2.2.2.2.2.1 ∧ LtP y.2.2.2.2.2.2.2.1) ∧ Sf (f_X12_passed so sd a1 a2 a3 a4 a5 a6 a7 a8 a9 a10 a11 a12 a13 ph ps bs code ca cf ct fi gr hA rf la many rm0 mo sh sA sf wd wi wo p1 p2 p3 p4 p5) (fun z => y.1 = z.1)) := by
  have l0 : (0 : Int32).toInt = 0 := by decide
  have l1 : (1 : Int32).toInt = 1 := by decide
  have l2 : (2 : Int32).toInt = 2 := by decide
  have l29 : (29 : Int32).toInt = 29 := by decide
  have l30 : (30 : Int32).toInt = 30 := by decide
  have L2 : (2 : Int64).toInt = 2 := by decide
  obtain ⟨r1, e1, h1⟩ := s_X12_isReader p1
  obtain ⟨r2, e2, h2⟩ := s_X12_isReader p2
  obtain ⟨r3, e3, h3⟩ := s_X12_isDay p3
  obtain ⟨r4, e4, h4⟩ := s_X12_isDay p4
  obtain ⟨r5, e5, h5⟩ := s_X12_lies (Int32.toInt64 p4) (Int32.toInt64 p3) (Int32.toInt64 (p3 + 29))
  obtain ⟨r6, e6, h6⟩ := s_X12_lies (Int32.toInt64 p5) 0 2
  have h1 := h1.2
  have h2 := h2.2
  have h3 := h3.2
  have h4 := h4.2
  have h5 := h5.2
  have h6 := h6.2
  rw [t64, t64, t64] at h5
  rw [t64, i64_0, L2] at h6
  have hno : (r1 = 0 ∨ r2 = 0 ∨ r3 = 0 ∨ r4 = 0 ∨ r5 = 0 ∨ r6 = 0) → Sf (f_X12_passed so sd a1 a2 a3 a4 a5 a6 a7 a8 a9 a10 a11 a12 a13 ph ps bs code ca cf ct fi gr hA rf la many rm0 mo sh sA sf wd wi wo p1 p2 p3 p4 p5) (fun z => (-1 : Int32) = z.1) := by
    intro h
    rw [f_X12_passed, e1, cb1_o]
    refine Sf_ite (fun _ => Sf_some rfl) (fun c1 => ?_)
    rw [e2, cb1_o]
    refine Sf_ite (fun _ => Sf_some rfl) (fun c2 => ?_)
    rw [e3, cb1_o]
    refine Sf_ite (fun _ => Sf_some rfl) (fun c3 => ?_)
    rw [e4, cb1_o]
    refine Sf_ite (fun _ => Sf_some rfl) (fun c4 => ?_)
    rw [e5, cb1_o]
    refine Sf_ite (fun _ => Sf_some rfl) (fun c5 => ?_)
    rw [e6, cb1_o]
    refine Sf_ite (fun _ => Sf_some rfl) (fun c6 => ?_)
    exfalso
    rcases h with h | h | h | h | h | h
    · exact c1 h
    · exact c2 h
    · exact c3 h
    · exact c4 h
    · exact c5 h
    · exact c6 h
  have hJ0 : (r1 = 0 ∨ r2 = 0 ∨ r3 = 0 ∨ r4 = 0 ∨ r5 = 0 ∨ r6 = 0) → Sf (f_X11_passed_J44 rd dy so sd he hi mk sp pL pv Lt vals p1 p2 p3 p4 p5 G 0) (fun y => (PGo G so sd bs mo wi sh wd y.2.2.1 y.2.2.2.1 y.2.2.2.2.1 y.2.2.2.2.2.2.1 ∧ PMo G y.2.1 y.2.2.1 y.2.2.2.1 y.2.2.2.2.2.2.1 y.2.2.2.2.2.1 ∧ LtP y.2.2.2.2.2.2.2.1) ∧ Sf (f_X12_passed so sd a1 a2 a3 a4 a5 a6 a7 a8 a9 a10 a11 a12 a13 ph ps bs code ca cf ct fi gr hA rf la many rm0 mo sh sA sf wd wi wo p1 p2 p3 p4 p5) (fun z => y.1 = z.1)) := by
    intro h
    rw [f_X11_passed_J44, if_pos rfl]
    exact Sf_some ⟨⟨hP, hM, hLP⟩, hno h⟩
  rw [f_X11_passed]
  refine Sf_cb1 (s_X11_isReader p1) (fun q1 g1 => ?_)
  have g1 := g1.2
  refine Sf_ite (fun g => hJ0 (Or.inl (i32_eq (by have := eqI g; omega)))) (fun w1 => ?_)
  have w1 := neI w1
  refine Sf_cb1 (s_X11_isReader p2) (fun q2 g2 => ?_)
  have g2 := g2.2
  refine Sf_ite (fun g => hJ0 (Or.inr (Or.inl (i32_eq (by have := eqI g; omega))))) (fun w2 => ?_)
  have w2 := neI w2
  refine Sf_cb1 (s_X11_isDay p3) (fun q3 g3 => ?_)
  have g3 := g3.2
  refine Sf_ite (fun g => hJ0 (Or.inr (Or.inr (Or.inl (i32_eq (by have := eqI g; omega)))))) (fun w3 => ?_)
  have w3 := neI w3
  refine Sf_cb1 (s_X11_isDay p4) (fun q4 g4 => ?_)
  have g4 := g4.2
  refine Sf_ite (fun g => hJ0 (Or.inr (Or.inr (Or.inr (Or.inl (i32_eq (by have := eqI g; omega))))))) (fun w4 => ?_)
  have w4 := neI w4
  refine Sf_cb1 (s_X11_isWithin p5 0 2) (fun q5 g5 => ?_)
  have g5 := g5.2
  refine Sf_ite (fun g => hJ0 (Or.inr (Or.inr (Or.inr (Or.inr (Or.inr (i32_eq (by have := eqI g; omega)))))))) (fun w5 => ?_)
  have w5 := neI w5
  have a29 := adX p3 29 (by omega) (by omega)
  have s43 := sbX p4 p3 (by omega) (by omega)
  rw [f_X11_passed_J44, if_neg (by decide)]
  refine Sf_ite (fun c => Sf_some ⟨⟨hP, hM, hLP⟩, hno (Or.inr (Or.inr (Or.inr (Or.inr (Or.inl (i32_eq (by have := ltI c; omega)))))))⟩) (fun c => ?_)
  have c := nltI c
  refine Sf_ite (fun c2 => ?_) (fun c2 => Sf_some ⟨⟨hP, hM, hLP⟩, hno (Or.inr (Or.inr (Or.inr (Or.inr (Or.inl (i32_eq (by have := nltI c2; omega)))))))⟩)
  have c2 := ltI c2
  have n1 : ¬ r1 = 0 := fun v => by have := eqI v; omega
  have n2 : ¬ r2 = 0 := fun v => by have := eqI v; omega
  have n3 : ¬ r3 = 0 := fun v => by have := eqI v; omega
  have n4 : ¬ r4 = 0 := fun v => by have := eqI v; omega
  have n5 : ¬ r5 = 0 := fun v => by have := eqI v; omega
  have n6 : ¬ r6 = 0 := fun v => by have := eqI v; omega
  have k4 : p4.toInt ≤ 399 := by omega
  have k5 : 0 ≤ p5.toInt := by omega
  have k30 : 0 ≤ p3.toInt := by omega
  have t1 := tN p1 (by omega)
  have t2 := tN p2 (by omega)
  have hp1 : p1 = nI p1.toNatClampNeg := i32_eq (by rw [nI_toInt (by omega)]; omega)
  have hp2 : p2 = nI p2.toNatClampNeg := i32_eq (by rw [nI_toInt (by omega)]; omega)
  have hx1 : p1.toNatClampNeg < 4 := by omega
  have hx2 : p2.toNatClampNeg < 4 := by omega
  obtain ⟨r, hr⟩ : ∃ r : Nat, p3.toInt + r = p4.toInt + 1 := ⟨(p4.toInt + 1 - p3.toInt).toNat, by omega⟩
  have hr30 : r ≤ 30 := by omega
  obtain ⟨q, hq⟩ : ∃ q, FU = q + r + 1 := ⟨FU - r - 1, by have := FU_ge; omega⟩
  have hR : f_X12_passed so sd a1 a2 a3 a4 a5 a6 a7 a8 a9 a10 a11 a12 a13 ph ps bs code ca cf ct fi gr hA rf la many rm0 mo sh sA sf wd wi wo p1 p2 p3 p4 p5 = f_X12_passed_L72 so sd bs code ca cf ct many mo sh sf wd wi p1 p2 p4 (f_X12_passed_J164 p5) FU 0 (-1) (-1) p3 a1 a2 a3 a4 a5 a6 a7 a8 a9 a10 a11 a12 a13 ph ps fi gr hA rf la rm0 sA wo := by
    rw [f_X12_passed, e1, cb1_o, if_neg n1, e2, cb1_o, if_neg n2, e3, cb1_o, if_neg n3, e4, cb1_o, if_neg n4, e5, cb1_o, if_neg n5, e6, cb1_o, if_neg n6]
  rw [hR]
  clear hno hJ0 hR e1 e2
  generalize p1.toNatClampNeg = k1 at *
  generalize p2.toNatClampNeg = k3 at *
  subst hp1
  subst hp2
  have h := pass_L (p5 := p5) hk0 hk1 hsd hsrc hT hx1 hx2 k4 k5 r q q 0 p3 (-1) (-1) dy rd he hi mk pL pv sp Lt vals k30 hr (by omega) (fun _ => ⟨rfl, rfl, rfl⟩) hL hLP hP hM
  rw [nI_0, ← hq] at h
  exact Sf_mono h (fun y hy => ⟨hy.1, hy.2 a1 a2 a3 a4 a5 a6 a7 a8 a9 a10 a11 a12 a13 ph ps fi gr hA rf la rm0 sA wo⟩)
end PX
