/-! paper, on both sides -/
section PR
variable {G : kG} {so sd rd dy y1 y2 y3 ph ps a1 a2 a3 a4 a5 a6 a7 a8 a9 a10 a11 a12 a13 : Int32} {bs mo wi sh wd code ca cf ct sf many rf wo he hi sp Lt vals : Nat → Int32}
set_option maxHeartbeats 4000000 in
theorem paper_sim (hk0 : 0 ≤ so.toInt) (hk1 : so.toInt ≤ 10) (hsd : 0 ≤ sd.toInt ∧ sd.toInt ≤ 999) (hsrc : SRC G so bs mo wi sh wd) (hT : TX G code ca cf ct sf many) (hL : LtS Lt) (hP : PGo G so sd bs mo wi sh wd dy he hi sp) :
    Sf (f_X11_paper G rd dy so sd he hi sp Lt vals y1 y2 y3) (fun y => PGo G so sd bs mo wi sh wd y.2.2.1 y.2.2.2.1 y.2.2.2.2.1 y.2.2.2.2.2.1 ∧ Sf (f_X12_paper so sd a1 a2 a3 a4 a5 a6 a7 a8 a9 a10 a11 a12 a13 ph ps bs code ca cf ct rf many mo sh sf wd wi wo y1 y2 y3) (fun z => y.1 = z.1)) := by
  have l0 : (0 : Int32).toInt = 0 := by decide
  obtain ⟨r1, e1, h1⟩ := s_X12_isDay y1
  obtain ⟨r2, e2, h2⟩ := s_X12_isMinute y2
  obtain ⟨r3, e3, e3'⟩ := lies01 (y := y3)
  have h1 := h1.2
  have h2 := h2.2
  have hno : (r1 = 0 ∨ r2 = 0 ∨ r3 = 0) → Sf (f_X12_paper so sd a1 a2 a3 a4 a5 a6 a7 a8 a9 a10 a11 a12 a13 ph ps bs code ca cf ct rf many mo sh sf wd wi wo y1 y2 y3) (fun z => (-1 : Int32) = z.1) := by
    intro h
    rw [f_X12_paper, e1, cb1_o]
    by_cases c1 : r1 = 0
    · rw [if_pos c1]; exact Sf_some rfl
    · rw [if_neg c1, e2, cb1_o]
      by_cases c2 : r2 = 0
      · rw [if_pos c2]; exact Sf_some rfl
      · rw [if_neg c2, e3', cb1_o, if_pos ((h.resolve_left c1).resolve_left c2)]; exact Sf_some rfl
  rw [f_X11_paper]
  refine Sf_cb1 (s_X11_isDay y1) (fun q1 g1 => ?_)
  have g1 := g1.2
  refine Sf_ite (fun g => Sf_some ⟨hP, hno (Or.inl (i32_eq (by have := eqI g; omega)))⟩) (fun g => ?_)
  have g := neI g
  refine Sf_cb1 (s_X11_isMinute y2) (fun q2 g2 => ?_)
  have g2 := g2.2
  refine Sf_ite (fun k => Sf_some ⟨hP, hno (Or.inr (Or.inl (i32_eq (by have := eqI k; omega))))⟩) (fun k => ?_)
  have k := neI k
  rw [e3, cb1_o]
  refine Sf_ite (fun k3 => Sf_some ⟨hP, hno (Or.inr (Or.inr k3))⟩) (fun k3 => ?_)
  have hd : 0 ≤ y1.toInt ∧ y1.toInt ≤ 399 := by omega
  have hm : 0 ≤ y2.toInt ∧ y2.toInt ≤ 1439 := by omega
  have n1 : ¬ r1 = 0 := fun w => by have := eqI w; omega
  have n2 : ¬ r2 = 0 := fun w => by have := eqI w; omega
  have tm := tN y2 hm.1
  have hy2 : y2 = nI y2.toNatClampNeg := i32_eq (by rw [nI_toInt (by omega)]; omega)
  generalize y2.toNatClampNeg = m at *
  subst hy2
  have hm2 : m < 1440 := by omega
  obtain ⟨n, HH, hn, hk, hH, hlay⟩ := lay_pg (rd := rd) (vals := vals) (d := y1) hk0 hk1 hsd hsrc hT hd hL hP
  obtain ⟨z, ez, hz1, hz2⟩ := looks_e (a1 := a1) (a2 := a2) (a3 := a3) (a4 := a4) (a5 := a5) (a6 := a6) (a7 := a7) (a8 := a8) (a9 := a9) (a10 := a10) (a11 := a11) (a12 := a12) (a13 := a13) (ph := ph) (ps := ps) (rf := rf) (wo := wo) (sh := sh) hn hk hm2 hH
  obtain ⟨z1, z2, z3, z4, z5, z6, z7, z8, z9, z10, z11, z12, z13, z14, z15, z16, z17⟩ := z
  have hz1 : z14 = (pSum (fun s => HH s m) sh n).1 := hz1
  have hz2 : z15 = (pSum (fun s => HH s m) sh n).2.2 := hz2
  have hR : f_X12_paper so sd a1 a2 a3 a4 a5 a6 a7 a8 a9 a10 a11 a12 a13 ph ps bs code ca cf ct rf many mo sh sf wd wi wo y1 (nI m) y3 = if y3 = 0 then some (z14, z1, z2, z3, z4, z5, z6, z7, z8, z9, z10, z11, z12, z13, z14, z15, z16, z17) else some (z15, z1, z2, z3, z4, z5, z6, z7, z8, z9, z10, z11, z12, z13, z14, z15, z16, z17) := by
    rw [f_X12_paper, e1, cb1_o, if_neg n1, e2, cb1_o, if_neg n2, e3', cb1_o, if_neg k3, ez, cb17_o]
  refine Sf_cb7 hlay (fun b1 b2 b3 b4 b5 b6 b7 hb => ?_)
  obtain ⟨hb1, hb2, hb3, hb4, -⟩ := hb
  have hb1 : b2 = y1 := hb1
  subst hb1
  have hpg := hb3 m hm2
  have hpg : (b3 m, b4 m, b5 m) = pSum (fun s => HH s m) sh n := hpg
  rw [hR]
  refine Sf_ite (fun c => ?_) (fun c => ?_)
  · rw [rdI_o (jin_n hm2 (by omega)), nI_clamp (by omega)]
    refine Sf_some ⟨hb4, ?_⟩
    rw [if_pos c]
    exact Sf_some (show b3 m = z14 by rw [hz1, ← hpg])
  · rw [rdI_o (jin_n hm2 (by omega)), nI_clamp (by omega)]
    refine Sf_some ⟨hb4, ?_⟩
    rw [if_neg c]
    exact Sf_some (show b5 m = z15 by rw [hz2, ← hpg])
end PR
