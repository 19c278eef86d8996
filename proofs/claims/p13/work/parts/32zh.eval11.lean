/-! height, the method -/
section HT
variable {so sd a1 a2 a3 a4 a5 a6 a7 a8 a9 a10 a11 a12 a13 p1 p2 p3 : Int32} {bs code ca cf ct rf many mo sf wd wi sh wo Lt vals : Nat → Int32} {s : Nat} {G : kG}
theorem hN0 {st mi w d : Int32} : f_X7_heightOf_N st mi w d p2 p3 = some 0 := by
  have hJ : ∀ t : Int32, f_X7_heightOf_N_J20 mi w d p2 t = some 0 := by
    intro t
    rw [f_X7_heightOf_N_J20, f_X11_minutesApart, nmI_o, cb1_o]
    obtain ⟨q, e, -⟩ := s_X8_comesOn d p2
    rw [e, cb1_o]
    split
    · rfl
    · split <;> rfl
  rw [f_X7_heightOf_N, f_X11_starMinute, cb1_o]
  split <;> exact hJ _
theorem hgt_none (hs : s < 10) (h2 : 0 ≤ p2.toInt ∧ p2.toInt ≤ 399) (h3 : 0 ≤ p3.toInt ∧ p3.toInt ≤ 1439) (hm : 0 ≤ (mo s).toInt ∧ (mo s).toInt ≤ 1439) (hsd : 0 ≤ sd.toInt ∧ sd.toInt ≤ 999) (hmany : many s = 0) : Sf (hOfR sd a1 a2 a3 a4 a5 a6 a7 a8 a9 a10 a11 a12 a13 bs code ca cf ct rf many mo sf wd wi wo s p2 p3) (fun z => z.1 = 0) := by
  by_cases c : C_of wd s p2 = 0
  · exact hgt_no hs h2 h3 hm (Or.inl c)
  by_cases d : wi s < A_of bs mo s p2 p3
  · exact hgt_no hs h2 h3 hm (Or.inr d)
  obtain ⟨X, hX, -⟩ := s_X7_luck sd (nI s) p2 p3
  obtain ⟨n, hn⟩ : ∃ n, FU = n + 1 := ⟨FU - 1, by have := FU_ge; omega⟩
  have j1 : jin (0 + nI s) 20 = true := by rw [show (0 : Int32) = nI 0 from nI_0.symm, nI_add]; exact jin_n (by omega) (by omega)
  have c1 : (0 + nI s).toNatClampNeg = s := by rw [show (0 : Int32) = nI 0 from nI_0.symm, nI_add, nI_clamp (by omega), Nat.zero_add]
  have c2 : (12 : Int32) * (0 + nI s) + 0 = nI (12 * s) := by rw [show (0 : Int32) = nI 0 from nI_0.symm, show (12 : Int32) = nI 12 from rfl, nI_add, pk_mul, nI_add, Nat.zero_add, Nat.add_zero]
  rw [hgt_yes hs h2 h3 hm c d hsd hX, hn, f_X12_heightOf_L95, rdI_o j1, c1, hmany, c2, if_pos (nI_le (Nat.le_refl _) (by omega))]
  exact Sf_some rfl
set_option maxHeartbeats 4000000 in
theorem height_sim (hk0 : 0 ≤ so.toInt) (hk1 : so.toInt ≤ 10) (hsd : 0 ≤ sd.toInt ∧ sd.toInt ≤ 999) (hsrc : SRC G so bs mo wi sh wd) (hT : TX G code ca cf ct sf many) (hL : LtS Lt) :
    Sf (f_X11_height G so sd Lt vals p1 p2 p3) (fun y => LtS y.2.1 ∧ Sf (f_X12_height so sd a1 a2 a3 a4 a5 a6 a7 a8 a9 a10 a11 a12 a13 bs code ca cf ct rf many mo sf wd wi wo p1 p2 p3) (fun z => y.1 = z.1)) := by
  have l0 : (0 : Int32).toInt = 0 := by decide
  obtain ⟨ri, hri, hrp⟩ := e_X12_isSource so p1 hk0 hk1
  obtain ⟨rd, hrd, hrd2⟩ := s_X12_isDay p2
  obtain ⟨rm, hrm, hrm2⟩ := s_X12_isMinute p3
  have hrp := hrp.2
  have hrd2 := hrd2.2
  have hrm2 := hrm2.2
  have hno : (ri = 0 ∨ rd = 0 ∨ rm = 0) → Sf (f_X12_height so sd a1 a2 a3 a4 a5 a6 a7 a8 a9 a10 a11 a12 a13 bs code ca cf ct rf many mo sf wd wi wo p1 p2 p3) (fun z => (-1 : Int32) = z.1) := by
    intro h
    rw [f_X12_height, hri, cb1_o]
    by_cases c1 : ri = 0
    · rw [if_pos c1]; exact Sf_some rfl
    · rw [if_neg c1, hrd, cb1_o]
      by_cases c2 : rd = 0
      · rw [if_pos c2]; exact Sf_some rfl
      · rw [if_neg c2, hrm, cb1_o, if_pos ((h.resolve_left c1).resolve_left c2)]; exact Sf_some rfl
  rw [f_X11_height]
  refine Sf_cb1 (e_X7_sourceAt G so p1 hk0 hk1) (fun r hr => ?_)
  refine Sf_oS (fun i hi => ?_) (fun h => ?_) (fun i s0 hi hi10 hs => ?_)
  · rcases hr with h | h
    · rw [h.2.2] at hi
      cases hi
      have := tN p1 h.1
      omega
    · rw [h.1] at hi; cases hi
  · refine Sf_some ⟨hL, hno (Or.inl ?_)⟩
    rcases hr with h' | h'
    · exfalso
      rcases h with h | ⟨i, hi, hn⟩
      · rw [h'.2.2] at h; cases h
      · rw [h'.2.2] at hi
        cases hi
        have := tN p1 h'.1
        obtain ⟨a, hs, -⟩ := hsrc p1.toNatClampNeg (by omega)
        rw [hs] at hn
        cases hn
    · exact i32_eq (by omega)
  · have hr1 : 0 ≤ p1.toInt ∧ p1.toInt < so.toInt ∧ i = p1.toNatClampNeg := by
      rcases hr with h | h
      · rw [h.2.2] at hi; cases hi; exact ⟨h.1, h.2.1, rfl⟩
      · rw [h.1] at hi; cases hi
    obtain ⟨b1, b2, b3⟩ := hr1
    subst b3
    have hti := tN p1 b1
    have hp1 : p1 = nI p1.toNatClampNeg := i32_eq (by rw [nI_toInt (by omega)]; omega)
    generalize p1.toNatClampNeg = s at *
    have hri0 : ¬ ri = 0 := fun w => by have := eqI w; omega
    obtain ⟨a, hsa, hbs, hmo, -⟩ := hsrc s (by omega)
    rw [hsa] at hs
    cases hs
    refine Sf_cb1 (s_X11_isDay p2) (fun r1 h1 => ?_)
    have h1 := h1.2
    refine Sf_ite (fun g => Sf_some ⟨hL, hno (Or.inr (Or.inl (i32_eq (by have := eqI g; omega))))⟩) (fun g => ?_)
    have g := neI g
    refine Sf_cb1 (s_X11_isMinute p3) (fun r2 h2 => ?_)
    have h2 := h2.2
    refine Sf_ite (fun g2 => Sf_some ⟨hL, hno (Or.inr (Or.inr (i32_eq (by have := eqI g2; omega))))⟩) (fun g2 => ?_)
    have g2 := neI g2
    have hd : 0 ≤ p2.toInt ∧ p2.toInt ≤ 399 := by omega
    have hmn : 0 ≤ p3.toInt ∧ p3.toInt ≤ 1439 := by omega
    have hrd0 : ¬ rd = 0 := fun w => by have := eqI w; omega
    have hrm0 : ¬ rm = 0 := fun w => by have := eqI w; omega
    subst hp1
    have hyes : ∀ q : Int32, Sf (hOfR sd a1 a2 a3 a4 a5 a6 a7 a8 a9 a10 a11 a12 a13 bs code ca cf ct rf many mo sf wd wi wo s p2 p3) (fun z => z.1 = q) → Sf (f_X12_height so sd a1 a2 a3 a4 a5 a6 a7 a8 a9 a10 a11 a12 a13 bs code ca cf ct rf many mo sf wd wi wo (nI s) p2 p3) (fun z => q = z.1) := by
      intro q hq
      rw [f_X12_height, hri, cb1_o, if_neg hri0, hrd, cb1_o, if_neg hrd0, hrm, cb1_o, if_neg hrm0]
      exact Sf_cb16 hq (fun c1 c2 c3 c4 c5 c6 c7 c8 c9 c10 c11 c12 c13 c14 c15 c16 hc => Sf_some (show q = c1 from hc.symm))
    rcases hT s (by omega) with ⟨t1, t2⟩ | ⟨x, c, t1, t2, t3⟩
    · refine Sf_oT (fun i hi => by cases hi; omega) (fun _ => ?_) (fun i t hi _ ht => ?_)
      · rw [hN0, cb1_o]
        exact Sf_some ⟨hL, hyes 0 (hgt_none (by omega) hd hmn hmo hsd t2)⟩
      · cases hi; rw [t1] at ht; cases ht
    · refine Sf_oT (fun i hi => by cases hi; omega) (fun h => ?_) (fun i t hi _ ht => ?_)
      · exfalso
        rcases h with h | ⟨i, hi, hn⟩
        · cases h
        · cases hi; rw [t1] at hn; cases hn
      · cases hi
        rw [t1] at ht
        cases ht
        have hR : TXR 1 x.2 code ca cf ct sf s c := by
          rcases t3 with w | w | w
          · exact w.2
          · exact absurd w.1 (by omega)
          · exact absurd w.1 (by omega)
        refine Sf_cb3 (hgt_sim (a1 := a1) (a2 := a2) (a3 := a3) (a4 := a4) (a5 := a5) (a6 := a6) (a7 := a7) (a8 := a8) (a9 := a9) (a10 := a10) (a11 := a11) (a12 := a12) (a13 := a13) (rf := rf) (wo := wo) (bs := bs) (mo := mo) (wi := wi) (wd := wd) (by omega) hd hmn hmo hsd hR t2 hL) (fun q1 q2 q3 hq => Sf_some ⟨hq.1, hyes q1 hq.2⟩)
end HT
