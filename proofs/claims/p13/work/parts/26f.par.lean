/-- what goesBehind leaves behind -/
def GP (b : Nat) (N : Nat → Int32) (e p0 : Int32) (iso : Int32) (r p d k m iso' : Int32) (nc st : Nat → Int32) : Prop := Bd d ∧ (d = 0 → p0.toInt + 1 ≤ p.toInt ∧ PN p e k m ∧ CL m st ∧ (¬ r = 0 → 0 < m.toInt ∧ iso' = iso ∧ DP b N k.toNatClampNeg m.toNatClampNeg nc st 0) ∧ (r = 0 → DP b N k.toNatClampNeg m.toNatClampNeg nc st 1 ∧ (iso' = 0 → 0 < m.toInt) ∧ (¬ iso' = 0 → m.toInt = 0)))
theorem goes_s {b : Nat} {N : Nat → Int32} {e p k o m iso : Int32} {na nc st t : Nat → Int32} (h : CP b N e p k m nc st 1) :
    Sf (f_X12_goesBehind p e 0 k o m iso na nc st t) (fun y => GP b N e p iso y.1 y.2.1 y.2.2.1 y.2.2.2.1 y.2.2.2.2.2.1 y.2.2.2.2.2.2.1 y.2.2.2.2.2.2.2.2.1 y.2.2.2.2.2.2.2.2.2) := by
  obtain ⟨hN, hD, hC, hm⟩ := h
  have hN' := hN
  obtain ⟨n1, n2, n3, n4, n5⟩ := hN
  have h0 : 0 ≤ p.toInt := by omega
  have o1 : (1 : Int32).toInt = 1 := by decide
  have z : (0 : Int32).toInt = 0 := by decide
  have step : ∀ q : Int32, (hr p e t = 38 ∨ hr p e t = 124) → Sf (f_X12_goesBehind_J29 st (hr p e t) 0 k iso o p m na nc q) (fun y => GP b N e p iso y.1 y.2.1 y.2.2.1 y.2.2.2.1 y.2.2.2.2.2.1 y.2.2.2.2.2.2.1 y.2.2.2.2.2.2.2.2.1 y.2.2.2.2.2.2.2.2.2) := by
    intro q hc
    have hs : bin (hr p e t) = true ∧ isC (hr p e t) ∧ ¬ hr p e t = 0 := by
      unfold isC
      rcases hc with h | h <;> rw [h] <;> decide
    have hlt : p.toInt < e.toInt := hr_lt (t := t) hs.2.2
    rw [f_X12_goesBehind_J29]
    refine Sf_cb4 (joins_s hC.2 hN' hD hm) (fun k' m' na' nc' hq => ?_)
    obtain ⟨q1, q2, q3, q4, -⟩ := hq
    have q1 : PN p e k' m' := q1
    have q2 : DP b N k'.toNatClampNeg m'.toNatClampNeg nc' st 1 := q2
    have q3 : 0 < m'.toInt := q3
    have q4 : m'.toInt ≤ m.toInt := q4
    have q1' := q1
    obtain ⟨a1, a2, a3, a4, a5⟩ := q1
    rw [puts_e a2 (by omega), cb3_o]
    obtain ⟨s1, s2, s3⟩ := PN_push q1' hlt
    have t1 := tN m' a2
    have t2 := tN (m' + 1) (by omega)
    refine Sf_some (show GP b N e p iso 1 (p + 1) 0 k' (m' + 1) iso nc' (upd st m'.toNatClampNeg (hr p e t)) from bad_0 ⟨by omega, s1, CL_push (CL_less hC q4) q3 (by omega) hs.2.1, fun _ => ⟨by omega, rfl, ?_⟩, fun c => absurd c (by decide)⟩)
    exact DP_cast (DP_push q2 hs.1) rfl (by omega)
  rw [f_X12_goesBehind, here_e h0 (by omega), cb1_o]
  refine Sf_ite (fun h => ?_) (fun h => ?_)
  · rw [f_X12_goesBehind_J17, if_neg (by rw [h]; decide)]
    exact step 0 (Or.inl h)
  · refine Sf_ite (fun h2 => ?_) (fun h2 => ?_)
    · rw [f_X12_goesBehind_J17, if_pos h2]
      exact step 1 (Or.inr h2)
    · refine Sf_ite (fun h3 => ?_) (fun h3 => ?_)
      · have hlt : p.toInt < e.toInt := hr_lt (t := t) (by rw [h3]; decide)
        refine Sf_cb4 (joins_s hC.2 hN' hD hm) (fun k' m' na' nc' hq => ?_)
        obtain ⟨q1, q2, q3, q4, q5⟩ := hq
        have q1 : PN p e k' m' := q1
        have q2 : DP b N k'.toNatClampNeg m'.toNatClampNeg nc' st 1 := q2
        have q3 : 0 < m'.toInt := q3
        have q4 : m'.toInt ≤ m.toInt := q4
        have q5 : ¬ tp m' st = 38 ∧ ¬ tp m' st = 124 := q5 (by decide)
        have t1 := tN m' (by omega)
        have hb : bin (tp m' st) = false := by
          have c := hC.1 (m'.toNatClampNeg - 1) (by omega)
          rw [← tp_pos (m := m') (st := st) q3] at c
          rcases c with c | c | c | c
          · rw [c]; decide
          · rw [c]; decide
          · exact absurd c q5.1
          · exact absurd c q5.2
        obtain ⟨s1, s2⟩ := popn_s q1 q2 q3 hb
        obtain ⟨a1, a2, a3, a4, a5⟩ := q1
        have e2 := adX p 1 (by omega) (by omega)
        have hP : PN (p + 1) e k' (m' - 1) := ⟨a1, by omega, by omega, by omega, a5⟩
        rw [nmI_o, nmI_o, nmI_o]
        refine Sf_ite (fun h4 => ?_) (fun h4 => ?_)
        · have c4 := eqI h4
          rw [f_X12_goesBehind_J104]
          refine Sf_bo (by decide) ?_
          rw [if_neg (by decide)]
          exact Sf_some (show GP b N e p iso 0 (p + 1) 0 k' (m' - 1) 1 nc' st from bad_0 ⟨by omega, hP, CL_less hC (by omega), fun c => absurd rfl c, fun _ => ⟨s1, fun c => absurd c (by decide), fun _ => by omega⟩⟩)
        · have c4 := neI h4
          rw [f_X12_goesBehind_J104]
          refine Sf_bo (by decide) ?_
          rw [if_pos rfl]
          refine Sf_cb5 (ends_s hC.2 hP s1 (by omega)) (fun k3 o3 m3 na3 nc3 hq => ?_)
          obtain ⟨u1, u2, u3, u4⟩ := hq
          have u4 : m3.toInt ≤ (m' - 1).toInt := u4
          exact Sf_some (show GP b N e p iso 0 (p + 1) 0 k3 m3 0 nc3 st from bad_0 ⟨by omega, u1, CL_less hC (by omega), fun c => absurd rfl c, fun _ => ⟨u2, fun _ => u3, fun c => absurd rfl c⟩⟩)
      · refine Sf_cb1 (wrongs_s 0 1 p (by decide) (by decide) h0 (by omega)) (fun d' hd' => ?_)
        exact Sf_some (bad_lt hd')
/-- what a condition leaves behind -/
def QP (b : Nat) (N : Nat → Int32) (e p0 : Int32) (p d k m : Int32) (nc st : Nat → Int32) : Prop := Bd d ∧ (d = 0 → PN p e k m ∧ p0.toInt ≤ p.toInt ∧ m.toInt = 0 ∧ DP b N k.toNatClampNeg m.toNatClampNeg nc st 1)
theorem condition_L {b : Nat} {N : Nat → Int32} {e p0 : Int32} {t : Nat → Int32} : ∀ (n : Nat) (x d k ib iso o p m : Int32) (na nc st : Nat → Int32),
    Bd d → (d = 0 → PN p e k m ∧ CL m st ∧ p0.toInt ≤ p.toInt ∧ e.toInt - p.toInt + 1 < (n : Int) ∧ (iso = 0 → 0 < m.toInt ∧ (x = 0 → DP b N k.toNatClampNeg m.toNatClampNeg nc st 1) ∧ (¬ x = 0 → DP b N k.toNatClampNeg m.toNatClampNeg nc st 0)) ∧ (¬ iso = 0 → m.toInt = 0 ∧ DP b N k.toNatClampNeg m.toNatClampNeg nc st 1)) → 1 ≤ n →
    Sf (f_X12_condition_L37 e t n x d k ib iso o p m na nc st) (fun y => QP b N e p0 y.1 y.2.1 y.2.2.1 y.2.2.2.2.1 y.2.2.2.2.2.2.2.2.1 y.2.2.2.2.2.2.2.2.2) := by
  intro n
  induction n with
  | zero => intro x d k ib iso o p m na nc st hbd h hn; exact absurd hn (by omega)
  | succ n ih =>
    intro x d k ib iso o p m na nc st hbd h hn
    rw [f_X12_condition_L37]
    by_cases hd : d = 0
    · subst hd
      obtain ⟨hN, hC, hp, hn2, hi, hj⟩ := h rfl
      rw [isGood_0, cb1_o, if_neg (by decide)]
      refine Sf_ite (fun hiso => ?_) (fun hiso => ?_)
      · obtain ⟨hm, hx0, hx1⟩ := hi hiso
        have next : ∀ (d k ib o p' m : Int32) (na nc st : Nat → Int32), Bd d → (d = 0 → CP b N e p' k m nc st 1 ∧ p.toInt ≤ p'.toInt) →
            Sf (f_X12_condition_J59 e t x iso (f_X12_condition_L37 e t n) d k ib o p' m na nc st) (fun y => QP b N e p0 y.1 y.2.1 y.2.2.1 y.2.2.2.2.1 y.2.2.2.2.2.2.2.2.1 y.2.2.2.2.2.2.2.2.2) := by
          intro d k ib o p' m na nc st hbd hg
          rw [f_X12_condition_J59]
          have hpe : p.toInt ≤ e.toInt := hN.2.2.2.1
          by_cases hd : d = 0
          · subst hd
            obtain ⟨g1, g2⟩ := hg rfl
            rw [isGood_0, cb1_o, if_neg (by decide)]
            refine Sf_cb10 (goes_s g1) (fun r p2 d2 k2 o2 m2 iso2 na2 nc2 st2 hq => ?_)
            have hq : GP b N e p' iso r p2 d2 k2 m2 iso2 nc2 st2 := hq
            refine ih r d2 k2 ib iso2 o2 p2 m2 na2 nc2 st2 hq.1 (fun c => ?_) (by omega)
            obtain ⟨q1, q2, q3, q4, q5⟩ := hq.2 c
            refine ⟨q2, q3, by omega, by omega, fun w => ?_, fun w => ?_⟩
            · by_cases hr0 : r = 0
              · exact ⟨(q5 hr0).2.1 w, fun _ => (q5 hr0).1, fun c => absurd hr0 c⟩
              · exact ⟨(q4 hr0).1, fun c => absurd c hr0, fun _ => (q4 hr0).2.2⟩
            · by_cases hr0 : r = 0
              · exact ⟨(q5 hr0).2.2 w, (q5 hr0).1⟩
              · exact absurd ((q4 hr0).2.1.trans hiso) w
          · rw [isGood_n hd, cb1_o, if_pos rfl]
            exact ih x d k ib iso o p' m na nc st hbd (fun c => absurd c hd) (by omega)
        refine Sf_ite (fun hx => ?_) (fun hx => ?_)
        · exact next 0 k ib o p m na nc st (Or.inl rfl) (fun _ => ⟨⟨hN, hx0 hx, hC, hm⟩, Int.le_refl _⟩)
        · refine Sf_cb9 (piece_s ⟨hN, hx1 hx, hC, hm⟩) (fun p2 d2 k2 o2 m2 ib2 na2 nc2 st2 hq => ?_)
          have hq : Bd d2 ∧ (d2 = 0 → CP b N e p2 k2 m2 nc2 st2 1 ∧ p.toInt + 1 ≤ p2.toInt) := hq
          exact next d2 k2 ib2 o2 p2 m2 na2 nc2 st2 hq.1 (fun c => ⟨(hq.2 c).1, by have := (hq.2 c).2; omega⟩)
      · obtain ⟨j1, j2⟩ := hj hiso
        exact Sf_some (show QP b N e p0 p 0 k m nc st from bad_0 ⟨hN, hp, j1, j2⟩)
    · rw [isGood_n hd, cb1_o, if_pos rfl]
      exact Sf_some (bad_n hbd hd)
theorem condition_s {b : Nat} {N : Nat → Int32} {e p k o m iso ib : Int32} {na nc st t : Nat → Int32} (hN : PN p e k m) (hm : m.toInt = 0) (hD : DP b N k.toNatClampNeg m.toNatClampNeg nc st 0) :
    Sf (f_X12_condition p e 0 k o m iso ib na nc st t) (fun y => QP b N e p y.1 y.2.1 y.2.2.1 y.2.2.2.2.1 y.2.2.2.2.2.2.2.2.1 y.2.2.2.2.2.2.2.2.2) := by
  have := FUi
  have hN' := hN
  obtain ⟨n1, n2, n3, n4, n5⟩ := hN
  have h0 : 0 ≤ p.toInt := by omega
  rw [f_X12_condition, here_e h0 (by omega), cb1_o]
  refine Sf_ite (fun h => ?_) (fun h => ?_)
  · have hlt : p.toInt < e.toInt := hr_lt (t := t) (by rw [h]; decide)
    rw [f_X12_condition_J23, isGood_0, cb1_o, if_neg (by decide)]
    refine Sf_cb5 (opens_s h0 n5 (by omega) n2 (by omega)) (fun p' d' o' m' st' hq => ?_)
    obtain ⟨q1, q2, q3, q0⟩ := hq
    have q0 : Bd d' := q0
    have q1 : p' = p + 1 := q1
    have q2 : m' = m + 1 := q2
    have q3 : st' = upd st m.toNatClampNeg (hr p e t) := q3
    subst q1; subst q2; subst q3
    obtain ⟨s1, s2, s3⟩ := PN_push hN' hlt
    have t1 := tN m n2
    have t2 := tN (m + 1) (by omega)
    have em : m.toNatClampNeg = 0 := by omega
    have hC : CL (m + 1) (upd st m.toNatClampNeg (hr p e t)) := by
      have e0 : upd st m.toNatClampNeg (hr p e t) 0 = 40 := by unfold upd; rw [if_pos em.symm]; exact h
      refine ⟨fun i hi => ?_, e0⟩
      have : i = 0 := by omega
      rw [this, e0]
      exact Or.inl rfl
    refine condition_L (p0 := p) FU 1 d' k ib 0 o' (p + 1) (m + 1) na nc _ q0 (fun _ => ⟨s1, hC, by omega, by omega, fun _ => ⟨by omega, fun c => absurd c (by decide), fun _ => ?_⟩, fun c => absurd rfl c⟩) (by omega)
    exact DP_cast (DP_pushn hD (by rw [h]; decide)) rfl (by omega)
  · refine Sf_cb1 (wrongs_s 0 1 p (by decide) (by decide) h0 (by omega)) (fun d' hd' => ?_)
    rw [f_X12_condition_J23, isGood_n (ne_lt hd'), cb1_o, if_pos rfl]
    exact Sf_some (bad_lt hd')
