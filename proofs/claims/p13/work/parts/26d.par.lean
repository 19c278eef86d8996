theorem isA_V {x : Int32} (h : isA x) : isV x := by
  rcases h with h | h | h | h | h
  · exact Or.inl h
  · exact Or.inr (Or.inl h)
  · exact Or.inr (Or.inr (Or.inl h))
  · exact Or.inr (Or.inr (Or.inr (Or.inl h)))
  · exact Or.inr (Or.inr (Or.inr (Or.inr (Or.inl h))))
/-- below w no sign of an E stands on the top -/
def BS (w : Nat) (st0 : Nat → Int32) : Prop := w = 0 ∨ ¬ isV (st0 (w - 1))
theorem BS_A {w : Nat} {m : Int32} {st st0 : Nat → Int32} (h : BS w st0) (hV : VL w m st st0) : w = 0 ∨ ¬ isA (st (w - 1)) := by
  rcases h with h | h
  · exact Or.inl h
  · by_cases c : w = 0
    · exact Or.inl c
    · refine Or.inr (fun hA => h ?_)
      rw [← hV.2.1 (w - 1) (by omega)]
      exact isA_V hA
/-- what stays leaves behind -/
def SP (b : Nat) (N : Nat → Int32) (w : Nat) (e p0 : Int32) (st0 : Nat → Int32) (r p d k m ib : Int32) (nc st : Nat → Int32) : Prop := Bd d ∧ (d = 0 → (¬ r = 0 → p0.toInt + 1 ≤ p.toInt ∧ (ib = 0 → FP b N w e p0 st0 p k m nc st 0) ∧ (¬ ib = 0 → FP b N w e p0 st0 p k m nc st 1)) ∧ (r = 0 → p = p0 ∧ FP b N w e p0 st0 p k m nc st 1 ∧ ¬ isA (tp m st)))
theorem stays_s {b w : Nat} {N : Nat → Int32} {e p k o m : Int32} {st0 t na nc st : Nat → Int32} (hB : BS w st0) (hF : FP b N w e p st0 p k m nc st 1) :
    Sf (f_X12_stays p e 0 k o m 0 na nc st t) (fun y => SP b N w e p st0 y.1 y.2.1 y.2.2.1 y.2.2.2.1 y.2.2.2.2.2.1 y.2.2.2.2.2.2.1 y.2.2.2.2.2.2.2.2.1 y.2.2.2.2.2.2.2.2.2) := by
  obtain ⟨hN, hD, hVL, -⟩ := hF
  have hN' := hN
  obtain ⟨n1, n2, n3, n4, n5⟩ := hN
  have h0 : 0 ≤ p.toInt := by omega
  have o1 : (1 : Int32).toInt = 1 := by decide
  have push : isA (hr p e t) → Sf (f_X12_stays_J19 st (hr p e t) 0 k 0 o p m na nc) (fun y => SP b N w e p st0 y.1 y.2.1 y.2.2.1 y.2.2.2.1 y.2.2.2.2.2.1 y.2.2.2.2.2.2.1 y.2.2.2.2.2.2.2.2.1 y.2.2.2.2.2.2.2.2.2) := by
    intro hA
    have hlt : p.toInt < e.toInt := hr_lt (t := t) (fun c => by rw [c] at hA; revert hA; unfold isA; decide)
    rw [f_X12_stays_J19, isPlus_e, cb1_o]
    refine Sf_cb4 (sums_s (BS_A hB hVL) hN' hD hVL.2.2) (fun k' m' na' nc' hq => ?_)
    obtain ⟨q1, q2, q3, q4, -⟩ := hq
    have q1 : PN p e k' m' := q1
    have q2 : DP b N k'.toNatClampNeg m'.toNatClampNeg nc' st 1 := q2
    have q3 : (w : Int) ≤ m'.toInt := q3
    have q4 : m'.toInt ≤ m.toInt := q4
    have q1' := q1
    obtain ⟨a1, a2, a3, a4, a5⟩ := q1
    rw [puts_e a2 (by omega), cb3_o]
    obtain ⟨s1, s2, s3⟩ := PN_push q1' hlt
    have t1 := tN m' a2
    have t2 := tN (m' + 1) (by omega)
    refine Sf_some (show SP b N w e p st0 1 (p + 1) 0 k' (m' + 1) 0 nc' (upd st m'.toNatClampNeg (hr p e t)) from bad_0 ⟨fun _ => ⟨by omega, fun _ => ⟨s1, ?_, VL_push (VL_less hVL q3 q4) a2 (by omega) (isA_V hA), by omega⟩, fun c => absurd rfl c⟩, fun c => absurd c (by decide)⟩)
    exact DP_cast (DP_push q2 (isA_bin hA).1) rfl (by omega)
  rw [f_X12_stays, here_e h0 (by omega), cb1_o, isTimes_e, cb1_o]
  refine Sf_ite (fun h => ?_) (fun h => ?_)
  · rw [bI_0] at h
    rw [isPlus_e, cb1_o]
    refine Sf_ite (fun h2 => ?_) (fun h2 => ?_)
    · rw [bI_0] at h2
      refine Sf_cb4 (sums_s (BS_A hB hVL) hN' hD hVL.2.2) (fun k' m' na' nc' hq => ?_)
      obtain ⟨q1, q2, q3, q4, q5⟩ := hq
      have q1 : PN p e k' m' := q1
      have q2 : DP b N k'.toNatClampNeg m'.toNatClampNeg nc' st 1 := q2
      have q3 : (w : Int) ≤ m'.toInt := q3
      have q4 : m'.toInt ≤ m.toInt := q4
      have q5 : ¬ isA (tp m' st) := q5 (by decide)
      have hV' := VL_less hVL q3 q4
      have q1' := q1
      obtain ⟨a1, a2, a3, a4, a5⟩ := q1
      refine Sf_ite (fun h3 => ?_) (fun h3 => ?_)
      · have hlt : p.toInt < e.toInt := hr_lt (t := t) (by rw [h3]; decide)
        rw [top_e (by omega), cb1_o]
        refine Sf_ite (fun h4 => ?_) (fun h4 => ?_)
        · have hm : 0 < m'.toInt := tp_ne (by rw [h4]; decide)
          have t1 := tN m' a2
          have hwm : (w : Int) < m'.toInt := by
            by_cases c : (w : Int) = m'.toInt
            · exfalso
              rcases hB with h | h
              · omega
              · refine h ?_
                rw [← hV'.2.1 (w - 1) (by omega)]
                have e4 : m'.toNatClampNeg = w := by omega
                rw [tp_pos hm, e4] at h4
                exact Or.inr (Or.inr (Or.inr (Or.inr (Or.inr h4))))
            · omega
          have e1 := sbX m' 1 (by omega) (by omega)
          have e2 := adX p 1 (by omega) (by omega)
          have t2 := tN (m' - 1) (by omega)
          rw [nmI_o, nmI_o, nmI_o]
          refine Sf_some (show SP b N w e p st0 1 (p + 1) 0 k' (m' - 1) 1 nc' st from bad_0 ⟨fun _ => ⟨by show p.toInt + 1 ≤ (p + 1).toInt; omega, fun c => absurd c (by decide), fun _ => ⟨⟨a1, by show 0 ≤ (m' - 1).toInt; omega, by show k'.toInt + (m' - 1).toInt ≤ (p + 1).toInt; omega, by show (p + 1).toInt ≤ e.toInt; omega, a5⟩, ?_, VL_less hV' (by show (w : Int) ≤ (m' - 1).toInt; omega) (by show (m' - 1).toInt ≤ m'.toInt; omega), by show p.toInt ≤ (p + 1).toInt; omega⟩⟩, fun c => absurd c (by decide)⟩)
          have e3 : m'.toNatClampNeg = (m' - 1).toNatClampNeg + 1 := by omega
          rw [e3] at q2
          refine DP_popn q2 ?_
          have e5 : st (m' - 1).toNatClampNeg = 91 := by rw [tp_pos hm] at h4; rw [← h4]; congr 1; omega
          rw [e5]
          decide
        · refine Sf_cb1 (wrongs_s 0 1 p (by decide) (by decide) h0 (by omega)) (fun d' hd' => ?_)
          exact Sf_some (bad_lt hd')
      · exact Sf_some (bad_0 ⟨fun c => absurd rfl c, fun _ => ⟨rfl, ⟨q1', q2, hV', Int.le_refl _⟩, q5⟩⟩)
    · rw [bI_0] at h2
      refine push ?_
      rcases Classical.not_not.mp h2 with a | a
      · exact Or.inr (Or.inr (Or.inr (Or.inl a)))
      · exact Or.inr (Or.inr (Or.inr (Or.inr a)))
  · rw [bI_0] at h
    refine push ?_
    rcases Classical.not_not.mp h with a | a | a
    · exact Or.inl a
    · exact Or.inr (Or.inl a)
    · exact Or.inr (Or.inr (Or.inl a))
/-- what a value leaves behind -/
def VP (b : Nat) (N : Nat → Int32) (w : Nat) (e p0 : Int32) (st0 : Nat → Int32) (m0 : Int32) (p d k m : Int32) (nc st : Nat → Int32) : Prop := Bd d ∧ (d = 0 → PN p e k m ∧ p0.toInt + 1 ≤ p.toInt ∧ m.toInt = m0.toInt ∧ DP b N k.toNatClampNeg m.toNatClampNeg nc st 1 ∧ ∀ i : Nat, i < w → st i = st0 i)
theorem value_J {b w : Nat} {N : Nat → Int32} {e p0 m0 : Int32} {st0 : Nat → Int32} (hB : BS w st0) (hw : (w : Int) = m0.toInt) (d k ib o p m : Int32) (na nc st : Nat → Int32) (hbd : Bd d) (h : d = 0 → p0.toInt + 1 ≤ p.toInt ∧ FP b N w e p0 st0 p k m nc st 1 ∧ ¬ isA (tp m st)) :
    Sf (f_X12_value_J57 d k ib o p m na nc st) (fun y => VP b N w e p0 st0 m0 y.1 y.2.1 y.2.2.1 y.2.2.2.2.1 y.2.2.2.2.2.2.2.1 y.2.2.2.2.2.2.2.2) := by
  rw [f_X12_value_J57]
  by_cases hd : d = 0
  · subst hd
    obtain ⟨hp, ⟨hN, hD, hVL, -⟩, hA⟩ := h rfl
    have hN' := hN
    obtain ⟨n1, n2, n3, n4, n5⟩ := hN
    rw [isGood_0, cb1_o, if_neg (by decide), top_e (by omega), cb1_o]
    refine Sf_ite (fun h9 => ?_) (fun h9 => ?_)
    · refine Sf_cb1 (wrongs_s 0 1 p (by decide) (by decide) (by omega) (by omega)) (fun d' hd' => ?_)
      exact Sf_some (bad_lt hd')
    · refine Sf_some (bad_0 ⟨hN', hp, ?_, hD, hVL.2.1⟩)
      show m.toInt = m0.toInt
      have h1 := hVL.2.2
      by_cases c : (w : Int) < m.toInt
      · exfalso
        have t1 := tN m n2
        have h2 := hVL.1 (m.toNatClampNeg - 1) (by omega) (by omega)
        have h3 : isV (tp m st) := by rw [tp_pos (m := m) (by omega)]; exact h2
        rcases h3 with a | a | a | a | a | a
        · exact hA (Or.inl a)
        · exact hA (Or.inr (Or.inl a))
        · exact hA (Or.inr (Or.inr (Or.inl a)))
        · exact hA (Or.inr (Or.inr (Or.inr (Or.inl a))))
        · exact hA (Or.inr (Or.inr (Or.inr (Or.inr a))))
        · exact h9 a
      · omega
  · rw [isGood_n hd, cb1_o, if_pos rfl]
    exact Sf_some (bad_n hbd hd)
theorem value_L {b w : Nat} {N : Nat → Int32} {e p0 m0 : Int32} {st0 t : Nat → Int32} (hB : BS w st0) (hw : (w : Int) = m0.toInt) : ∀ (n : Nat) (x d k ib o p m : Int32) (na nc st : Nat → Int32),
    Bd d → (d = 0 → p0.toInt ≤ p.toInt ∧ (x = 0 → p0.toInt + 1 ≤ p.toInt ∧ FP b N w e p0 st0 p k m nc st 1 ∧ ¬ isA (tp m st)) ∧ (¬ x = 0 → (ib = 0 → FP b N w e p0 st0 p k m nc st 0) ∧ (¬ ib = 0 → p0.toInt + 1 ≤ p.toInt ∧ FP b N w e p0 st0 p k m nc st 1)) ∧ (¬ x = 0 → e.toInt - p.toInt + 2 < (n : Int))) → 1 ≤ n →
    Sf (f_X12_value_L7 e t f_X12_value_J57 n x d k ib o p m na nc st) (fun y => VP b N w e p0 st0 m0 y.1 y.2.1 y.2.2.1 y.2.2.2.2.1 y.2.2.2.2.2.2.2.1 y.2.2.2.2.2.2.2.2) := by
  intro n
  induction n with
  | zero => intro x d k ib o p m na nc st hbd h hn; exact absurd hn (by omega)
  | succ n ih =>
    intro x d k ib o p m na nc st hbd h hn
    rw [f_X12_value_L7]
    refine Sf_ite (fun hx => ?_) (fun hx => ?_)
    · exact value_J hB hw d k ib o p m na nc st hbd (fun c => (h c).2.1 hx)
    · by_cases hd : d = 0
      · subst hd
        obtain ⟨hp, -, hx2, hn2⟩ := h rfl
        have hx2 := hx2 hx
        have hn2 := hn2 hx
        have hpe : p.toInt ≤ e.toInt := by
          by_cases c : ib = 0
          · exact (hx2.1 c).1.2.2.2.1
          · exact (hx2.2 c).2.1.2.2.2.1
        rw [isGood_0, cb1_o, if_neg (by decide)]
        -- behind an operand
        have next : ∀ (d k o p' m : Int32) (na nc st : Nat → Int32), Bd d → (d = 0 → p0.toInt + 1 ≤ p'.toInt ∧ p.toInt ≤ p'.toInt ∧ FP b N w e p0 st0 p' k m nc st 1) → (d = 0 → ¬ ib = 0 ∨ p.toInt + 1 ≤ p'.toInt) →
            Sf (f_X12_value_J29 e t (f_X12_value_L7 e t f_X12_value_J57 n) d k o p' m na nc st) (fun y => VP b N w e p0 st0 m0 y.1 y.2.1 y.2.2.1 y.2.2.2.2.1 y.2.2.2.2.2.2.2.1 y.2.2.2.2.2.2.2.2) := by
          intro d k o p' m na nc st hbd hg hg2
          rw [f_X12_value_J29]
          by_cases hd : d = 0
          · subst hd
            obtain ⟨g1, g2, g3⟩ := hg rfl
            have g3' : FP b N w e p' st0 p' k m nc st 1 := ⟨g3.1, g3.2.1, g3.2.2.1, Int.le_refl _⟩
            rw [isGood_0, cb1_o, if_neg (by decide)]
            refine Sf_cb10 (stays_s hB g3') (fun r p2 d2 k2 o2 m2 ib2 na2 nc2 st2 hq => ?_)
            have hq : SP b N w e p' st0 r p2 d2 k2 m2 ib2 nc2 st2 := hq
            refine Sf_ite (fun hr0 => ?_) (fun hr0 => ?_)
            · refine ih 0 d2 k2 ib2 o2 p2 m2 na2 nc2 st2 hq.1 (fun c => ?_) (by have := g3.1.2.2.2.1; omega)
              obtain ⟨q1, q2, q3⟩ := (hq.2 c).2 hr0
              subst q1
              exact ⟨by omega, fun _ => ⟨g1, ⟨q2.1, q2.2.1, q2.2.2.1, by omega⟩, q3⟩, fun c => absurd rfl c, fun c => absurd rfl c⟩
            · refine ih 1 d2 k2 ib2 o2 p2 m2 na2 nc2 st2 hq.1 (fun c => ?_) (by have := g3.1.2.2.2.1; omega)
              obtain ⟨q1, q2, q3⟩ := (hq.2 c).1 hr0
              exact ⟨by omega, fun c => absurd c (by decide), fun _ => ⟨fun z => ⟨(q2 z).1, (q2 z).2.1, (q2 z).2.2.1, by omega⟩, fun z => ⟨by omega, (q3 z).1, (q3 z).2.1, (q3 z).2.2.1, by omega⟩⟩, fun _ => by omega⟩
          · rw [isGood_n hd, cb1_o, if_pos rfl]
            refine ih 0 d k 0 o p' m na nc st hbd (fun c => absurd c hd) ?_
            have := hn2
            omega
        refine Sf_ite (fun hib => ?_) (fun hib => ?_)
        · refine Sf_cb8 (factor_s (hx2.1 hib)) (fun p2 d2 k2 o2 m2 na2 nc2 st2 hq => ?_)
          have hq : Bd d2 ∧ (d2 = 0 → FP b N w e p0 st0 p2 k2 m2 nc2 st2 1 ∧ p.toInt + 1 ≤ p2.toInt) := hq
          exact next d2 k2 o2 p2 m2 na2 nc2 st2 hq.1 (fun c => ⟨by have := (hq.2 c).2; omega, by have := (hq.2 c).2; omega, (hq.2 c).1⟩) (fun c => Or.inr (hq.2 c).2)
        · exact next 0 k o p m na nc st (Or.inl rfl) (fun _ => ⟨(hx2.2 hib).1, Int.le_refl _, (hx2.2 hib).2⟩) (fun _ => Or.inl hib)
      · rw [isGood_n hd, cb1_o, if_pos rfl]
        exact value_J hB hw d k ib o p m na nc st hbd (fun c => absurd c hd)
theorem value_s {b w : Nat} {N : Nat → Int32} {e p k o m ib : Int32} {t na nc st : Nat → Int32} (hB : BS w st) (hw : (w : Int) = m.toInt) (hN : PN p e k m) (hD : DP b N k.toNatClampNeg m.toNatClampNeg nc st 0) :
    Sf (f_X12_value p e 0 k o m ib na nc st t) (fun y => VP b N w e p st m y.1 y.2.1 y.2.2.1 y.2.2.2.2.1 y.2.2.2.2.2.2.2.1 y.2.2.2.2.2.2.2.2) := by
  rw [f_X12_value]
  have := FUi
  obtain ⟨n1, n2, n3, n4, n5⟩ := hN
  have hF : FP b N w e p st p k m nc st 0 := ⟨⟨n1, n2, n3, n4, n5⟩, hD, ⟨fun i a c => absurd c (by omega), fun _ _ => rfl, by omega⟩, Int.le_refl _⟩
  refine value_L hB hw FU 1 0 k 0 o p m na nc st (Or.inl rfl) (fun _ => ⟨Int.le_refl _, fun c => absurd c (by decide), fun _ => ⟨fun _ => hF, fun c => absurd rfl c⟩, fun _ => by omega⟩) (by omega)
