theorem ex_ite {α : Type} {c : Prop} {_ : Decidable c} {a b : Option α} (h1 : ∃ y, a = some y) (h2 : ∃ y, b = some y) : ∃ y, (if c then a else b) = some y := by
  by_cases h : c
  · rw [if_pos h]; exact h1
  · rw [if_neg h]; exact h2
/-- the stack from w on holds signs of an E; below it is as it was -/
def VL (w : Nat) (m : Int32) (st st0 : Nat → Int32) : Prop := (∀ i : Nat, w ≤ i → (i : Int) < m.toInt → isV (st i)) ∧ (∀ i : Nat, i < w → st i = st0 i) ∧ (w : Int) ≤ m.toInt
theorem VL_less {w : Nat} {m m' : Int32} {st st0 : Nat → Int32} (h : VL w m st st0) (h1 : (w : Int) ≤ m'.toInt) (h2 : m'.toInt ≤ m.toInt) : VL w m' st st0 := ⟨fun i a b => h.1 i a (by omega), h.2.1, h1⟩
theorem VL_push {w : Nat} {m : Int32} {st st0 : Nat → Int32} {x : Int32} (h : VL w m st st0) (h0 : 0 ≤ m.toInt) (h1 : m.toInt < 1000) (hx : isV x) : VL w (m + 1) (upd st m.toNatClampNeg x) st0 := by
  have o : (1 : Int32).toInt = 1 := by decide
  have e1 := adX m 1 (by omega) (by omega)
  have t := tN m h0
  refine ⟨fun i a b => ?_, fun i a => ?_, by have := h.2.2; omega⟩
  · unfold upd
    by_cases c : i = m.toNatClampNeg
    · rw [if_pos c]; exact hx
    · rw [if_neg c]; exact h.1 i a (by omega)
  · have := h.2.2
    unfold upd
    rw [if_neg (by omega)]
    exact h.2.1 i a
theorem PN_push {p e k m : Int32} (h : PN p e k m) (hp : p.toInt < e.toInt) : PN (p + 1) e k (m + 1) ∧ (p + 1).toInt = p.toInt + 1 ∧ (m + 1).toInt = m.toInt + 1 := by
  obtain ⟨n1, n2, n3, n4, n5⟩ := h
  have o : (1 : Int32).toInt = 1 := by decide
  have e1 := adX m 1 (by omega) (by omega)
  have e2 := adX p 1 (by omega) (by omega)
  exact ⟨⟨n1, by omega, by omega, by omega, n5⟩, e2.trans (by omega), e1.trans (by omega)⟩
theorem DP_cast {b k m k' m' dl : Nat} {N : Nat → Int32} {nc st : Nat → Int32} (h : DP b N k m nc st dl) (h1 : k = k') (h2 : m = m') : DP b N k' m' nc st dl := by subst h1; subst h2; exact h
theorem opens_s {p e o m : Int32} {st t : Nat → Int32} (h1 : 0 ≤ p.toInt) (h2 : e.toInt ≤ 120) (hpe : p.toInt ≤ 120) (h3 : 0 ≤ m.toInt) (h4 : m.toInt < 160) :
    Sf (f_X12_opens p e 0 o m st t) (fun y => y.1 = p + 1 ∧ y.2.2.2.1 = m + 1 ∧ y.2.2.2.2 = upd st m.toNatClampNeg (hr p e t) ∧ Bd y.2.1) := by
  have J : ∀ x : Int32, Bd x → Sf (f_X12_opens_J18 p e o m st t x) (fun y => y.1 = p + 1 ∧ y.2.2.2.1 = m + 1 ∧ y.2.2.2.2 = upd st m.toNatClampNeg (hr p e t) ∧ Bd y.2.1) := by
    intro x hx
    rw [f_X12_opens_J18, nmI_o, here_e h1 (by omega), cb1_o, puts_e h3 h4, cb3_o]
    exact Sf_some ⟨rfl, rfl, rfl, hx⟩
  rw [f_X12_opens]
  refine Sf_ite (fun _ => ?_) (fun _ => J 0 (Or.inl rfl))
  exact Sf_cb1 (wrongs_s 0 5 p (by decide) (by decide) h1 (by omega)) (fun x hx => J x (Or.inr hx))
theorem dig_e {p e : Int32} {t : Nat → Int32} (h1 : 0 ≤ p.toInt) (h2 : e.toInt ≤ 200) : f_X12_seesDigit p e t = some (bI (48 ≤ (hr p e t).toInt ∧ (hr p e t).toInt ≤ 57)) := by
  rw [f_X12_seesDigit, here_e h1 h2, cb1_o, L_iff, cb1_o, bo_bI, t64]
  rfl
theorem reads_L (s e : Int32) (t : Nat → Int32) (h2 : e.toInt ≤ 120) : ∀ (n : Nat) (x d p : Int32), Bd d → 0 ≤ p.toInt → p.toInt ≤ e.toInt → e.toInt - p.toInt + 1 < (n : Int) →
    Sf (f_X12_reads_L7 s e t n x d p) (fun y => Bd y.2.2 ∧ p.toInt ≤ y.2.1.toInt ∧ y.2.1.toInt ≤ e.toInt ∧ (d = 0 → (48 ≤ (hr p e t).toInt ∧ (hr p e t).toInt ≤ 57) → p.toInt + 1 ≤ y.2.1.toInt)) := by
  intro n
  induction n with
  | zero => intro x d p hbd h0 h1 hn; exact absurd hn (by omega)
  | succ n ih =>
    intro x d p hbd h0 h1 hn
    rw [f_X12_reads_L7]
    by_cases hd : d = 0
    · subst hd
      rw [isGood_0, cb1_o, if_neg (by decide), dig_e h0 (by omega), cb1_o]
      refine Sf_ite (fun h => ?_) (fun h => ?_)
      · rw [bI_0] at h
        exact Sf_some ⟨Or.inl rfl, Int.le_refl _, h1, fun _ c => absurd c h⟩
      · rw [bI_0] at h
        have h := Classical.not_not.mp h
        have hlt : p.toInt < e.toInt := hr_lt (t := t) (fun c => by
          have := eqI c
          have z : (0 : Int32).toInt = 0 := by decide
          omega)
        have o : (1 : Int32).toInt = 1 := by decide
        have e1 := adX p 1 (by omega) (by omega)
        have R : ∀ x' d' : Int32, Bd d' → Sf (f_X12_reads_L7 s e t n x' d' (p + 1)) (fun y => Bd y.2.2 ∧ p.toInt ≤ y.2.1.toInt ∧ y.2.1.toInt ≤ e.toInt ∧ ((0 : Int32) = 0 → (48 ≤ (hr p e t).toInt ∧ (hr p e t).toInt ≤ 57) → p.toInt + 1 ≤ y.2.1.toInt)) := by
          intro x' d' hd'
          refine Sf_mono (ih x' d' (p + 1) hd' (by omega) (by omega) (by omega)) (fun y hy => ?_)
          exact ⟨hy.1, by have := hy.2.1; omega, hy.2.2.1, fun _ _ => by have := hy.2.1; omega⟩
        refine Sf_ite (fun _ => ?_) (fun _ => ?_)
        · refine Sf_cb1 (wrongs_s 0 2 p (by decide) (by decide) h0 (by omega)) (fun d' hd' => ?_)
          rw [here_e h0 (by omega), cb1_o, nmI_o, nmI_o]
          exact R _ _ (Or.inr hd')
        · rw [here_e h0 (by omega), cb1_o, nmI_o, nmI_o]
          exact R _ _ (Or.inl rfl)
    · rw [isGood_n hd, cb1_o, if_pos rfl]
      exact Sf_some ⟨hbd, Int.le_refl _, h1, fun c => absurd c hd⟩
/-- what a factor leaves behind, if all is good -/
def FP (b : Nat) (N : Nat → Int32) (w : Nat) (e p0 : Int32) (st0 : Nat → Int32) (p k m : Int32) (nc st : Nat → Int32) (dl : Nat) : Prop := PN p e k m ∧ DP b N k.toNatClampNeg m.toNatClampNeg nc st dl ∧ VL w m st st0 ∧ p0.toInt ≤ p.toInt
theorem factor_J {b w : Nat} {N : Nat → Int32} {e p0 : Int32} {st0 t : Nat → Int32} {k : Int32} {na nc : Nat → Int32} (d o p m : Int32) (st : Nat → Int32) (hbd : Bd d) (h : d = 0 → FP b N w e p0 st0 p k m nc st 0) :
    Sf (f_X12_factor_J23 e k na nc t d o p m st) (fun y => Bd y.2.1 ∧ (y.2.1 = 0 → FP b N w e p0 st0 y.1 y.2.2.1 y.2.2.2.2.1 y.2.2.2.2.2.2.1 y.2.2.2.2.2.2.2 1 ∧ p0.toInt + 1 ≤ y.1.toInt)) := by
  rw [f_X12_factor_J23]
  by_cases hd : d = 0
  · subst hd
    obtain ⟨⟨n1, n2, n3, n4, n5⟩, hD, hVL, hp0⟩ := h rfl
    have o1 : (1 : Int32).toInt = 1 := by decide
    have h0 : 0 ≤ p.toInt := by omega
    rw [isGood_0, cb1_o, if_neg (by decide), dig_e h0 (by omega), cb1_o]
    have t1 := tN k n1
    refine Sf_ite (fun h => ?_) (fun h => ?_)
    · rw [here_e h0 (by omega), cb1_o]
      refine Sf_cb1 (R := fun y => y = 0 ∨ ¬ hr p e t = 0) ?_ (fun v hv => ?_)
      · rw [f_X12_isValue]
        by_cases c : hr p e t = 0
        · rw [c]
          exact ⟨0, by decide, Or.inl rfl⟩
        · have : ∃ y, f_X12_isValue (hr p e t) = some y := by
            rw [f_X12_isValue]
            repeat' (refine ex_ite ?_ ?_)
            all_goals exact ⟨_, rfl⟩
          obtain ⟨y, hy⟩ := this
          rw [f_X12_isValue] at hy
          exact ⟨y, hy, Or.inr c⟩
      · refine Sf_ite (fun _ => ?_) (fun hv2 => ?_)
        · refine Sf_cb1 (wrongs_s 0 1 p (by decide) (by decide) h0 (by omega)) (fun d' hd' => ?_)
          exact Sf_some (bad_lt hd')
        · have hlt : p.toInt < e.toInt := hr_lt (hv.resolve_left hv2)
          have e1 := adX p 1 (by omega) (by omega)
          have e2 := adX k 1 (by omega) (by omega)
          rw [cb1_o, emit_e n1 (by omega), cb3_o, nmI_o]
          have t2 := tN (k + 1) (by omega)
          refine Sf_some (bad_0 ⟨⟨⟨by show 0 ≤ (k + 1).toInt; omega, n2, by show (k + 1).toInt + m.toInt ≤ (p + 1).toInt; omega, by show (p + 1).toInt ≤ e.toInt; omega, n5⟩, ?_, hVL, by show p0.toInt ≤ (p + 1).toInt; omega⟩, by show p0.toInt + 1 ≤ (p + 1).toInt; omega⟩)
          exact DP_cast (DP_arg hD (by decide)) (by show k.toNatClampNeg + 1 = (k + 1).toNatClampNeg; omega) rfl
    · rw [bI_0] at h
      have h := Classical.not_not.mp h
      have := FUi
      refine Sf_cb3 (R := fun y => Bd y.2.2 ∧ p.toInt + 1 ≤ y.2.1.toInt ∧ y.2.1.toInt ≤ e.toInt) ?_ (fun x p' d' hq => ?_)
      · rw [f_X12_reads]
        refine Sf_mono (reads_L p e t n5 FU 0 0 p (Or.inl rfl) h0 n4 (by omega)) (fun y hy => ⟨hy.1, hy.2.2.2 rfl h, hy.2.2.1⟩)
      · have hqb : Bd d' := hq.1
        have hq : p.toInt + 1 ≤ p'.toInt ∧ p'.toInt ≤ e.toInt := hq.2
        by_cases hd' : d' = 0
        · subst hd'
          have e2 := adX k 1 (by omega) (by omega)
          rw [emit_e n1 (by omega), cb3_o]
          have t2 := tN (k + 1) (by omega)
          refine Sf_some (bad_0 ⟨⟨⟨by show 0 ≤ (k + 1).toInt; omega, n2, by show (k + 1).toInt + m.toInt ≤ p'.toInt; omega, by show p'.toInt ≤ e.toInt; omega, n5⟩, ?_, hVL, by show p0.toInt ≤ p'.toInt; omega⟩, by show p0.toInt + 1 ≤ p'.toInt; omega⟩)
          exact DP_cast (DP_arg hD (by decide)) (by show k.toNatClampNeg + 1 = (k + 1).toNatClampNeg; omega) rfl
        · rw [f_X12_emit, isGood_n hd', cb1_o, if_pos rfl, cb3_o]
          exact Sf_some (bad_n hqb hd')
  · rw [isGood_n hd, cb1_o, if_pos rfl]
    exact Sf_some (bad_n hbd hd)
theorem factor_L {b w : Nat} {N : Nat → Int32} {e p0 : Int32} {st0 t : Nat → Int32} {k : Int32} {na nc : Nat → Int32} : ∀ (n : Nat) (d o p m : Int32) (st : Nat → Int32), Bd d → (d = 0 → FP b N w e p0 st0 p k m nc st 0 ∧ e.toInt - p.toInt + 1 < (n : Int)) → 1 ≤ n →
    Sf (f_X12_factor_L0 e t (f_X12_factor_J23 e k na nc t) n d o p m st) (fun y => Bd y.2.1 ∧ (y.2.1 = 0 → FP b N w e p0 st0 y.1 y.2.2.1 y.2.2.2.2.1 y.2.2.2.2.2.2.1 y.2.2.2.2.2.2.2 1 ∧ p0.toInt + 1 ≤ y.1.toInt)) := by
  intro n
  induction n with
  | zero => intro d o p m st hbd h hn; exact absurd hn (by omega)
  | succ n ih =>
    intro d o p m st hbd h hn
    rw [f_X12_factor_L0]
    by_cases hd : d = 0
    · subst hd
      obtain ⟨hF, hn2⟩ := h rfl
      have hF' := hF
      obtain ⟨hN, hD, hVL, hp0⟩ := hF
      obtain ⟨n1, n2, n3, n4, n5⟩ := hN
      have h0 : 0 ≤ p.toInt := by omega
      rw [isGood_0, cb1_o, if_neg (by decide), here_e h0 (by omega), cb1_o]
      refine Sf_ite (fun h9 => ?_) (fun _ => ?_)
      · have hlt : p.toInt < e.toInt := hr_lt (t := t) (by rw [h9]; decide)
        refine Sf_cb5 (opens_s h0 n5 (by omega) n2 (by omega)) (fun p' d' o' m' st' hq => ?_)
        obtain ⟨q1, q2, q3, q0⟩ := hq
        have q0 : Bd d' := q0
        have q1 : p' = p + 1 := q1
        have q2 : m' = m + 1 := q2
        have q3 : st' = upd st m.toNatClampNeg (hr p e t) := q3
        subst q1; subst q2; subst q3
        obtain ⟨s1, s2, s3⟩ := PN_push ⟨n1, n2, n3, n4, n5⟩ hlt
        have t1 := tN m n2
        have t2 := tN (m + 1) (by omega)
        refine ih d' o' (p + 1) (m + 1) _ q0 (fun _ => ⟨⟨s1, ?_, VL_push hVL n2 (by omega) (by rw [h9]; exact Or.inr (Or.inr (Or.inr (Or.inr (Or.inr rfl))))), by omega⟩, by omega⟩) (by omega)
        exact DP_cast (DP_pushn hD (by rw [h9]; decide)) rfl (by omega)
      · exact factor_J 0 o p m st (Or.inl rfl) (fun _ => hF')
    · rw [isGood_n hd, cb1_o, if_pos rfl]
      exact factor_J d o p m st hbd (fun c => absurd c hd)
theorem factor_s {b w : Nat} {N : Nat → Int32} {e p0 : Int32} {st0 t : Nat → Int32} {k o p m : Int32} {na nc st : Nat → Int32} (h : FP b N w e p0 st0 p k m nc st 0) :
    Sf (f_X12_factor p e 0 k o m na nc st t) (fun y => Bd y.2.1 ∧ (y.2.1 = 0 → FP b N w e p0 st0 y.1 y.2.2.1 y.2.2.2.2.1 y.2.2.2.2.2.2.1 y.2.2.2.2.2.2.2 1 ∧ p.toInt + 1 ≤ y.1.toInt)) := by
  rw [f_X12_factor]
  have := FUi
  have hN := h.1
  obtain ⟨n1, n2, n3, n4, n5⟩ := hN
  have h2 : FP b N w e p st0 p k m nc st 0 := ⟨h.1, h.2.1, h.2.2.1, Int.le_refl _⟩
  refine Sf_mono (factor_L (b := b) (N := N) (w := w) (p0 := p) (st0 := st0) FU 0 o p m st (Or.inl rfl) (fun _ => ⟨h2, by omega⟩) (by omega)) (fun y hy => ⟨hy.1, fun c => ?_⟩)
  have hy := hy.2 c
  exact ⟨⟨hy.1.1, hy.1.2.1, hy.1.2.2.1, by have := h.2.2.2; have := hy.2; omega⟩, hy.2⟩
