/-- signs of a C's level on the stack -/
def CL (m : Int32) (st : Nat → Int32) : Prop := (∀ i : Nat, (i : Int) < m.toInt → isC (st i)) ∧ st 0 = 40
theorem CL_less {m m' : Int32} {st : Nat → Int32} (h : CL m st) (h2 : m'.toInt ≤ m.toInt) : CL m' st := ⟨fun i a => h.1 i (by omega), h.2⟩
theorem CL_push {m : Int32} {st : Nat → Int32} {x : Int32} (h : CL m st) (h0 : 0 < m.toInt) (h1 : m.toInt < 1000) (hx : isC x) : CL (m + 1) (upd st m.toNatClampNeg x) := by
  have o : (1 : Int32).toInt = 1 := by decide
  have e1 := adX m 1 (by omega) (by omega)
  have t := tN m (by omega)
  refine ⟨fun i a => ?_, ?_⟩
  · unfold upd
    by_cases c : i = m.toNatClampNeg
    · rw [if_pos c]; exact hx
    · rw [if_neg c]; exact h.1 i (by omega)
  · unfold upd
    rw [if_neg (by omega)]
    exact h.2
theorem CL_eq {m : Int32} {st st' : Nat → Int32} (h : CL m st) (he : ∀ i : Nat, (i : Int) < m.toInt → st' i = st i) (h0 : 0 < m.toInt) : CL m st' := by
  refine ⟨fun i a => ?_, ?_⟩
  · rw [he i a]; exact h.1 i a
  · rw [he 0 (by omega)]; exact h.2
theorem isC_V {x : Int32} (h : isC x) : ¬ isV x := by
  unfold isV
  rcases h with h | h | h | h <;> subst h <;> decide
theorem tp_one {m : Int32} {st : Nat → Int32} (h : 0 < m.toInt) (h0 : st 0 = 40) (hn : ¬ tp m st = 40) : 1 < m.toInt := by
  by_cases c : m.toInt = 1
  · refine absurd ?_ hn
    rw [tp_pos h]
    have t := tN m (by omega)
    rw [show m.toNatClampNeg - 1 = 0 by omega]
    exact h0
  · omega
theorem joins_L (b : Nat) (N : Nat → Int32) (p e q : Int32) (st : Nat → Int32) (h0 : st 0 = 40) : ∀ (n : Nat) (k m : Int32) (na nc : Nat → Int32), PN p e k m → DP b N k.toNatClampNeg m.toNatClampNeg nc st 1 → 0 < m.toInt → m.toInt < (n : Int) →
    Sf (f_X12_joins_L0 0 st q n k m na nc) (fun y => PN p e y.1 y.2.1 ∧ DP b N y.1.toNatClampNeg y.2.1.toNatClampNeg y.2.2.2 st 1 ∧ 0 < y.2.1.toInt ∧ y.2.1.toInt ≤ m.toInt ∧ (¬ q = 0 → ¬ tp y.2.1 st = 38 ∧ ¬ tp y.2.1 st = 124)) := by
  intro n
  induction n with
  | zero => intro k m na nc hN hD hm hn; exact absurd hn (by omega)
  | succ n ih =>
    intro k m na nc hN hD hm hn
    have step : (tp m st = 38 ∨ tp m st = 124) → Sf (f_X12_joins_J22 0 st k m na nc (f_X12_joins_L0 0 st q n)) (fun y => PN p e y.1 y.2.1 ∧ DP b N y.1.toNatClampNeg y.2.1.toNatClampNeg y.2.2.2 st 1 ∧ 0 < y.2.1.toInt ∧ y.2.1.toInt ≤ m.toInt ∧ (¬ q = 0 → ¬ tp y.2.1 st = 38 ∧ ¬ tp y.2.1 st = 124)) := by
      intro hA
      have h1 : 1 < m.toInt := tp_one hm h0 (fun c => by rw [c] at hA; revert hA; decide)
      have hb : bin (tp m st) = true ∧ 2 < (tp m st).toInt := by
        rcases hA with h | h <;> rw [h] <;> decide
      obtain ⟨s1, s2, s3, s4⟩ := pop_s hN hD hm hb.1 hb.2
      obtain ⟨n1, n2, n3, n4, n5⟩ := hN
      rw [f_X12_joins_J22, top_e (by omega), cb1_o, emit_e (by omega) (by omega), cb3_o, nmI_o]
      refine Sf_mono (ih _ _ _ _ s1 s2 (by omega) (by omega)) (fun y hy => ?_)
      exact ⟨hy.1, hy.2.1, hy.2.2.1, by have := hy.2.2.2.1; omega, hy.2.2.2.2⟩
    have ht := top_e (st := st) (m := m) (by obtain ⟨n1, n2, n3, n4, n5⟩ := hN; omega)
    rw [f_X12_joins_L0, ht, cb1_o]
    refine Sf_ite (fun h => step (Or.inl h)) (fun h => ?_)
    refine Sf_ite (fun h2 => ?_) (fun h2 => ?_)
    · exact Sf_some ⟨hN, hD, hm, Int.le_refl _, fun c => absurd h2 c⟩
    · rw [cb1_o]
      refine Sf_ite (fun h3 => step (Or.inr h3)) (fun h3 => ?_)
      exact Sf_some ⟨hN, hD, hm, Int.le_refl _, fun _ => ⟨h, h3⟩⟩
theorem joins_s {b : Nat} {N : Nat → Int32} {p e q k m : Int32} {st na nc : Nat → Int32} (h0 : st 0 = 40) (hN : PN p e k m) (hD : DP b N k.toNatClampNeg m.toNatClampNeg nc st 1) (hm : 0 < m.toInt) :
    Sf (f_X12_joins 0 k m na nc st q) (fun y => PN p e y.1 y.2.1 ∧ DP b N y.1.toNatClampNeg y.2.1.toNatClampNeg y.2.2.2 st 1 ∧ 0 < y.2.1.toInt ∧ y.2.1.toInt ≤ m.toInt ∧ (¬ q = 0 → ¬ tp y.2.1 st = 38 ∧ ¬ tp y.2.1 st = 124)) := by
  rw [f_X12_joins]
  have := FUi
  obtain ⟨n1, n2, n3, n4, n5⟩ := hN
  exact joins_L b N p e q st h0 FU k m na nc ⟨n1, n2, n3, n4, n5⟩ hD hm (by omega)
/-- a bracket or a not goes from the stack -/
theorem popn_s {b : Nat} {N : Nat → Int32} {p e k m : Int32} {nc st : Nat → Int32} {dl : Nat} (hN : PN p e k m) (hD : DP b N k.toNatClampNeg m.toNatClampNeg nc st dl) (hm : 0 < m.toInt) (hb : bin (tp m st) = false) : DP b N k.toNatClampNeg (m - 1).toNatClampNeg nc st dl ∧ (m - 1).toInt = m.toInt - 1 := by
  obtain ⟨n1, n2, n3, n4, n5⟩ := hN
  have o : (1 : Int32).toInt = 1 := by decide
  have e2 := sbX m 1 (by omega) (by omega)
  have t2 := tN m n2
  have t4 := tN (m - 1) (by omega)
  have q : m.toNatClampNeg = (m - 1).toNatClampNeg + 1 := by omega
  have q3 : tp m st = st (m - 1).toNatClampNeg := by rw [tp_pos hm]; congr 1; omega
  rw [q] at hD
  rw [q3] at hb
  exact ⟨DP_popn hD hb, by omega⟩
theorem ends_L (b : Nat) (N : Nat → Int32) (p e : Int32) (st : Nat → Int32) (h0 : st 0 = 40) : ∀ (n : Nat) (k o m : Int32) (na nc : Nat → Int32), PN p e k m → DP b N k.toNatClampNeg m.toNatClampNeg nc st 1 → 0 < m.toInt → m.toInt < (n : Int) →
    Sf (f_X12_ends_L0 0 st n k o m na nc) (fun y => PN p e y.1 y.2.2.1 ∧ DP b N y.1.toNatClampNeg y.2.2.1.toNatClampNeg y.2.2.2.2 st 1 ∧ 0 < y.2.2.1.toInt ∧ y.2.2.1.toInt ≤ m.toInt) := by
  intro n
  induction n with
  | zero => intro k o m na nc hN hD hm hn; exact absurd hn (by omega)
  | succ n ih =>
    intro k o m na nc hN hD hm hn
    have hN' := hN
    obtain ⟨n1, n2, n3, n4, n5⟩ := hN
    rw [f_X12_ends_L0, top_e (by omega), cb1_o]
    refine Sf_ite (fun h => ?_) (fun h => ?_)
    · have h1 : 1 < m.toInt := tp_one hm h0 (fun c => by rw [c] at h; revert h; decide)
      have o1 : (1 : Int32).toInt = 1 := by decide
      have e1 := adX k 1 (by omega) (by omega)
      have t1 := tN k n1
      have t2 := tN (k + 1) (by omega)
      obtain ⟨s1, s2⟩ := popn_s hN' hD hm (by rw [h]; decide)
      have s3 := DP_not s1
      rw [show k.toNatClampNeg + 1 = (k + 1).toNatClampNeg by omega] at s3
      rw [emit_e n1 (by omega), cb3_o, nmI_o, nmI_o]
      refine Sf_mono (ih _ _ _ _ _ ⟨by omega, by omega, by omega, n4, n5⟩ s3 (by omega) (by omega)) (fun y hy => ?_)
      exact ⟨hy.1, hy.2.1, hy.2.2.1, by have := hy.2.2.2; omega⟩
    · exact Sf_some ⟨hN', hD, hm, Int.le_refl _⟩
theorem ends_s {b : Nat} {N : Nat → Int32} {p e k o m : Int32} {st na nc : Nat → Int32} (h0 : st 0 = 40) (hN : PN p e k m) (hD : DP b N k.toNatClampNeg m.toNatClampNeg nc st 1) (hm : 0 < m.toInt) :
    Sf (f_X12_ends 0 k o m na nc st) (fun y => PN p e y.1 y.2.2.1 ∧ DP b N y.1.toNatClampNeg y.2.2.1.toNatClampNeg y.2.2.2.2 st 1 ∧ 0 < y.2.2.1.toInt ∧ y.2.2.1.toInt ≤ m.toInt) := by
  rw [f_X12_ends]
  have := FUi
  obtain ⟨n1, n2, n3, n4, n5⟩ := hN
  exact ends_L b N p e st h0 FU k o m na nc ⟨n1, n2, n3, n4, n5⟩ hD hm (by omega)
/-- a place within a C -/
def CP (b : Nat) (N : Nat → Int32) (e p k m : Int32) (nc st : Nat → Int32) (dl : Nat) : Prop := PN p e k m ∧ DP b N k.toNatClampNeg m.toNatClampNeg nc st dl ∧ CL m st ∧ 0 < m.toInt
theorem piece_J43 {b : Nat} {N : Nat → Int32} {e p0 : Int32} {t : Nat → Int32} (d k ib o p m : Int32) (na nc st : Nat → Int32) (hbd : Bd d) (h : d = 0 → CP b N e p k m nc st 1 ∧ p0.toInt + 1 ≤ p.toInt) :
    Sf (f_X12_pieceOfC_J43 e t d k ib o p m na nc st) (fun y => Bd y.2.1 ∧ (y.2.1 = 0 → CP b N e y.1 y.2.2.1 y.2.2.2.2.1 y.2.2.2.2.2.2.2.1 y.2.2.2.2.2.2.2.2 1 ∧ p0.toInt + 1 ≤ y.1.toInt)) := by
  rw [f_X12_pieceOfC_J43]
  by_cases hd : d = 0
  · subst hd
    obtain ⟨⟨hN, hD, hC, hm⟩, hp⟩ := h rfl
    have hN' := hN
    obtain ⟨n1, n2, n3, n4, n5⟩ := hN
    have h0 : 0 ≤ p.toInt := by omega
    rw [isGood_0, cb1_o, if_neg (by decide), here_e h0 (by omega), cb1_o, isSign_e, cb1_o]
    refine Sf_ite (fun h => ?_) (fun h => ?_)
    · refine Sf_cb1 (wrongs_s 0 1 p (by decide) (by decide) h0 (by omega)) (fun d' hd' => ?_)
      exact Sf_some (bad_lt hd')
    · rw [bI_0] at h
      have h := Classical.not_not.mp h
      obtain ⟨c, hc⟩ : ∃ c, c = hr p e t := ⟨_, rfl⟩
      have hs : bin c = true ∧ 2 < c.toInt ∧ ¬ isV c ∧ ¬ c = 0 := by
        rw [hc]
        unfold isV
        rcases h with h | h | h <;> rw [h] <;> decide
      have hlt : p.toInt < e.toInt := hr_lt (t := t) (by rw [← hc]; exact hs.2.2.2)
      rw [← hc, puts_e n2 (by omega), cb3_o]
      obtain ⟨s1, s2, s3⟩ := PN_push hN' hlt
      have t1 := tN m n2
      have t2 := tN (m + 1) (by omega)
      have em : (m + 1).toNatClampNeg = m.toNatClampNeg + 1 := by omega
      have hD2 := DP_push hD hs.1
      rw [← em] at hD2
      have hB : BS (m.toNatClampNeg + 1) (upd st m.toNatClampNeg c) := by
        refine Or.inr ?_
        have : upd st m.toNatClampNeg c (m.toNatClampNeg + 1 - 1) = c := if_pos rfl
        rw [this]
        exact hs.2.2.1
      refine Sf_cb9 (value_s hB (by omega) s1 hD2) (fun p2 d2 k2 o2 m2 ib2 na2 nc2 st2 hq => ?_)
      have hq : VP b N (m.toNatClampNeg + 1) e (p + 1) (upd st m.toNatClampNeg c) (m + 1) p2 d2 k2 m2 nc2 st2 := hq
      by_cases hd2 : d2 = 0
      · subst hd2
        obtain ⟨q1, q2, q3, q4, q5⟩ := hq.2 rfl
        have q1' := q1
        obtain ⟨a1, a2, a3, a4, a5⟩ := q1
        have t3 := tN m2 a2
        have et : tp m2 st2 = c := by
          rw [tp_pos (by omega), show m2.toNatClampNeg - 1 = m.toNatClampNeg by omega, q5 _ (by omega)]
          exact if_pos rfl
        obtain ⟨r1, r2, r3, r4⟩ := pop_s q1' q4 (by omega) (by rw [et]; exact hs.1) (by rw [et]; exact hs.2.1)
        have hC2 : CL m st2 := CL_eq hC (fun i hi => by
          rw [q5 i (by omega)]
          unfold upd
          rw [if_neg (by omega)]) hm
        rw [isGood_0, cb1_o, if_neg (by decide), top_e (by omega), cb1_o, emit_e (by omega) (by omega), cb3_o, nmI_o]
        refine Sf_cb5 (ends_s hC2.2 r1 r2 (by omega)) (fun k3 o3 m3 na3 nc3 hq => ?_)
        obtain ⟨u1, u2, u3, u4⟩ := hq
        have u4 : m3.toInt ≤ (m2 - 1).toInt := u4
        exact Sf_some (show Bd 0 ∧ ((0 : Int32) = 0 → CP b N e p2 k3 m3 nc3 st2 1 ∧ p0.toInt + 1 ≤ p2.toInt) from bad_0 ⟨⟨u1, u2, CL_less hC2 (by omega), u3⟩, by omega⟩)
      · rw [isGood_n hd2, cb1_o, if_pos rfl]
        exact Sf_some (bad_n hq.1 hd2)
  · rw [isGood_n hd, cb1_o, if_pos rfl]
    exact Sf_some (bad_n hbd hd)
theorem piece_J32 {b : Nat} {N : Nat → Int32} {e p0 k ib : Int32} {na nc t : Nat → Int32} (d o p m : Int32) (st : Nat → Int32) (hbd : Bd d) (h : d = 0 → CP b N e p k m nc st 0 ∧ p0.toInt ≤ p.toInt) :
    Sf (f_X12_pieceOfC_J32 e k ib na nc t d o p m st) (fun y => Bd y.2.1 ∧ (y.2.1 = 0 → CP b N e y.1 y.2.2.1 y.2.2.2.2.1 y.2.2.2.2.2.2.2.1 y.2.2.2.2.2.2.2.2 1 ∧ p0.toInt + 1 ≤ y.1.toInt)) := by
  rw [f_X12_pieceOfC_J32]
  by_cases hd : d = 0
  · subst hd
    obtain ⟨⟨hN, hD, hC, hm⟩, hp⟩ := h rfl
    rw [isGood_0, cb1_o, if_neg (by decide)]
    have t1 := tN m (by omega)
    have hB : BS m.toNatClampNeg st := Or.inr (isC_V (hC.1 _ (by omega)))
    refine Sf_cb9 (value_s hB (by omega) hN hD) (fun p2 d2 k2 o2 m2 ib2 na2 nc2 st2 hq => ?_)
    have hq : VP b N m.toNatClampNeg e p st m p2 d2 k2 m2 nc2 st2 := hq
    refine piece_J43 d2 k2 ib2 o2 p2 m2 na2 nc2 st2 hq.1 (fun c => ?_)
    obtain ⟨q1, q2, q3, q4, q5⟩ := hq.2 c
    exact ⟨⟨q1, q4, CL_less (CL_eq hC (fun i hi => q5 i (by omega)) hm) (by omega), by omega⟩, by omega⟩
  · rw [isGood_n hd, cb1_o, if_pos rfl]
    exact piece_J43 d k ib o p m na nc st hbd (fun c => absurd c hd)
theorem piece_L {b : Nat} {N : Nat → Int32} {e p0 k ib : Int32} {na nc t : Nat → Int32} : ∀ (n : Nat) (d o p m : Int32) (st : Nat → Int32), Bd d → (d = 0 → CP b N e p k m nc st 0 ∧ p0.toInt ≤ p.toInt ∧ e.toInt - p.toInt + 1 < (n : Int)) → 1 ≤ n →
    Sf (f_X12_pieceOfC_L0 e t (f_X12_pieceOfC_J32 e k ib na nc t) n d o p m st) (fun y => Bd y.2.1 ∧ (y.2.1 = 0 → CP b N e y.1 y.2.2.1 y.2.2.2.2.1 y.2.2.2.2.2.2.2.1 y.2.2.2.2.2.2.2.2 1 ∧ p0.toInt + 1 ≤ y.1.toInt)) := by
  intro n
  induction n with
  | zero => intro d o p m st hbd h hn; exact absurd hn (by omega)
  | succ n ih =>
    intro d o p m st hbd h hn
    rw [f_X12_pieceOfC_L0]
    by_cases hd : d = 0
    · subst hd
      obtain ⟨hF, hp, hn2⟩ := h rfl
      have hF' := hF
      obtain ⟨hN, hD, hC, hm⟩ := hF
      have hN' := hN
      obtain ⟨n1, n2, n3, n4, n5⟩ := hN
      have h0 : 0 ≤ p.toInt := by omega
      have step : isC (hr p e t) → bin (hr p e t) = false → ¬ hr p e t = 0 → Sf (f_X12_pieceOfC_J25 e t 0 o p m st (f_X12_pieceOfC_L0 e t (f_X12_pieceOfC_J32 e k ib na nc t) n)) (fun y => Bd y.2.1 ∧ (y.2.1 = 0 → CP b N e y.1 y.2.2.1 y.2.2.2.2.1 y.2.2.2.2.2.2.2.1 y.2.2.2.2.2.2.2.2 1 ∧ p0.toInt + 1 ≤ y.1.toInt)) := by
        intro g1 g2 g3
        have hlt : p.toInt < e.toInt := hr_lt (t := t) g3
        rw [f_X12_pieceOfC_J25]
        refine Sf_cb5 (opens_s h0 n5 (by omega) n2 (by omega)) (fun p' d' o' m' st' hq => ?_)
        obtain ⟨q1, q2, q3, q0⟩ := hq
        have q0 : Bd d' := q0
        have q1 : p' = p + 1 := q1
        have q2 : m' = m + 1 := q2
        have q3 : st' = upd st m.toNatClampNeg (hr p e t) := q3
        subst q1; subst q2; subst q3
        obtain ⟨s1, s2, s3⟩ := PN_push hN' hlt
        have t1 := tN m n2
        have t2 := tN (m + 1) (by omega)
        refine ih d' o' (p + 1) (m + 1) _ q0 (fun _ => ⟨⟨s1, ?_, CL_push hC hm (by omega) g1, by omega⟩, by omega, by omega⟩) (by omega)
        exact DP_cast (DP_pushn hD g2) rfl (by omega)
      rw [isGood_0, cb1_o, if_neg (by decide), here_e h0 (by omega), cb1_o]
      refine Sf_ite (fun h9 => ?_) (fun _ => ?_)
      · exact step (by rw [h9]; exact Or.inr (Or.inl rfl)) (by rw [h9]; decide) (by rw [h9]; decide)
      · rw [cb1_o]
        refine Sf_ite (fun h9 => ?_) (fun _ => ?_)
        · exact step (by rw [h9]; exact Or.inl rfl) (by rw [h9]; decide) (by rw [h9]; decide)
        · exact piece_J32 0 o p m st (Or.inl rfl) (fun _ => ⟨hF', hp⟩)
    · rw [isGood_n hd, cb1_o, if_pos rfl]
      exact piece_J32 d o p m st hbd (fun c => absurd c hd)
theorem piece_s {b : Nat} {N : Nat → Int32} {e p k o m ib : Int32} {na nc st t : Nat → Int32} (h : CP b N e p k m nc st 0) :
    Sf (f_X12_pieceOfC p e 0 k o m ib na nc st t) (fun y => Bd y.2.1 ∧ (y.2.1 = 0 → CP b N e y.1 y.2.2.1 y.2.2.2.2.1 y.2.2.2.2.2.2.2.1 y.2.2.2.2.2.2.2.2 1 ∧ p.toInt + 1 ≤ y.1.toInt)) := by
  rw [f_X12_pieceOfC]
  have := FUi
  obtain ⟨n1, n2, n3, n4, n5⟩ := h.1
  exact piece_L FU 0 o p m st (Or.inl rfl) (fun _ => ⟨h, Int.le_refl _, by omega⟩) (by omega)
