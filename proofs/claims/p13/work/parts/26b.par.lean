theorem isGood_0 : f_X12_isGood 0 = some 1 := by rw [f_X12_isGood, if_pos rfl]
theorem isGood_n {x : Int32} (h : ¬ x = 0) : f_X12_isGood x = some 0 := by rw [f_X12_isGood, if_neg h]
theorem here_e {p e : Int32} {t : Nat → Int32} (h1 : 0 ≤ p.toInt) (h2 : e.toInt ≤ 200) : f_X12_here p e t = some (hr p e t) := by
  rw [f_X12_here]
  unfold hr
  by_cases h : e ≤ p
  · rw [if_pos h, if_pos h]
  · rw [if_neg h, if_neg h, rdI_o (jin_of h1 (by have := nleI h; omega))]
theorem hr_lt {p e : Int32} {t : Nat → Int32} (h : ¬ hr p e t = 0) : p.toInt < e.toInt := by
  unfold hr at h
  by_cases c : e ≤ p
  · rw [if_pos c] at h; exact absurd rfl h
  · exact nleI c
theorem top_e {m : Int32} {st : Nat → Int32} (h : m.toInt ≤ 160) : f_X12_top m st = some (tp m st) := by
  rw [f_X12_top]
  unfold tp
  by_cases c : m ≤ 0
  · rw [if_pos c, if_pos c]
  · rw [if_neg c, if_neg c]
    have c1 := nleI c
    have z : (0 : Int32).toInt = 0 := by decide
    have o : (1 : Int32).toInt = 1 := by decide
    have g := rgI m
    have e1 := sbX m 1 (by omega) (by omega)
    rw [rdI_o (jin_of (by omega) (by omega))]
theorem tp_pos {m : Int32} {st : Nat → Int32} (h : 0 < m.toInt) : tp m st = st (m.toNatClampNeg - 1) := by
  unfold tp
  have z : (0 : Int32).toInt = 0 := by decide
  have o : (1 : Int32).toInt = 1 := by decide
  have g := rgI m
  have e1 := sbX m 1 (by omega) (by omega)
  rw [if_neg (fun c => by have := leI c; omega)]
  congr 1
  have t1 := tN m (by omega)
  have t2 := tN (m - 1) (by omega)
  omega
theorem tp_ne {m : Int32} {st : Nat → Int32} (h : ¬ tp m st = 0) : 0 < m.toInt := by
  unfold tp at h
  by_cases c : m ≤ 0
  · rw [if_pos c] at h; exact absurd rfl h
  · have := nleI c
    have z : (0 : Int32).toInt = 0 := by decide
    omega
theorem puts_e {p m : Int32} {st : Nat → Int32} {c : Int32} (h1 : 0 ≤ m.toInt) (h2 : m.toInt < 160) : f_X12_puts p m st c = some (p + 1, m + 1, upd st m.toNatClampNeg c) := by
  rw [f_X12_puts, wrI_o (jin_of h1 (by omega)), nmI_o, nmI_o]
theorem emit_e {k : Int32} {na nc : Nat → Int32} {c a : Int32} (h1 : 0 ≤ k.toInt) (h2 : k.toInt < 120) : f_X12_emit 0 k na nc c a = some (k + 1, upd na k.toNatClampNeg a, upd nc k.toNatClampNeg c) := by
  rw [f_X12_emit, isGood_0, cb1_o, if_neg (by decide), wrI_o (jin_of h1 (by omega)), wrI_o (jin_of h1 (by omega)), nmI_o]
theorem wrongs_s (x f a : Int32) (h1 : 1 ≤ f.toInt) (h2 : f.toInt ≤ 9) (h3 : 0 ≤ a.toInt) (h4 : a.toInt ≤ 200) : Sf (f_X12_wrongs x f a) (fun y => y.toInt < 0) := by
  rw [f_X12_wrongs]
  have z : (0 : Int32).toInt = 0 := by decide
  refine Sf_ite (fun h => ?_) (fun h => ?_)
  · refine Sf_nmI (fun v hv => Sf_some ?_)
    have l : ((-1000) : Int32).toInt = -1000 := by decide
    have g := rgI f
    have e1 := mlY (-1000) f (-1000) l (by omega) (by omega)
    have e2 := sbX ((-1000) * f) a (by omega) (by omega)
    have q := eqI hv
    omega
  · refine Sf_some ?_
    have := nleI h
    omega
def Bd (d : Int32) : Prop := d = 0 ∨ d.toInt < 0
theorem ne_lt {d : Int32} (h : d.toInt < 0) : ¬ d = 0 := fun c => by
  have q := eqI c
  have z : (0 : Int32).toInt = 0 := by decide
  omega
theorem bad_lt {d : Int32} {X : Prop} (h : d.toInt < 0) : Bd d ∧ (d = 0 → X) := ⟨Or.inr h, fun c => absurd c (ne_lt h)⟩
theorem bad_n {d : Int32} {X : Prop} (hb : Bd d) (h : ¬ d = 0) : Bd d ∧ (d = 0 → X) := ⟨hb, fun c => absurd c h⟩
theorem bad_0 {X : Prop} (h : X) : Bd 0 ∧ ((0 : Int32) = 0 → X) := ⟨Or.inl rfl, fun _ => h⟩
theorem isTimes_e (c : Int32) : f_X12_isTimes c = some (bI (c = 42 ∨ c = 47 ∨ c = 37)) := by
  rw [f_X12_isTimes]
  unfold bI
  by_cases a : c = 42
  · rw [if_pos a, if_pos (Or.inl a)]
  · rw [if_neg a]
    by_cases b : c = 47
    · rw [if_pos b, if_pos (Or.inr (Or.inl b))]
    · rw [if_neg b]
      by_cases d : c = 37
      · rw [if_pos d, if_pos (Or.inr (Or.inr d))]
      · rw [if_neg d, if_neg (fun h => h.elim a (fun h => h.elim b d))]
theorem isPlus_e (c : Int32) : f_X12_isPlus c = some (bI (c = 43 ∨ c = 45)) := by
  rw [f_X12_isPlus]
  unfold bI
  by_cases a : c = 43
  · rw [if_pos a, if_pos (Or.inl a)]
  · rw [if_neg a]
    by_cases b : c = 45
    · rw [if_pos b, if_pos (Or.inr b)]
    · rw [if_neg b, if_neg (fun h => h.elim a b)]
theorem isSign_e (c : Int32) : f_X12_isSign c = some (bI (c = 60 ∨ c = 62 ∨ c = 61)) := by
  rw [f_X12_isSign]
  unfold bI
  by_cases a : c = 60
  · rw [if_pos a, if_pos (Or.inl a)]
  · rw [if_neg a]
    by_cases b : c = 62
    · rw [if_pos b, if_pos (Or.inr (Or.inl b))]
    · rw [if_neg b]
      by_cases d : c = 61
      · rw [if_pos d, if_pos (Or.inr (Or.inr d))]
      · rw [if_neg d, if_neg (fun h => h.elim a (fun h => h.elim b d))]
def isA (x : Int32) : Prop := x = 42 ∨ x = 47 ∨ x = 37 ∨ x = 43 ∨ x = 45
theorem isA_bin {x : Int32} (h : isA x) : bin x = true ∧ 2 < x.toInt := by
  rcases h with h | h | h | h | h <;> subst h <;> decide
/-- one sign goes from the stack into the code -/
theorem pop_s {b : Nat} {N : Nat → Int32} {p e k m : Int32} {nc st : Nat → Int32} (hN : PN p e k m) (hD : DP b N k.toNatClampNeg m.toNatClampNeg nc st 1) (hm : 0 < m.toInt) (hb : bin (tp m st) = true) (hx : 2 < (tp m st).toInt) : PN p e (k + 1) (m - 1) ∧ DP b N (k + 1).toNatClampNeg (m - 1).toNatClampNeg (upd nc k.toNatClampNeg (tp m st)) st 1 ∧ (m - 1).toInt = m.toInt - 1 ∧ (k + 1).toInt = k.toInt + 1 := by
  obtain ⟨n1, n2, n3, n4, n5⟩ := hN
  have o : (1 : Int32).toInt = 1 := by decide
  have e1 := adX k 1 (by omega) (by omega)
  have e2 := sbX m 1 (by omega) (by omega)
  have t1 := tN k n1
  have t2 := tN m n2
  have t3 := tN (k + 1) (by omega)
  have t4 := tN (m - 1) (by omega)
  have q : m.toNatClampNeg = (m - 1).toNatClampNeg + 1 := by omega
  have q2 : (k + 1).toNatClampNeg = k.toNatClampNeg + 1 := by omega
  have q3 : tp m st = st (m - 1).toNatClampNeg := by rw [tp_pos hm]; congr 1; omega
  rw [q] at hD
  rw [q3] at hb hx
  refine ⟨⟨by omega, by omega, by omega, by omega, by omega⟩, ?_, by omega, by omega⟩
  rw [q2, q3]
  exact DP_bin hD hb hx
theorem sums_L (b w : Nat) (N : Nat → Int32) (p e q : Int32) (st : Nat → Int32) (hw : w = 0 ∨ ¬ isA (st (w - 1))) : ∀ (n : Nat) (k m : Int32) (na nc : Nat → Int32), PN p e k m → DP b N k.toNatClampNeg m.toNatClampNeg nc st 1 → (w : Int) ≤ m.toInt → m.toInt < (n : Int) →
    Sf (f_X12_sums_L0 0 st q n k m na nc) (fun y => PN p e y.1 y.2.1 ∧ DP b N y.1.toNatClampNeg y.2.1.toNatClampNeg y.2.2.2 st 1 ∧ (w : Int) ≤ y.2.1.toInt ∧ y.2.1.toInt ≤ m.toInt ∧ (¬ q = 0 → ¬ isA (tp y.2.1 st))) := by
  intro n
  induction n with
  | zero => intro k m na nc hN hD hwm hn; exact absurd hn (by have := hN.2.1; omega)
  | succ n ih =>
    intro k m na nc hN hD hwm hn
    have step : isA (tp m st) → Sf (f_X12_sums_J24 0 st k m na nc (f_X12_sums_L0 0 st q n)) (fun y => PN p e y.1 y.2.1 ∧ DP b N y.1.toNatClampNeg y.2.1.toNatClampNeg y.2.2.2 st 1 ∧ (w : Int) ≤ y.2.1.toInt ∧ y.2.1.toInt ≤ m.toInt ∧ (¬ q = 0 → ¬ isA (tp y.2.1 st))) := by
      intro hA
      have hm : 0 < m.toInt := tp_ne (fun h => by rw [h] at hA; revert hA; unfold isA; decide)
      obtain ⟨s1, s2, s3, s4⟩ := pop_s hN hD hm (isA_bin hA).1 (isA_bin hA).2
      have hwm2 : (w : Int) ≤ m.toInt - 1 := by
        rcases hw with h | h
        · omega
        · by_cases c : (w : Int) = m.toInt
          · refine absurd hA ?_
            rw [tp_pos hm]
            have t := tN m hN.2.1
            have : m.toNatClampNeg = w := by omega
            rw [this]
            exact h
          · omega
      obtain ⟨n1, n2, n3, n4, n5⟩ := hN
      rw [f_X12_sums_J24, top_e (by omega), cb1_o, emit_e (by omega) (by omega), cb3_o, nmI_o]
      refine Sf_mono (ih _ _ _ _ s1 s2 (by omega) (by omega)) (fun y hy => ?_)
      exact ⟨hy.1, hy.2.1, hy.2.2.1, by have := hy.2.2.2.1; omega, hy.2.2.2.2⟩
    have ht := top_e (st := st) (m := m) (by obtain ⟨n1, n2, n3, n4, n5⟩ := hN; omega)
    rw [f_X12_sums_L0, ht, cb1_o, isTimes_e, cb1_o]
    refine Sf_ite (fun h => ?_) (fun h => ?_)
    · rw [bI_0] at h
      refine Sf_ite (fun h2 => ?_) (fun h2 => ?_)
      · exact Sf_some ⟨hN, hD, hwm, Int.le_refl _, fun c => absurd h2 c⟩
      · rw [cb1_o, isPlus_e, cb1_o]
        refine Sf_ite (fun h3 => ?_) (fun h3 => ?_)
        · rw [bI_0] at h3
          refine Sf_some ⟨hN, hD, hwm, Int.le_refl _, fun _ hA => ?_⟩
          rcases hA with a | a | a | a | a
          · exact h (Or.inl a)
          · exact h (Or.inr (Or.inl a))
          · exact h (Or.inr (Or.inr a))
          · exact h3 (Or.inl a)
          · exact h3 (Or.inr a)
        · rw [bI_0] at h3
          refine step ?_
          rcases Classical.not_not.mp h3 with a | a
          · exact Or.inr (Or.inr (Or.inr (Or.inl a)))
          · exact Or.inr (Or.inr (Or.inr (Or.inr a)))
    · rw [bI_0] at h
      refine step ?_
      rcases Classical.not_not.mp h with a | a | a
      · exact Or.inl a
      · exact Or.inr (Or.inl a)
      · exact Or.inr (Or.inr (Or.inl a))
theorem FUi : (100000 : Int) ≤ (FU : Int) := Int.ofNat_le.mpr FU_ge
theorem sums_s {b w : Nat} {N : Nat → Int32} {p e q k m : Int32} {st na nc : Nat → Int32} (hw : w = 0 ∨ ¬ isA (st (w - 1))) (hN : PN p e k m) (hD : DP b N k.toNatClampNeg m.toNatClampNeg nc st 1) (hwm : (w : Int) ≤ m.toInt) :
    Sf (f_X12_sums 0 k m na nc st q) (fun y => PN p e y.1 y.2.1 ∧ DP b N y.1.toNatClampNeg y.2.1.toNatClampNeg y.2.2.2 st 1 ∧ (w : Int) ≤ y.2.1.toInt ∧ y.2.1.toInt ≤ m.toInt ∧ (¬ q = 0 → ¬ isA (tp y.2.1 st))) := by
  rw [f_X12_sums]
  have := FUi
  obtain ⟨n1, n2, n3, n4, n5⟩ := hN
  exact sums_L b w N p e q st hw FU k m na nc ⟨n1, n2, n3, n4, n5⟩ hD hwm (by omega)
