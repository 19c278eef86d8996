section
/-! the reference's parser: depth of the code that it makes -/
def bin (x : Int32) : Bool := x == 42 || x == 47 || x == 37 || x == 43 || x == 45 || x == 60 || x == 62 || x == 61 || x == 38 || x == 124
def nb (s : Nat → Int32) : Nat → Nat
  | 0 => 0
  | n + 1 => nb s n + (if bin (s n) = true then 1 else 0)
def stp (x : Int32) (d : Nat) : Option Nat := if 2 < x.toInt then (if 2 ≤ d then some (d - 1) else none) else if x.toInt = 2 then (if 1 ≤ d then some d else none) else some (d + 1)
def dep (c : Nat → Int32) (a : Nat) : Nat → Option Nat
  | 0 => some 0
  | n + 1 => (dep c a n).bind (stp (c (a + n)))
theorem nb_congr {s s' : Nat → Int32} : ∀ {n : Nat}, (∀ i, i < n → s i = s' i) → nb s n = nb s' n := by
  intro n
  induction n with
  | zero => intro _; rfl
  | succ n ih =>
    intro h
    show nb s n + _ = nb s' n + _
    rw [ih (fun i hi => h i (by omega)), h n (by omega)]
theorem dep_congr {c c' : Nat → Int32} {a : Nat} : ∀ {n : Nat}, (∀ i, i < n → c (a + i) = c' (a + i)) → dep c a n = dep c' a n := by
  intro n
  induction n with
  | zero => intro _; rfl
  | succ n ih =>
    intro h
    show (dep c a n).bind _ = (dep c' a n).bind _
    rw [ih (fun i hi => h i (by omega)), h n (by omega)]
theorem dep_upd {c : Nat → Int32} {a k : Nat} {x : Int32} (h : a ≤ k) : dep (upd c k x) a (k + 1 - a) = (dep c a (k - a)).bind (stp x) := by
  obtain ⟨n, rfl⟩ : ∃ n, k = a + n := ⟨k - a, by omega⟩
  rw [show a + n + 1 - a = n + 1 by omega, show a + n - a = n by omega]
  show (dep (upd c (a + n) x) a n).bind (stp (upd c (a + n) x (a + n))) = _
  rw [dep_congr (c' := c) (fun i hi => by unfold upd; rw [if_neg (by omega)])]
  unfold upd
  rw [if_pos rfl]
theorem dep_le {c : Nat → Int32} {a : Nat} : ∀ {n d : Nat}, dep c a n = some d → d ≤ n := by
  intro n
  induction n with
  | zero => intro d h; cases h; exact Nat.le_refl 0
  | succ n ih =>
    intro d h
    have h : (dep c a n).bind (stp (c (a + n))) = some d := h
    cases hd : dep c a n with
    | none => rw [hd] at h; exact nomatch h
    | some e =>
      rw [hd] at h
      have h1 := ih hd
      have h : stp (c (a + n)) e = some d := h
      unfold stp at h
      by_cases c1 : 2 < (c (a + n)).toInt
      · rw [if_pos c1] at h
        by_cases c2 : 2 ≤ e
        · rw [if_pos c2] at h; cases h; omega
        · rw [if_neg c2] at h; exact nomatch h
      · rw [if_neg c1] at h
        by_cases c3 : (c (a + n)).toInt = 2
        · rw [if_pos c3] at h
          by_cases c4 : 1 ≤ e
          · rw [if_pos c4] at h; cases h; omega
          · rw [if_neg c4] at h; exact nomatch h
        · rw [if_neg c3] at h; cases h; omega
/-- from b on the code is k - b long; m signs on the stack; its depth is that of the signs that wait, and one more behind an operand -/
def DP (b : Nat) (N : Nat → Int32) (k m : Nat) (nc st : Nat → Int32) (dl : Nat) : Prop := b ≤ k ∧ dep nc b (k - b) = some (nb st m + dl) ∧ ∀ i : Nat, i < b → nc i = N i
section DPs
variable {b k m dl : Nat} {N nc st : Nat → Int32} {x : Int32}
theorem NE_upd {k b : Nat} (h : ∀ i : Nat, i < b → nc i = N i) (hk : b ≤ k) : ∀ i : Nat, i < b → upd nc k x i = N i := fun i hi => by
  unfold upd
  rw [if_neg (by omega)]
  exact h i hi
theorem DP_bin (h : DP b N k (m + 1) nc st 1) (hb : bin (st m) = true) (hx : 2 < (st m).toInt) : DP b N (k + 1) m (upd nc k (st m)) st 1 := by
  refine ⟨by have := h.1; omega, ?_, NE_upd h.2.2 h.1⟩
  rw [dep_upd h.1, h.2.1]
  show stp (st m) (nb st m + (if bin (st m) = true then 1 else 0) + 1) = _
  rw [if_pos hb]
  unfold stp
  rw [if_pos hx, if_pos (by omega)]
  congr 1
theorem DP_not (h : DP b N k m nc st 1) : DP b N (k + 1) m (upd nc k 2) st 1 := by
  refine ⟨by have := h.1; omega, ?_, NE_upd h.2.2 h.1⟩
  rw [dep_upd h.1, h.2.1]
  show stp 2 (nb st m + 1) = _
  unfold stp
  rw [if_neg (by decide), if_pos (by decide), if_pos (by omega)]
theorem DP_arg (h : DP b N k m nc st 0) (hx : x.toInt < 2) : DP b N (k + 1) m (upd nc k x) st 1 := by
  refine ⟨by have := h.1; omega, ?_, NE_upd h.2.2 h.1⟩
  rw [dep_upd h.1, h.2.1]
  show stp x (nb st m + 0) = _
  unfold stp
  rw [if_neg (by omega), if_neg (by omega)]
theorem DP_st {st' : Nat → Int32} (h : DP b N k m nc st dl) (he : ∀ i, i < m → st' i = st i) : DP b N k m nc st' dl := by
  refine ⟨h.1, ?_, h.2.2⟩
  rw [h.2.1, nb_congr he]
theorem DP_push (h : DP b N k m nc st 1) (hc : bin x = true) : DP b N k (m + 1) nc (upd st m x) 0 := by
  refine ⟨h.1, ?_, h.2.2⟩
  rw [h.2.1]
  show some (nb st m + 1) = some (nb (upd st m x) m + (if bin (upd st m x m) = true then 1 else 0) + 0)
  have e : upd st m x m = x := if_pos rfl
  rw [e, if_pos hc, nb_congr (s := upd st m x) (s' := st) (fun i hi => by unfold upd; rw [if_neg (by omega)])]
theorem DP_pushn (h : DP b N k m nc st dl) (hc : bin x = false) : DP b N k (m + 1) nc (upd st m x) dl := by
  refine ⟨h.1, ?_, h.2.2⟩
  rw [h.2.1]
  show some (nb st m + dl) = some (nb (upd st m x) m + (if bin (upd st m x m) = true then 1 else 0) + dl)
  have e : upd st m x m = x := if_pos rfl
  rw [e, hc, nb_congr (s := upd st m x) (s' := st) (fun i hi => by unfold upd; rw [if_neg (by omega)])]
  rfl
theorem DP_popn (h : DP b N k (m + 1) nc st dl) (hc : bin (st m) = false) : DP b N k m nc st dl := by
  refine ⟨h.1, ?_, h.2.2⟩
  rw [h.2.1]
  show some (nb st m + (if bin (st m) = true then 1 else 0) + dl) = _
  rw [hc]
  rfl
theorem DP_new (k : Nat) (nc st : Nat → Int32) : DP k nc k 0 nc st 0 := by
  refine ⟨Nat.le_refl k, ?_, fun _ _ => rfl⟩
  rw [Nat.sub_self]
  rfl
end DPs
/-- signs of an E, and a square bracket; signs of a C's level -/
def isV (x : Int32) : Prop := x = 42 ∨ x = 47 ∨ x = 37 ∨ x = 43 ∨ x = 45 ∨ x = 91
def isC (x : Int32) : Prop := x = 40 ∨ x = 33 ∨ x = 38 ∨ x = 124
def hr (p e : Int32) (t : Nat → Int32) : Int32 := if e ≤ p then 0 else t p.toNatClampNeg &&& 255
def tp (m : Int32) (st : Nat → Int32) : Int32 := if m ≤ 0 then 0 else st (m - 1).toNatClampNeg
/-- the parser's numbers -/
def PN (p e k m : Int32) : Prop := 0 ≤ k.toInt ∧ 0 ≤ m.toInt ∧ k.toInt + m.toInt ≤ p.toInt ∧ p.toInt ≤ e.toInt ∧ e.toInt ≤ 120
end
section
theorem isGood_0 : f_X12_isGood 0 = some 1 := by rw [f_X12_isGood, if_pos rfl]
theorem isGood_n {x : Int32} (h : ¬ x = 0) : f_X12_isGood x = some 0 := by rw [f_X12_isGood, if_neg h]
theorem here_e {p e : Int32} {t : Nat → Int32} (h1 : 0 ≤ p.toInt) (h2 : e.toInt ≤ 200) : f_X12_here p e t = some (hr p e t) := by
  rw [f_X12_here]
  unfold hr
  by_cases h : e ≤ p
  · rw [if_pos h, if_pos h]
  · rw [if_neg h, if_neg h, rdI_o (jin_of h1 (by have := nleI h; omega))]
theorem hr_lt {p e : Int32} {t : Nat → Int32} (h : ¬ hr p e t = 0) : p.toInt < e.toInt := by
  unfold hr at h
  by_cases c : e ≤ p
  · rw [if_pos c] at h; exact absurd rfl h
  · exact nleI c
theorem top_e {m : Int32} {st : Nat → Int32} (h : m.toInt ≤ 160) : f_X12_top m st = some (tp m st) := by
  rw [f_X12_top]
  unfold tp
  by_cases c : m ≤ 0
  · rw [if_pos c, if_pos c]
  · rw [if_neg c, if_neg c]
    have c1 := nleI c
    have z : (0 : Int32).toInt = 0 := by decide
    have o : (1 : Int32).toInt = 1 := by decide
    have g := rgI m
    have e1 := sbX m 1 (by omega) (by omega)
    rw [rdI_o (jin_of (by omega) (by omega))]
theorem tp_pos {m : Int32} {st : Nat → Int32} (h : 0 < m.toInt) : tp m st = st (m.toNatClampNeg - 1) := by
  unfold tp
  have z : (0 : Int32).toInt = 0 := by decide
  have o : (1 : Int32).toInt = 1 := by decide
  have g := rgI m
  have e1 := sbX m 1 (by omega) (by omega)
  rw [if_neg (fun c => by have := leI c; omega)]
  congr 1
  have t1 := tN m (by omega)
  have t2 := tN (m - 1) (by omega)
  omega
theorem tp_ne {m : Int32} {st : Nat → Int32} (h : ¬ tp m st = 0) : 0 < m.toInt := by
  unfold tp at h
  by_cases c : m ≤ 0
  · rw [if_pos c] at h; exact absurd rfl h
  · have := nleI c
    have z : (0 : Int32).toInt = 0 := by decide
    omega
theorem puts_e {p m : Int32} {st : Nat → Int32} {c : Int32} (h1 : 0 ≤ m.toInt) (h2 : m.toInt < 160) : f_X12_puts p m st c = some (p + 1, m + 1, upd st m.toNatClampNeg c) := by
  rw [f_X12_puts, wrI_o (jin_of h1 (by omega)), nmI_o, nmI_o]
theorem emit_e {k : Int32} {na nc : Nat → Int32} {c a : Int32} (h1 : 0 ≤ k.toInt) (h2 : k.toInt < 120) : f_X12_emit 0 k na nc c a = some (k + 1, upd na k.toNatClampNeg a, upd nc k.toNatClampNeg c) := by
  rw [f_X12_emit, isGood_0, cb1_o, if_neg (by decide), wrI_o (jin_of h1 (by omega)), wrI_o (jin_of h1 (by omega)), nmI_o]
theorem wrongs_s (x f a : Int32) (h1 : 1 ≤ f.toInt) (h2 : f.toInt ≤ 9) (h3 : 0 ≤ a.toInt) (h4 : a.toInt ≤ 200) : Sf (f_X12_wrongs x f a) (fun y => y.toInt < 0) := by
  rw [f_X12_wrongs]
  have z : (0 : Int32).toInt = 0 := by decide
  refine Sf_ite (fun h => ?_) (fun h => ?_)
  · refine Sf_nmI (fun v hv => Sf_some ?_)
    have l : ((-1000) : Int32).toInt = -1000 := by decide
    have g := rgI f
    have e1 := mlY (-1000) f (-1000) l (by omega) (by omega)
    have e2 := sbX ((-1000) * f) a (by omega) (by omega)
    have q := eqI hv
    omega
  · refine Sf_some ?_
    have := nleI h
    omega
def Bd (d : Int32) : Prop := d = 0 ∨ d.toInt < 0
theorem ne_lt {d : Int32} (h : d.toInt < 0) : ¬ d = 0 := fun c => by
  have q := eqI c
  have z : (0 : Int32).toInt = 0 := by decide
  omega
theorem bad_lt {d : Int32} {X : Prop} (h : d.toInt < 0) : Bd d ∧ (d = 0 → X) := ⟨Or.inr h, fun c => absurd c (ne_lt h)⟩
theorem bad_n {d : Int32} {X : Prop} (hb : Bd d) (h : ¬ d = 0) : Bd d ∧ (d = 0 → X) := ⟨hb, fun c => absurd c h⟩
theorem bad_0 {X : Prop} (h : X) : Bd 0 ∧ ((0 : Int32) = 0 → X) := ⟨Or.inl rfl, fun _ => h⟩
theorem isTimes_e (c : Int32) : f_X12_isTimes c = some (bI (c = 42 ∨ c = 47 ∨ c = 37)) := by
  rw [f_X12_isTimes]
  unfold bI
  by_cases a : c = 42
  · rw [if_pos a, if_pos (Or.inl a)]
  · rw [if_neg a]
    by_cases b : c = 47
    · rw [if_pos b, if_pos (Or.inr (Or.inl b))]
    · rw [if_neg b]
      by_cases d : c = 37
      · rw [if_pos d, if_pos (Or.inr (Or.inr d))]
      · rw [if_neg d, if_neg (fun h => h.elim a (fun h => h.elim b d))]
theorem isPlus_e (c : Int32) : f_X12_isPlus c = some (bI (c = 43 ∨ c = 45)) := by
  rw [f_X12_isPlus]
  unfold bI
  by_cases a : c = 43
  · rw [if_pos a, if_pos (Or.inl a)]
  · rw [if_neg a]
    by_cases b : c = 45
    · rw [if_pos b, if_pos (Or.inr b)]
    · rw [if_neg b, if_neg (fun h => h.elim a b)]
theorem isSign_e (c : Int32) : f_X12_isSign c = some (bI (c = 60 ∨ c = 62 ∨ c = 61)) := by
  rw [f_X12_isSign]
  unfold bI
  by_cases a : c = 60
  · rw [if_pos a, if_pos (Or.inl a)]
  · rw [if_neg a]
    by_cases b : c = 62
    · rw [if_pos b, if_pos (Or.inr (Or.inl b))]
    · rw [if_neg b]
      by_cases d : c = 61
      · rw [if_pos d, if_pos (Or.inr (Or.inr d))]
      · rw [if_neg d, if_neg (fun h => h.elim a (fun h => h.elim b d))]
def isA (x : Int32) : Prop := x = 42 ∨ x = 47 ∨ x = 37 ∨ x = 43 ∨ x = 45
theorem isA_bin {x : Int32} (h : isA x) : bin x = true ∧ 2 < x.toInt := by
  rcases h with h | h | h | h | h <;> subst h <;> decide
/-- one sign goes from the stack into the code -/
theorem pop_s {b : Nat} {N : Nat → Int32} {p e k m : Int32} {nc st : Nat → Int32} (hN : PN p e k m) (hD : DP b N k.toNatClampNeg m.toNatClampNeg nc st 1) (hm : 0 < m.toInt) (hb : bin (tp m st) = true) (hx : 2 < (tp m st).toInt) : PN p e (k + 1) (m - 1) ∧ DP b N (k + 1).toNatClampNeg (m - 1).toNatClampNeg (upd nc k.toNatClampNeg (tp m st)) st 1 ∧ (m - 1).toInt = m.toInt - 1 ∧ (k + 1).toInt = k.toInt + 1 := by
  obtain ⟨n1, n2, n3, n4, n5⟩ := hN
  have o : (1 : Int32).toInt = 1 := by decide
  have e1 := adX k 1 (by omega) (by omega)
  have e2 := sbX m 1 (by omega) (by omega)
  have t1 := tN k n1
  have t2 := tN m n2
  have t3 := tN (k + 1) (by omega)
  have t4 := tN (m - 1) (by omega)
  have q : m.toNatClampNeg = (m - 1).toNatClampNeg + 1 := by omega
  have q2 : (k + 1).toNatClampNeg = k.toNatClampNeg + 1 := by omega
  have q3 : tp m st = st (m - 1).toNatClampNeg := by rw [tp_pos hm]; congr 1; omega
  rw [q] at hD
  rw [q3] at hb hx
  refine ⟨⟨by omega, by omega, by omega, by omega, by omega⟩, ?_, by omega, by omega⟩
  rw [q2, q3]
  exact DP_bin hD hb hx
theorem sums_L (b w : Nat) (N : Nat → Int32) (p e q : Int32) (st : Nat → Int32) (hw : w = 0 ∨ ¬ isA (st (w - 1))) : ∀ (n : Nat) (k m : Int32) (na nc : Nat → Int32), PN p e k m → DP b N k.toNatClampNeg m.toNatClampNeg nc st 1 → (w : Int) ≤ m.toInt → m.toInt < (n : Int) →
    Sf (f_X12_sums_L0 0 st q n k m na nc) (fun y => PN p e y.1 y.2.1 ∧ DP b N y.1.toNatClampNeg y.2.1.toNatClampNeg y.2.2.2 st 1 ∧ (w : Int) ≤ y.2.1.toInt ∧ y.2.1.toInt ≤ m.toInt ∧ (¬ q = 0 → ¬ isA (tp y.2.1 st))) := by
  intro n
  induction n with
  | zero => intro k m na nc hN hD hwm hn; exact absurd hn (by have := hN.2.1; omega)
  | succ n ih =>
    intro k m na nc hN hD hwm hn
    have step : isA (tp m st) → Sf (f_X12_sums_J24 0 st k m na nc (f_X12_sums_L0 0 st q n)) (fun y => PN p e y.1 y.2.1 ∧ DP b N y.1.toNatClampNeg y.2.1.toNatClampNeg y.2.2.2 st 1 ∧ (w : Int) ≤ y.2.1.toInt ∧ y.2.1.toInt ≤ m.toInt ∧ (¬ q = 0 → ¬ isA (tp y.2.1 st))) := by
      intro hA
      have hm : 0 < m.toInt := tp_ne (fun h => by rw [h] at hA; revert hA; unfold isA; decide)
      obtain ⟨s1, s2, s3, s4⟩ := pop_s hN hD hm (isA_bin hA).1 (isA_bin hA).2
      have hwm2 : (w : Int) ≤ m.toInt - 1 := by
        rcases hw with h | h
        · omega
        · by_cases c : (w : Int) = m.toInt
          · refine absurd hA ?_
            rw [tp_pos hm]
            have t := tN m hN.2.1
            have : m.toNatClampNeg = w := by omega
            rw [this]
            exact h
          · omega
      obtain ⟨n1, n2, n3, n4, n5⟩ := hN
      rw [f_X12_sums_J24, top_e (by omega), cb1_o, emit_e (by omega) (by omega), cb3_o, nmI_o]
      refine Sf_mono (ih _ _ _ _ s1 s2 (by omega) (by omega)) (fun y hy => ?_)
      exact ⟨hy.1, hy.2.1, hy.2.2.1, by have := hy.2.2.2.1; omega, hy.2.2.2.2⟩
    have ht := top_e (st := st) (m := m) (by obtain ⟨n1, n2, n3, n4, n5⟩ := hN; omega)
    rw [f_X12_sums_L0, ht, cb1_o, isTimes_e, cb1_o]
    refine Sf_ite (fun h => ?_) (fun h => ?_)
    · rw [bI_0] at h
      refine Sf_ite (fun h2 => ?_) (fun h2 => ?_)
      · exact Sf_some ⟨hN, hD, hwm, Int.le_refl _, fun c => absurd h2 c⟩
      · rw [cb1_o, isPlus_e, cb1_o]
        refine Sf_ite (fun h3 => ?_) (fun h3 => ?_)
        · rw [bI_0] at h3
          refine Sf_some ⟨hN, hD, hwm, Int.le_refl _, fun _ hA => ?_⟩
          rcases hA with a | a | a | a | a
          · exact h (Or.inl a)
          · exact h (Or.inr (Or.inl a))
          · exact h (Or.inr (Or.inr a))
          · exact h3 (Or.inl a)
          · exact h3 (Or.inr a)
        · rw [bI_0] at h3
          refine step ?_
          rcases Classical.not_not.mp h3 with a | a
          · exact Or.inr (Or.inr (Or.inr (Or.inl a)))
          · exact Or.inr (Or.inr (Or.inr (Or.inr a)))
    · rw [bI_0] at h
      refine step ?_
      rcases Classical.not_not.mp h with a | a | a
      · exact Or.inl a
      · exact Or.inr (Or.inl a)
      · exact Or.inr (Or.inr (Or.inl a))
theorem FUi : (100000 : Int) ≤ (FU : Int) := Int.ofNat_le.mpr FU_ge
theorem sums_s {b w : Nat} {N : Nat → Int32} {p e q k m : Int32} {st na nc : Nat → Int32} (hw : w = 0 ∨ ¬ isA (st (w - 1))) (hN : PN p e k m) (hD : DP b N k.toNatClampNeg m.toNatClampNeg nc st 1) (hwm : (w : Int) ≤ m.toInt) :
    Sf (f_X12_sums 0 k m na nc st q) (fun y => PN p e y.1 y.2.1 ∧ DP b N y.1.toNatClampNeg y.2.1.toNatClampNeg y.2.2.2 st 1 ∧ (w : Int) ≤ y.2.1.toInt ∧ y.2.1.toInt ≤ m.toInt ∧ (¬ q = 0 → ¬ isA (tp y.2.1 st))) := by
  rw [f_X12_sums]
  have := FUi
  obtain ⟨n1, n2, n3, n4, n5⟩ := hN
  exact sums_L b w N p e q st hw FU k m na nc ⟨n1, n2, n3, n4, n5⟩ hD hwm (by omega)
end
section
theorem ex_ite {α : Type} {c : Prop} {_ : Decidable c} {a b : Option α} (h1 : ∃ y, a = some y) (h2 : ∃ y, b = some y) : ∃ y, (if c then a else b) = some y := by
  by_cases h : c
  · rw [if_pos h]; exact h1
  · rw [if_neg h]; exact h2
/-- the stack from w on holds signs of an E; below it is as it was -/
def VL (w : Nat) (m : Int32) (st st0 : Nat → Int32) : Prop := (∀ i : Nat, w ≤ i → (i : Int) < m.toInt → isV (st i)) ∧ (∀ i : Nat, i < w → st i = st0 i) ∧ (w : Int) ≤ m.toInt
theorem VL_less {w : Nat} {m m' : Int32} {st st0 : Nat → Int32} (h : VL w m st st0) (h1 : (w : Int) ≤ m'.toInt) (h2 : m'.toInt ≤ m.toInt) : VL w m' st st0 := ⟨fun i a b => h.1 i a (by omega), h.2.1, h1⟩
theorem VL_push {w : Nat} {m : Int32} {st st0 : Nat → Int32} {x : Int32} (h : VL w m st st0) (h0 : 0 ≤ m.toInt) (h1 : m.toInt < 1000) (hx : isV x) : VL w (m + 1) (upd st m.toNatClampNeg x) st0 := by
  have o : (1 : Int32).toInt = 1 := by decide
  have e1 := adX m 1 (by omega) (by omega)
  have t := tN m h0
  refine ⟨fun i a b => ?_, fun i a => ?_, by have := h.2.2; omega⟩
  · unfold upd
    by_cases c : i = m.toNatClampNeg
    · rw [if_pos c]; exact hx
    · rw [if_neg c]; exact h.1 i a (by omega)
  · have := h.2.2
    unfold upd
    rw [if_neg (by omega)]
    exact h.2.1 i a
theorem PN_push {p e k m : Int32} (h : PN p e k m) (hp : p.toInt < e.toInt) : PN (p + 1) e k (m + 1) ∧ (p + 1).toInt = p.toInt + 1 ∧ (m + 1).toInt = m.toInt + 1 := by
  obtain ⟨n1, n2, n3, n4, n5⟩ := h
  have o : (1 : Int32).toInt = 1 := by decide
  have e1 := adX m 1 (by omega) (by omega)
  have e2 := adX p 1 (by omega) (by omega)
  exact ⟨⟨n1, by omega, by omega, by omega, n5⟩, e2.trans (by omega), e1.trans (by omega)⟩
theorem DP_cast {b k m k' m' dl : Nat} {N : Nat → Int32} {nc st : Nat → Int32} (h : DP b N k m nc st dl) (h1 : k = k') (h2 : m = m') : DP b N k' m' nc st dl := by subst h1; subst h2; exact h
theorem opens_s {p e o m : Int32} {st t : Nat → Int32} (h1 : 0 ≤ p.toInt) (h2 : e.toInt ≤ 120) (hpe : p.toInt ≤ 120) (h3 : 0 ≤ m.toInt) (h4 : m.toInt < 160) :
    Sf (f_X12_opens p e 0 o m st t) (fun y => y.1 = p + 1 ∧ y.2.2.2.1 = m + 1 ∧ y.2.2.2.2 = upd st m.toNatClampNeg (hr p e t) ∧ Bd y.2.1) := by
  have J : ∀ x : Int32, Bd x → Sf (f_X12_opens_J18 p e o m st t x) (fun y => y.1 = p + 1 ∧ y.2.2.2.1 = m + 1 ∧ y.2.2.2.2 = upd st m.toNatClampNeg (hr p e t) ∧ Bd y.2.1) := by
    intro x hx
    rw [f_X12_opens_J18, nmI_o, here_e h1 (by omega), cb1_o, puts_e h3 h4, cb3_o]
    exact Sf_some ⟨rfl, rfl, rfl, hx⟩
  rw [f_X12_opens]
  refine Sf_ite (fun _ => ?_) (fun _ => J 0 (Or.inl rfl))
  exact Sf_cb1 (wrongs_s 0 5 p (by decide) (by decide) h1 (by omega)) (fun x hx => J x (Or.inr hx))
theorem dig_e {p e : Int32} {t : Nat → Int32} (h1 : 0 ≤ p.toInt) (h2 : e.toInt ≤ 200) : f_X12_seesDigit p e t = some (bI (48 ≤ (hr p e t).toInt ∧ (hr p e t).toInt ≤ 57)) := by
  rw [f_X12_seesDigit, here_e h1 h2, cb1_o, L_iff, cb1_o, bo_bI, t64]
  rfl
theorem reads_L (s e : Int32) (t : Nat → Int32) (h2 : e.toInt ≤ 120) : ∀ (n : Nat) (x d p : Int32), Bd d → 0 ≤ p.toInt → p.toInt ≤ e.toInt → e.toInt - p.toInt + 1 < (n : Int) →
    Sf (f_X12_reads_L7 s e t n x d p) (fun y => Bd y.2.2 ∧ p.toInt ≤ y.2.1.toInt ∧ y.2.1.toInt ≤ e.toInt ∧ (d = 0 → (48 ≤ (hr p e t).toInt ∧ (hr p e t).toInt ≤ 57) → p.toInt + 1 ≤ y.2.1.toInt)) := by
  intro n
  induction n with
  | zero => intro x d p hbd h0 h1 hn; exact absurd hn (by omega)
  | succ n ih =>
    intro x d p hbd h0 h1 hn
    rw [f_X12_reads_L7]
    by_cases hd : d = 0
    · subst hd
      rw [isGood_0, cb1_o, if_neg (by decide), dig_e h0 (by omega), cb1_o]
      refine Sf_ite (fun h => ?_) (fun h => ?_)
      · rw [bI_0] at h
        exact Sf_some ⟨Or.inl rfl, Int.le_refl _, h1, fun _ c => absurd c h⟩
      · rw [bI_0] at h
        have h := Classical.not_not.mp h
        have hlt : p.toInt < e.toInt := hr_lt (t := t) (fun c => by
          have := eqI c
          have z : (0 : Int32).toInt = 0 := by decide
          omega)
        have o : (1 : Int32).toInt = 1 := by decide
        have e1 := adX p 1 (by omega) (by omega)
        have R : ∀ x' d' : Int32, Bd d' → Sf (f_X12_reads_L7 s e t n x' d' (p + 1)) (fun y => Bd y.2.2 ∧ p.toInt ≤ y.2.1.toInt ∧ y.2.1.toInt ≤ e.toInt ∧ ((0 : Int32) = 0 → (48 ≤ (hr p e t).toInt ∧ (hr p e t).toInt ≤ 57) → p.toInt + 1 ≤ y.2.1.toInt)) := by
          intro x' d' hd'
          refine Sf_mono (ih x' d' (p + 1) hd' (by omega) (by omega) (by omega)) (fun y hy => ?_)
          exact ⟨hy.1, by have := hy.2.1; omega, hy.2.2.1, fun _ _ => by have := hy.2.1; omega⟩
        refine Sf_ite (fun _ => ?_) (fun _ => ?_)
        · refine Sf_cb1 (wrongs_s 0 2 p (by decide) (by decide) h0 (by omega)) (fun d' hd' => ?_)
          rw [here_e h0 (by omega), cb1_o, nmI_o, nmI_o]
          exact R _ _ (Or.inr hd')
        · rw [here_e h0 (by omega), cb1_o, nmI_o, nmI_o]
          exact R _ _ (Or.inl rfl)
    · rw [isGood_n hd, cb1_o, if_pos rfl]
      exact Sf_some ⟨hbd, Int.le_refl _, h1, fun c => absurd c hd⟩
/-- what a factor leaves behind, if all is good -/
def FP (b : Nat) (N : Nat → Int32) (w : Nat) (e p0 : Int32) (st0 : Nat → Int32) (p k m : Int32) (nc st : Nat → Int32) (dl : Nat) : Prop := PN p e k m ∧ DP b N k.toNatClampNeg m.toNatClampNeg nc st dl ∧ VL w m st st0 ∧ p0.toInt ≤ p.toInt
theorem factor_J {b w : Nat} {N : Nat → Int32} {e p0 : Int32} {st0 t : Nat → Int32} {k : Int32} {na nc : Nat → Int32} (d o p m : Int32) (st : Nat → Int32) (hbd : Bd d) (h : d = 0 → FP b N w e p0 st0 p k m nc st 0) :
    Sf (f_X12_factor_J23 e k na nc t d o p m st) (fun y => Bd y.2.1 ∧ (y.2.1 = 0 → FP b N w e p0 st0 y.1 y.2.2.1 y.2.2.2.2.1 y.2.2.2.2.2.2.1 y.2.2.2.2.2.2.2 1 ∧ p0.toInt + 1 ≤ y.1.toInt)) := by
  rw [f_X12_factor_J23]
  by_cases hd : d = 0
  · subst hd
    obtain ⟨⟨n1, n2, n3, n4, n5⟩, hD, hVL, hp0⟩ := h rfl
    have o1 : (1 : Int32).toInt = 1 := by decide
    have h0 : 0 ≤ p.toInt := by omega
    rw [isGood_0, cb1_o, if_neg (by decide), dig_e h0 (by omega), cb1_o]
    have t1 := tN k n1
    refine Sf_ite (fun h => ?_) (fun h => ?_)
    · rw [here_e h0 (by omega), cb1_o]
      refine Sf_cb1 (R := fun y => y = 0 ∨ ¬ hr p e t = 0) ?_ (fun v hv => ?_)
      · rw [f_X12_isValue]
        by_cases c : hr p e t = 0
        · rw [c]
          exact ⟨0, by decide, Or.inl rfl⟩
        · have : ∃ y, f_X12_isValue (hr p e t) = some y := by
            rw [f_X12_isValue]
            repeat' (refine ex_ite ?_ ?_)
            all_goals exact ⟨_, rfl⟩
          obtain ⟨y, hy⟩ := this
          rw [f_X12_isValue] at hy
          exact ⟨y, hy, Or.inr c⟩
      · refine Sf_ite (fun _ => ?_) (fun hv2 => ?_)
        · refine Sf_cb1 (wrongs_s 0 1 p (by decide) (by decide) h0 (by omega)) (fun d' hd' => ?_)
          exact Sf_some (bad_lt hd')
        · have hlt : p.toInt < e.toInt := hr_lt (hv.resolve_left hv2)
          have e1 := adX p 1 (by omega) (by omega)
          have e2 := adX k 1 (by omega) (by omega)
          rw [cb1_o, emit_e n1 (by omega), cb3_o, nmI_o]
          have t2 := tN (k + 1) (by omega)
          refine Sf_some (bad_0 ⟨⟨⟨by show 0 ≤ (k + 1).toInt; omega, n2, by show (k + 1).toInt + m.toInt ≤ (p + 1).toInt; omega, by show (p + 1).toInt ≤ e.toInt; omega, n5⟩, ?_, hVL, by show p0.toInt ≤ (p + 1).toInt; omega⟩, by show p0.toInt + 1 ≤ (p + 1).toInt; omega⟩)
          exact DP_cast (DP_arg hD (by decide)) (by show k.toNatClampNeg + 1 = (k + 1).toNatClampNeg; omega) rfl
    · rw [bI_0] at h
      have h := Classical.not_not.mp h
      have := FUi
      refine Sf_cb3 (R := fun y => Bd y.2.2 ∧ p.toInt + 1 ≤ y.2.1.toInt ∧ y.2.1.toInt ≤ e.toInt) ?_ (fun x p' d' hq => ?_)
      · rw [f_X12_reads]
        refine Sf_mono (reads_L p e t n5 FU 0 0 p (Or.inl rfl) h0 n4 (by omega)) (fun y hy => ⟨hy.1, hy.2.2.2 rfl h, hy.2.2.1⟩)
      · have hqb : Bd d' := hq.1
        have hq : p.toInt + 1 ≤ p'.toInt ∧ p'.toInt ≤ e.toInt := hq.2
        by_cases hd' : d' = 0
        · subst hd'
          have e2 := adX k 1 (by omega) (by omega)
          rw [emit_e n1 (by omega), cb3_o]
          have t2 := tN (k + 1) (by omega)
          refine Sf_some (bad_0 ⟨⟨⟨by show 0 ≤ (k + 1).toInt; omega, n2, by show (k + 1).toInt + m.toInt ≤ p'.toInt; omega, by show p'.toInt ≤ e.toInt; omega, n5⟩, ?_, hVL, by show p0.toInt ≤ p'.toInt; omega⟩, by show p0.toInt + 1 ≤ p'.toInt; omega⟩)
          exact DP_cast (DP_arg hD (by decide)) (by show k.toNatClampNeg + 1 = (k + 1).toNatClampNeg; omega) rfl
        · rw [f_X12_emit, isGood_n hd', cb1_o, if_pos rfl, cb3_o]
          exact Sf_some (bad_n hqb hd')
  · rw [isGood_n hd, cb1_o, if_pos rfl]
    exact Sf_some (bad_n hbd hd)
theorem factor_L {b w : Nat} {N : Nat → Int32} {e p0 : Int32} {st0 t : Nat → Int32} {k : Int32} {na nc : Nat → Int32} : ∀ (n : Nat) (d o p m : Int32) (st : Nat → Int32), Bd d → (d = 0 → FP b N w e p0 st0 p k m nc st 0 ∧ e.toInt - p.toInt + 1 < (n : Int)) → 1 ≤ n →
    Sf (f_X12_factor_L0 e t (f_X12_factor_J23 e k na nc t) n d o p m st) (fun y => Bd y.2.1 ∧ (y.2.1 = 0 → FP b N w e p0 st0 y.1 y.2.2.1 y.2.2.2.2.1 y.2.2.2.2.2.2.1 y.2.2.2.2.2.2.2 1 ∧ p0.toInt + 1 ≤ y.1.toInt)) := by
  intro n
  induction n with
  | zero => intro d o p m st hbd h hn; exact absurd hn (by omega)
  | succ n ih =>
    intro d o p m st hbd h hn
    rw [f_X12_factor_L0]
    by_cases hd : d = 0
    · subst hd
      obtain ⟨hF, hn2⟩ := h rfl
      have hF' := hF
      obtain ⟨hN, hD, hVL, hp0⟩ := hF
      obtain ⟨n1, n2, n3, n4, n5⟩ := hN
      have h0 : 0 ≤ p.toInt := by omega
      rw [isGood_0, cb1_o, if_neg (by decide), here_e h0 (by omega), cb1_o]
      refine Sf_ite (fun h9 => ?_) (fun _ => ?_)
      · have hlt : p.toInt < e.toInt := hr_lt (t := t) (by rw [h9]; decide)
        refine Sf_cb5 (opens_s h0 n5 (by omega) n2 (by omega)) (fun p' d' o' m' st' hq => ?_)
        obtain ⟨q1, q2, q3, q0⟩ := hq
        have q0 : Bd d' := q0
        have q1 : p' = p + 1 := q1
        have q2 : m' = m + 1 := q2
        have q3 : st' = upd st m.toNatClampNeg (hr p e t) := q3
        subst q1; subst q2; subst q3
        obtain ⟨s1, s2, s3⟩ := PN_push ⟨n1, n2, n3, n4, n5⟩ hlt
        have t1 := tN m n2
        have t2 := tN (m + 1) (by omega)
        refine ih d' o' (p + 1) (m + 1) _ q0 (fun _ => ⟨⟨s1, ?_, VL_push hVL n2 (by omega) (by rw [h9]; exact Or.inr (Or.inr (Or.inr (Or.inr (Or.inr rfl))))), by omega⟩, by omega⟩) (by omega)
        exact DP_cast (DP_pushn hD (by rw [h9]; decide)) rfl (by omega)
      · exact factor_J 0 o p m st (Or.inl rfl) (fun _ => hF')
    · rw [isGood_n hd, cb1_o, if_pos rfl]
      exact factor_J d o p m st hbd (fun c => absurd c hd)
theorem factor_s {b w : Nat} {N : Nat → Int32} {e p0 : Int32} {st0 t : Nat → Int32} {k o p m : Int32} {na nc st : Nat → Int32} (h : FP b N w e p0 st0 p k m nc st 0) :
    Sf (f_X12_factor p e 0 k o m na nc st t) (fun y => Bd y.2.1 ∧ (y.2.1 = 0 → FP b N w e p0 st0 y.1 y.2.2.1 y.2.2.2.2.1 y.2.2.2.2.2.2.1 y.2.2.2.2.2.2.2 1 ∧ p.toInt + 1 ≤ y.1.toInt)) := by
  rw [f_X12_factor]
  have := FUi
  have hN := h.1
  obtain ⟨n1, n2, n3, n4, n5⟩ := hN
  have h2 : FP b N w e p st0 p k m nc st 0 := ⟨h.1, h.2.1, h.2.2.1, Int.le_refl _⟩
  refine Sf_mono (factor_L (b := b) (N := N) (w := w) (p0 := p) (st0 := st0) FU 0 o p m st (Or.inl rfl) (fun _ => ⟨h2, by omega⟩) (by omega)) (fun y hy => ⟨hy.1, fun c => ?_⟩)
  have hy := hy.2 c
  exact ⟨⟨hy.1.1, hy.1.2.1, hy.1.2.2.1, by have := h.2.2.2; have := hy.2; omega⟩, hy.2⟩
end
section
theorem isA_V {x : Int32} (h : isA x) : isV x := by
  rcases h with h | h | h | h | h
  · exact Or.inl h
  · exact Or.inr (Or.inl h)
  · exact Or.inr (Or.inr (Or.inl h))
  · exact Or.inr (Or.inr (Or.inr (Or.inl h)))
  · exact Or.inr (Or.inr (Or.inr (Or.inr (Or.inl h))))
/-- below w no sign of an E stands on the top -/
def BS (w : Nat) (st0 : Nat → Int32) : Prop := w = 0 ∨ ¬ isV (st0 (w - 1))
theorem BS_A {w : Nat} {m : Int32} {st st0 : Nat → Int32} (h : BS w st0) (hV : VL w m st st0) : w = 0 ∨ ¬ isA (st (w - 1)) := by
  rcases h with h | h
  · exact Or.inl h
  · by_cases c : w = 0
    · exact Or.inl c
    · refine Or.inr (fun hA => h ?_)
      rw [← hV.2.1 (w - 1) (by omega)]
      exact isA_V hA
/-- what stays leaves behind -/
def SP (b : Nat) (N : Nat → Int32) (w : Nat) (e p0 : Int32) (st0 : Nat → Int32) (r p d k m ib : Int32) (nc st : Nat → Int32) : Prop := Bd d ∧ (d = 0 → (¬ r = 0 → p0.toInt + 1 ≤ p.toInt ∧ (ib = 0 → FP b N w e p0 st0 p k m nc st 0) ∧ (¬ ib = 0 → FP b N w e p0 st0 p k m nc st 1)) ∧ (r = 0 → p = p0 ∧ FP b N w e p0 st0 p k m nc st 1 ∧ ¬ isA (tp m st)))
theorem stays_s {b w : Nat} {N : Nat → Int32} {e p k o m : Int32} {st0 t na nc st : Nat → Int32} (hB : BS w st0) (hF : FP b N w e p st0 p k m nc st 1) :
    Sf (f_X12_stays p e 0 k o m 0 na nc st t) (fun y => SP b N w e p st0 y.1 y.2.1 y.2.2.1 y.2.2.2.1 y.2.2.2.2.2.1 y.2.2.2.2.2.2.1 y.2.2.2.2.2.2.2.2.1 y.2.2.2.2.2.2.2.2.2) := by
  obtain ⟨hN, hD, hVL, -⟩ := hF
  have hN' := hN
  obtain ⟨n1, n2, n3, n4, n5⟩ := hN
  have h0 : 0 ≤ p.toInt := by omega
  have o1 : (1 : Int32).toInt = 1 := by decide
  have push : isA (hr p e t) → Sf (f_X12_stays_J19 st (hr p e t) 0 k 0 o p m na nc) (fun y => SP b N w e p st0 y.1 y.2.1 y.2.2.1 y.2.2.2.1 y.2.2.2.2.2.1 y.2.2.2.2.2.2.1 y.2.2.2.2.2.2.2.2.1 y.2.2.2.2.2.2.2.2.2) := by
    intro hA
    have hlt : p.toInt < e.toInt := hr_lt (t := t) (fun c => by rw [c] at hA; revert hA; unfold isA; decide)
    rw [f_X12_stays_J19, isPlus_e, cb1_o]
    refine Sf_cb4 (sums_s (BS_A hB hVL) hN' hD hVL.2.2) (fun k' m' na' nc' hq => ?_)
    obtain ⟨q1, q2, q3, q4, -⟩ := hq
    have q1 : PN p e k' m' := q1
    have q2 : DP b N k'.toNatClampNeg m'.toNatClampNeg nc' st 1 := q2
    have q3 : (w : Int) ≤ m'.toInt := q3
    have q4 : m'.toInt ≤ m.toInt := q4
    have q1' := q1
    obtain ⟨a1, a2, a3, a4, a5⟩ := q1
    rw [puts_e a2 (by omega), cb3_o]
    obtain ⟨s1, s2, s3⟩ := PN_push q1' hlt
    have t1 := tN m' a2
    have t2 := tN (m' + 1) (by omega)
    refine Sf_some (show SP b N w e p st0 1 (p + 1) 0 k' (m' + 1) 0 nc' (upd st m'.toNatClampNeg (hr p e t)) from bad_0 ⟨fun _ => ⟨by omega, fun _ => ⟨s1, ?_, VL_push (VL_less hVL q3 q4) a2 (by omega) (isA_V hA), by omega⟩, fun c => absurd rfl c⟩, fun c => absurd c (by decide)⟩)
    exact DP_cast (DP_push q2 (isA_bin hA).1) rfl (by omega)
  rw [f_X12_stays, here_e h0 (by omega), cb1_o, isTimes_e, cb1_o]
  refine Sf_ite (fun h => ?_) (fun h => ?_)
  · rw [bI_0] at h
    rw [isPlus_e, cb1_o]
    refine Sf_ite (fun h2 => ?_) (fun h2 => ?_)
    · rw [bI_0] at h2
      refine Sf_cb4 (sums_s (BS_A hB hVL) hN' hD hVL.2.2) (fun k' m' na' nc' hq => ?_)
      obtain ⟨q1, q2, q3, q4, q5⟩ := hq
      have q1 : PN p e k' m' := q1
      have q2 : DP b N k'.toNatClampNeg m'.toNatClampNeg nc' st 1 := q2
      have q3 : (w : Int) ≤ m'.toInt := q3
      have q4 : m'.toInt ≤ m.toInt := q4
      have q5 : ¬ isA (tp m' st) := q5 (by decide)
      have hV' := VL_less hVL q3 q4
      have q1' := q1
      obtain ⟨a1, a2, a3, a4, a5⟩ := q1
      refine Sf_ite (fun h3 => ?_) (fun h3 => ?_)
      · have hlt : p.toInt < e.toInt := hr_lt (t := t) (by rw [h3]; decide)
        rw [top_e (by omega), cb1_o]
        refine Sf_ite (fun h4 => ?_) (fun h4 => ?_)
        · have hm : 0 < m'.toInt := tp_ne (by rw [h4]; decide)
          have t1 := tN m' a2
          have hwm : (w : Int) < m'.toInt := by
            by_cases c : (w : Int) = m'.toInt
            · exfalso
              rcases hB with h | h
              · omega
              · refine h ?_
                rw [← hV'.2.1 (w - 1) (by omega)]
                have e4 : m'.toNatClampNeg = w := by omega
                rw [tp_pos hm, e4] at h4
                exact Or.inr (Or.inr (Or.inr (Or.inr (Or.inr h4))))
            · omega
          have e1 := sbX m' 1 (by omega) (by omega)
          have e2 := adX p 1 (by omega) (by omega)
          have t2 := tN (m' - 1) (by omega)
          rw [nmI_o, nmI_o, nmI_o]
          refine Sf_some (show SP b N w e p st0 1 (p + 1) 0 k' (m' - 1) 1 nc' st from bad_0 ⟨fun _ => ⟨by show p.toInt + 1 ≤ (p + 1).toInt; omega, fun c => absurd c (by decide), fun _ => ⟨⟨a1, by show 0 ≤ (m' - 1).toInt; omega, by show k'.toInt + (m' - 1).toInt ≤ (p + 1).toInt; omega, by show (p + 1).toInt ≤ e.toInt; omega, a5⟩, ?_, VL_less hV' (by show (w : Int) ≤ (m' - 1).toInt; omega) (by show (m' - 1).toInt ≤ m'.toInt; omega), by show p.toInt ≤ (p + 1).toInt; omega⟩⟩, fun c => absurd c (by decide)⟩)
          have e3 : m'.toNatClampNeg = (m' - 1).toNatClampNeg + 1 := by omega
          rw [e3] at q2
          refine DP_popn q2 ?_
          have e5 : st (m' - 1).toNatClampNeg = 91 := by rw [tp_pos hm] at h4; rw [← h4]; congr 1; omega
          rw [e5]
          decide
        · refine Sf_cb1 (wrongs_s 0 1 p (by decide) (by decide) h0 (by omega)) (fun d' hd' => ?_)
          exact Sf_some (bad_lt hd')
      · exact Sf_some (bad_0 ⟨fun c => absurd rfl c, fun _ => ⟨rfl, ⟨q1', q2, hV', Int.le_refl _⟩, q5⟩⟩)
    · rw [bI_0] at h2
      refine push ?_
      rcases Classical.not_not.mp h2 with a | a
      · exact Or.inr (Or.inr (Or.inr (Or.inl a)))
      · exact Or.inr (Or.inr (Or.inr (Or.inr a)))
  · rw [bI_0] at h
    refine push ?_
    rcases Classical.not_not.mp h with a | a | a
    · exact Or.inl a
    · exact Or.inr (Or.inl a)
    · exact Or.inr (Or.inr (Or.inl a))
/-- what a value leaves behind -/
def VP (b : Nat) (N : Nat → Int32) (w : Nat) (e p0 : Int32) (st0 : Nat → Int32) (m0 : Int32) (p d k m : Int32) (nc st : Nat → Int32) : Prop := Bd d ∧ (d = 0 → PN p e k m ∧ p0.toInt + 1 ≤ p.toInt ∧ m.toInt = m0.toInt ∧ DP b N k.toNatClampNeg m.toNatClampNeg nc st 1 ∧ ∀ i : Nat, i < w → st i = st0 i)
theorem value_J {b w : Nat} {N : Nat → Int32} {e p0 m0 : Int32} {st0 : Nat → Int32} (hB : BS w st0) (hw : (w : Int) = m0.toInt) (d k ib o p m : Int32) (na nc st : Nat → Int32) (hbd : Bd d) (h : d = 0 → p0.toInt + 1 ≤ p.toInt ∧ FP b N w e p0 st0 p k m nc st 1 ∧ ¬ isA (tp m st)) :
    Sf (f_X12_value_J57 d k ib o p m na nc st) (fun y => VP b N w e p0 st0 m0 y.1 y.2.1 y.2.2.1 y.2.2.2.2.1 y.2.2.2.2.2.2.2.1 y.2.2.2.2.2.2.2.2) := by
  rw [f_X12_value_J57]
  by_cases hd : d = 0
  · subst hd
    obtain ⟨hp, ⟨hN, hD, hVL, -⟩, hA⟩ := h rfl
    have hN' := hN
    obtain ⟨n1, n2, n3, n4, n5⟩ := hN
    rw [isGood_0, cb1_o, if_neg (by decide), top_e (by omega), cb1_o]
    refine Sf_ite (fun h9 => ?_) (fun h9 => ?_)
    · refine Sf_cb1 (wrongs_s 0 1 p (by decide) (by decide) (by omega) (by omega)) (fun d' hd' => ?_)
      exact Sf_some (bad_lt hd')
    · refine Sf_some (bad_0 ⟨hN', hp, ?_, hD, hVL.2.1⟩)
      show m.toInt = m0.toInt
      have h1 := hVL.2.2
      by_cases c : (w : Int) < m.toInt
      · exfalso
        have t1 := tN m n2
        have h2 := hVL.1 (m.toNatClampNeg - 1) (by omega) (by omega)
        have h3 : isV (tp m st) := by rw [tp_pos (m := m) (by omega)]; exact h2
        rcases h3 with a | a | a | a | a | a
        · exact hA (Or.inl a)
        · exact hA (Or.inr (Or.inl a))
        · exact hA (Or.inr (Or.inr (Or.inl a)))
        · exact hA (Or.inr (Or.inr (Or.inr (Or.inl a))))
        · exact hA (Or.inr (Or.inr (Or.inr (Or.inr a))))
        · exact h9 a
      · omega
  · rw [isGood_n hd, cb1_o, if_pos rfl]
    exact Sf_some (bad_n hbd hd)
theorem value_L {b w : Nat} {N : Nat → Int32} {e p0 m0 : Int32} {st0 t : Nat → Int32} (hB : BS w st0) (hw : (w : Int) = m0.toInt) : ∀ (n : Nat) (x d k ib o p m : Int32) (na nc st : Nat → Int32),
    Bd d → (d = 0 → p0.toInt ≤ p.toInt ∧ (x = 0 → p0.toInt + 1 ≤ p.toInt ∧ FP b N w e p0 st0 p k m nc st 1 ∧ ¬ isA (tp m st)) ∧ (¬ x = 0 → (ib = 0 → FP b N w e p0 st0 p k m nc st 0) ∧ (¬ ib = 0 → p0.toInt + 1 ≤ p.toInt ∧ FP b N w e p0 st0 p k m nc st 1)) ∧ (¬ x = 0 → e.toInt - p.toInt + 2 < (n : Int))) → 1 ≤ n →
    Sf (f_X12_value_L7 e t f_X12_value_J57 n x d k ib o p m na nc st) (fun y => VP b N w e p0 st0 m0 y.1 y.2.1 y.2.2.1 y.2.2.2.2.1 y.2.2.2.2.2.2.2.1 y.2.2.2.2.2.2.2.2) := by
  intro n
  induction n with
  | zero => intro x d k ib o p m na nc st hbd h hn; exact absurd hn (by omega)
  | succ n ih =>
    intro x d k ib o p m na nc st hbd h hn
    rw [f_X12_value_L7]
    refine Sf_ite (fun hx => ?_) (fun hx => ?_)
    · exact value_J hB hw d k ib o p m na nc st hbd (fun c => (h c).2.1 hx)
    · by_cases hd : d = 0
      · subst hd
        obtain ⟨hp, -, hx2, hn2⟩ := h rfl
        have hx2 := hx2 hx
        have hn2 := hn2 hx
        have hpe : p.toInt ≤ e.toInt := by
          by_cases c : ib = 0
          · exact (hx2.1 c).1.2.2.2.1
          · exact (hx2.2 c).2.1.2.2.2.1
        rw [isGood_0, cb1_o, if_neg (by decide)]
        -- behind an operand
        have next : ∀ (d k o p' m : Int32) (na nc st : Nat → Int32), Bd d → (d = 0 → p0.toInt + 1 ≤ p'.toInt ∧ p.toInt ≤ p'.toInt ∧ FP b N w e p0 st0 p' k m nc st 1) → (d = 0 → ¬ ib = 0 ∨ p.toInt + 1 ≤ p'.toInt) →
            Sf (f_X12_value_J29 e t (f_X12_value_L7 e t f_X12_value_J57 n) d k o p' m na nc st) (fun y => VP b N w e p0 st0 m0 y.1 y.2.1 y.2.2.1 y.2.2.2.2.1 y.2.2.2.2.2.2.2.1 y.2.2.2.2.2.2.2.2) := by
          intro d k o p' m na nc st hbd hg hg2
          rw [f_X12_value_J29]
          by_cases hd : d = 0
          · subst hd
            obtain ⟨g1, g2, g3⟩ := hg rfl
            have g3' : FP b N w e p' st0 p' k m nc st 1 := ⟨g3.1, g3.2.1, g3.2.2.1, Int.le_refl _⟩
            rw [isGood_0, cb1_o, if_neg (by decide)]
            refine Sf_cb10 (stays_s hB g3') (fun r p2 d2 k2 o2 m2 ib2 na2 nc2 st2 hq => ?_)
            have hq : SP b N w e p' st0 r p2 d2 k2 m2 ib2 nc2 st2 := hq
            refine Sf_ite (fun hr0 => ?_) (fun hr0 => ?_)
            · refine ih 0 d2 k2 ib2 o2 p2 m2 na2 nc2 st2 hq.1 (fun c => ?_) (by have := g3.1.2.2.2.1; omega)
              obtain ⟨q1, q2, q3⟩ := (hq.2 c).2 hr0
              subst q1
              exact ⟨by omega, fun _ => ⟨g1, ⟨q2.1, q2.2.1, q2.2.2.1, by omega⟩, q3⟩, fun c => absurd rfl c, fun c => absurd rfl c⟩
            · refine ih 1 d2 k2 ib2 o2 p2 m2 na2 nc2 st2 hq.1 (fun c => ?_) (by have := g3.1.2.2.2.1; omega)
              obtain ⟨q1, q2, q3⟩ := (hq.2 c).1 hr0
              exact ⟨by omega, fun c => absurd c (by decide), fun _ => ⟨fun z => ⟨(q2 z).1, (q2 z).2.1, (q2 z).2.2.1, by omega⟩, fun z => ⟨by omega, (q3 z).1, (q3 z).2.1, (q3 z).2.2.1, by omega⟩⟩, fun _ => by omega⟩
          · rw [isGood_n hd, cb1_o, if_pos rfl]
            refine ih 0 d k 0 o p' m na nc st hbd (fun c => absurd c hd) ?_
            have := hn2
            omega
        refine Sf_ite (fun hib => ?_) (fun hib => ?_)
        · refine Sf_cb8 (factor_s (hx2.1 hib)) (fun p2 d2 k2 o2 m2 na2 nc2 st2 hq => ?_)
          have hq : Bd d2 ∧ (d2 = 0 → FP b N w e p0 st0 p2 k2 m2 nc2 st2 1 ∧ p.toInt + 1 ≤ p2.toInt) := hq
          exact next d2 k2 o2 p2 m2 na2 nc2 st2 hq.1 (fun c => ⟨by have := (hq.2 c).2; omega, by have := (hq.2 c).2; omega, (hq.2 c).1⟩) (fun c => Or.inr (hq.2 c).2)
        · exact next 0 k o p m na nc st (Or.inl rfl) (fun _ => ⟨(hx2.2 hib).1, Int.le_refl _, (hx2.2 hib).2⟩) (fun _ => Or.inl hib)
      · rw [isGood_n hd, cb1_o, if_pos rfl]
        exact value_J hB hw d k ib o p m na nc st hbd (fun c => absurd c hd)
theorem value_s {b w : Nat} {N : Nat → Int32} {e p k o m ib : Int32} {t na nc st : Nat → Int32} (hB : BS w st) (hw : (w : Int) = m.toInt) (hN : PN p e k m) (hD : DP b N k.toNatClampNeg m.toNatClampNeg nc st 0) :
    Sf (f_X12_value p e 0 k o m ib na nc st t) (fun y => VP b N w e p st m y.1 y.2.1 y.2.2.1 y.2.2.2.2.1 y.2.2.2.2.2.2.2.1 y.2.2.2.2.2.2.2.2) := by
  rw [f_X12_value]
  have := FUi
  obtain ⟨n1, n2, n3, n4, n5⟩ := hN
  have hF : FP b N w e p st p k m nc st 0 := ⟨⟨n1, n2, n3, n4, n5⟩, hD, ⟨fun i a c => absurd c (by omega), fun _ _ => rfl, by omega⟩, Int.le_refl _⟩
  refine value_L hB hw FU 1 0 k 0 o p m na nc st (Or.inl rfl) (fun _ => ⟨Int.le_refl _, fun c => absurd c (by decide), fun _ => ⟨fun _ => hF, fun c => absurd rfl c⟩, fun _ => by omega⟩) (by omega)
end
section
/-- signs of a C's level on the stack -/
def CL (m : Int32) (st : Nat → Int32) : Prop := (∀ i : Nat, (i : Int) < m.toInt → isC (st i)) ∧ st 0 = 40
theorem CL_less {m m' : Int32} {st : Nat → Int32} (h : CL m st) (h2 : m'.toInt ≤ m.toInt) : CL m' st := ⟨fun i a => h.1 i (by omega), h.2⟩
theorem CL_push {m : Int32} {st : Nat → Int32} {x : Int32} (h : CL m st) (h0 : 0 < m.toInt) (h1 : m.toInt < 1000) (hx : isC x) : CL (m + 1) (upd st m.toNatClampNeg x) := by
  have o : (1 : Int32).toInt = 1 := by decide
  have e1 := adX m 1 (by omega) (by omega)
  have t := tN m (by omega)
  refine ⟨fun i a => ?_, ?_⟩
  · unfold upd
    by_cases c : i = m.toNatClampNeg
    · rw [if_pos c]; exact hx
    · rw [if_neg c]; exact h.1 i (by omega)
  · unfold upd
    rw [if_neg (by omega)]
    exact h.2
theorem CL_eq {m : Int32} {st st' : Nat → Int32} (h : CL m st) (he : ∀ i : Nat, (i : Int) < m.toInt → st' i = st i) (h0 : 0 < m.toInt) : CL m st' := by
  refine ⟨fun i a => ?_, ?_⟩
  · rw [he i a]; exact h.1 i a
  · rw [he 0 (by omega)]; exact h.2
theorem isC_V {x : Int32} (h : isC x) : ¬ isV x := by
  unfold isV
  rcases h with h | h | h | h <;> subst h <;> decide
theorem tp_one {m : Int32} {st : Nat → Int32} (h : 0 < m.toInt) (h0 : st 0 = 40) (hn : ¬ tp m st = 40) : 1 < m.toInt := by
  by_cases c : m.toInt = 1
  · refine absurd ?_ hn
    rw [tp_pos h]
    have t := tN m (by omega)
    rw [show m.toNatClampNeg - 1 = 0 by omega]
    exact h0
  · omega
theorem joins_L (b : Nat) (N : Nat → Int32) (p e q : Int32) (st : Nat → Int32) (h0 : st 0 = 40) : ∀ (n : Nat) (k m : Int32) (na nc : Nat → Int32), PN p e k m → DP b N k.toNatClampNeg m.toNatClampNeg nc st 1 → 0 < m.toInt → m.toInt < (n : Int) →
    Sf (f_X12_joins_L0 0 st q n k m na nc) (fun y => PN p e y.1 y.2.1 ∧ DP b N y.1.toNatClampNeg y.2.1.toNatClampNeg y.2.2.2 st 1 ∧ 0 < y.2.1.toInt ∧ y.2.1.toInt ≤ m.toInt ∧ (¬ q = 0 → ¬ tp y.2.1 st = 38 ∧ ¬ tp y.2.1 st = 124)) := by
  intro n
  induction n with
  | zero => intro k m na nc hN hD hm hn; exact absurd hn (by omega)
  | succ n ih =>
    intro k m na nc hN hD hm hn
    have step : (tp m st = 38 ∨ tp m st = 124) → Sf (f_X12_joins_J22 0 st k m na nc (f_X12_joins_L0 0 st q n)) (fun y => PN p e y.1 y.2.1 ∧ DP b N y.1.toNatClampNeg y.2.1.toNatClampNeg y.2.2.2 st 1 ∧ 0 < y.2.1.toInt ∧ y.2.1.toInt ≤ m.toInt ∧ (¬ q = 0 → ¬ tp y.2.1 st = 38 ∧ ¬ tp y.2.1 st = 124)) := by
      intro hA
      have h1 : 1 < m.toInt := tp_one hm h0 (fun c => by rw [c] at hA; revert hA; decide)
      have hb : bin (tp m st) = true ∧ 2 < (tp m st).toInt := by
        rcases hA with h | h <;> rw [h] <;> decide
      obtain ⟨s1, s2, s3, s4⟩ := pop_s hN hD hm hb.1 hb.2
      obtain ⟨n1, n2, n3, n4, n5⟩ := hN
      rw [f_X12_joins_J22, top_e (by omega), cb1_o, emit_e (by omega) (by omega), cb3_o, nmI_o]
      refine Sf_mono (ih _ _ _ _ s1 s2 (by omega) (by omega)) (fun y hy => ?_)
      exact ⟨hy.1, hy.2.1, hy.2.2.1, by have := hy.2.2.2.1; omega, hy.2.2.2.2⟩
    have ht := top_e (st := st) (m := m) (by obtain ⟨n1, n2, n3, n4, n5⟩ := hN; omega)
    rw [f_X12_joins_L0, ht, cb1_o]
    refine Sf_ite (fun h => step (Or.inl h)) (fun h => ?_)
    refine Sf_ite (fun h2 => ?_) (fun h2 => ?_)
    · exact Sf_some ⟨hN, hD, hm, Int.le_refl _, fun c => absurd h2 c⟩
    · rw [cb1_o]
      refine Sf_ite (fun h3 => step (Or.inr h3)) (fun h3 => ?_)
      exact Sf_some ⟨hN, hD, hm, Int.le_refl _, fun _ => ⟨h, h3⟩⟩
theorem joins_s {b : Nat} {N : Nat → Int32} {p e q k m : Int32} {st na nc : Nat → Int32} (h0 : st 0 = 40) (hN : PN p e k m) (hD : DP b N k.toNatClampNeg m.toNatClampNeg nc st 1) (hm : 0 < m.toInt) :
    Sf (f_X12_joins 0 k m na nc st q) (fun y => PN p e y.1 y.2.1 ∧ DP b N y.1.toNatClampNeg y.2.1.toNatClampNeg y.2.2.2 st 1 ∧ 0 < y.2.1.toInt ∧ y.2.1.toInt ≤ m.toInt ∧ (¬ q = 0 → ¬ tp y.2.1 st = 38 ∧ ¬ tp y.2.1 st = 124)) := by
  rw [f_X12_joins]
  have := FUi
  obtain ⟨n1, n2, n3, n4, n5⟩ := hN
  exact joins_L b N p e q st h0 FU k m na nc ⟨n1, n2, n3, n4, n5⟩ hD hm (by omega)
/-- a bracket or a not goes from the stack -/
theorem popn_s {b : Nat} {N : Nat → Int32} {p e k m : Int32} {nc st : Nat → Int32} {dl : Nat} (hN : PN p e k m) (hD : DP b N k.toNatClampNeg m.toNatClampNeg nc st dl) (hm : 0 < m.toInt) (hb : bin (tp m st) = false) : DP b N k.toNatClampNeg (m - 1).toNatClampNeg nc st dl ∧ (m - 1).toInt = m.toInt - 1 := by
  obtain ⟨n1, n2, n3, n4, n5⟩ := hN
  have o : (1 : Int32).toInt = 1 := by decide
  have e2 := sbX m 1 (by omega) (by omega)
  have t2 := tN m n2
  have t4 := tN (m - 1) (by omega)
  have q : m.toNatClampNeg = (m - 1).toNatClampNeg + 1 := by omega
  have q3 : tp m st = st (m - 1).toNatClampNeg := by rw [tp_pos hm]; congr 1; omega
  rw [q] at hD
  rw [q3] at hb
  exact ⟨DP_popn hD hb, by omega⟩
theorem ends_L (b : Nat) (N : Nat → Int32) (p e : Int32) (st : Nat → Int32) (h0 : st 0 = 40) : ∀ (n : Nat) (k o m : Int32) (na nc : Nat → Int32), PN p e k m → DP b N k.toNatClampNeg m.toNatClampNeg nc st 1 → 0 < m.toInt → m.toInt < (n : Int) →
    Sf (f_X12_ends_L0 0 st n k o m na nc) (fun y => PN p e y.1 y.2.2.1 ∧ DP b N y.1.toNatClampNeg y.2.2.1.toNatClampNeg y.2.2.2.2 st 1 ∧ 0 < y.2.2.1.toInt ∧ y.2.2.1.toInt ≤ m.toInt) := by
  intro n
  induction n with
  | zero => intro k o m na nc hN hD hm hn; exact absurd hn (by omega)
  | succ n ih =>
    intro k o m na nc hN hD hm hn
    have hN' := hN
    obtain ⟨n1, n2, n3, n4, n5⟩ := hN
    rw [f_X12_ends_L0, top_e (by omega), cb1_o]
    refine Sf_ite (fun h => ?_) (fun h => ?_)
    · have h1 : 1 < m.toInt := tp_one hm h0 (fun c => by rw [c] at h; revert h; decide)
      have o1 : (1 : Int32).toInt = 1 := by decide
      have e1 := adX k 1 (by omega) (by omega)
      have t1 := tN k n1
      have t2 := tN (k + 1) (by omega)
      obtain ⟨s1, s2⟩ := popn_s hN' hD hm (by rw [h]; decide)
      have s3 := DP_not s1
      rw [show k.toNatClampNeg + 1 = (k + 1).toNatClampNeg by omega] at s3
      rw [emit_e n1 (by omega), cb3_o, nmI_o, nmI_o]
      refine Sf_mono (ih _ _ _ _ _ ⟨by omega, by omega, by omega, n4, n5⟩ s3 (by omega) (by omega)) (fun y hy => ?_)
      exact ⟨hy.1, hy.2.1, hy.2.2.1, by have := hy.2.2.2; omega⟩
    · exact Sf_some ⟨hN', hD, hm, Int.le_refl _⟩
theorem ends_s {b : Nat} {N : Nat → Int32} {p e k o m : Int32} {st na nc : Nat → Int32} (h0 : st 0 = 40) (hN : PN p e k m) (hD : DP b N k.toNatClampNeg m.toNatClampNeg nc st 1) (hm : 0 < m.toInt) :
    Sf (f_X12_ends 0 k o m na nc st) (fun y => PN p e y.1 y.2.2.1 ∧ DP b N y.1.toNatClampNeg y.2.2.1.toNatClampNeg y.2.2.2.2 st 1 ∧ 0 < y.2.2.1.toInt ∧ y.2.2.1.toInt ≤ m.toInt) := by
  rw [f_X12_ends]
  have := FUi
  obtain ⟨n1, n2, n3, n4, n5⟩ := hN
  exact ends_L b N p e st h0 FU k o m na nc ⟨n1, n2, n3, n4, n5⟩ hD hm (by omega)
/-- a place within a C -/
def CP (b : Nat) (N : Nat → Int32) (e p k m : Int32) (nc st : Nat → Int32) (dl : Nat) : Prop := PN p e k m ∧ DP b N k.toNatClampNeg m.toNatClampNeg nc st dl ∧ CL m st ∧ 0 < m.toInt
theorem piece_J43 {b : Nat} {N : Nat → Int32} {e p0 : Int32} {t : Nat → Int32} (d k ib o p m : Int32) (na nc st : Nat → Int32) (hbd : Bd d) (h : d = 0 → CP b N e p k m nc st 1 ∧ p0.toInt + 1 ≤ p.toInt) :
    Sf (f_X12_pieceOfC_J43 e t d k ib o p m na nc st) (fun y => Bd y.2.1 ∧ (y.2.1 = 0 → CP b N e y.1 y.2.2.1 y.2.2.2.2.1 y.2.2.2.2.2.2.2.1 y.2.2.2.2.2.2.2.2 1 ∧ p0.toInt + 1 ≤ y.1.toInt)) := by
  rw [f_X12_pieceOfC_J43]
  by_cases hd : d = 0
  · subst hd
    obtain ⟨⟨hN, hD, hC, hm⟩, hp⟩ := h rfl
    have hN' := hN
    obtain ⟨n1, n2, n3, n4, n5⟩ := hN
    have h0 : 0 ≤ p.toInt := by omega
    rw [isGood_0, cb1_o, if_neg (by decide), here_e h0 (by omega), cb1_o, isSign_e, cb1_o]
    refine Sf_ite (fun h => ?_) (fun h => ?_)
    · refine Sf_cb1 (wrongs_s 0 1 p (by decide) (by decide) h0 (by omega)) (fun d' hd' => ?_)
      exact Sf_some (bad_lt hd')
    · rw [bI_0] at h
      have h := Classical.not_not.mp h
      obtain ⟨c, hc⟩ : ∃ c, c = hr p e t := ⟨_, rfl⟩
      have hs : bin c = true ∧ 2 < c.toInt ∧ ¬ isV c ∧ ¬ c = 0 := by
        rw [hc]
        unfold isV
        rcases h with h | h | h <;> rw [h] <;> decide
      have hlt : p.toInt < e.toInt := hr_lt (t := t) (by rw [← hc]; exact hs.2.2.2)
      rw [← hc, puts_e n2 (by omega), cb3_o]
      obtain ⟨s1, s2, s3⟩ := PN_push hN' hlt
      have t1 := tN m n2
      have t2 := tN (m + 1) (by omega)
      have em : (m + 1).toNatClampNeg = m.toNatClampNeg + 1 := by omega
      have hD2 := DP_push hD hs.1
      rw [← em] at hD2
      have hB : BS (m.toNatClampNeg + 1) (upd st m.toNatClampNeg c) := by
        refine Or.inr ?_
        have : upd st m.toNatClampNeg c (m.toNatClampNeg + 1 - 1) = c := if_pos rfl
        rw [this]
        exact hs.2.2.1
      refine Sf_cb9 (value_s hB (by omega) s1 hD2) (fun p2 d2 k2 o2 m2 ib2 na2 nc2 st2 hq => ?_)
      have hq : VP b N (m.toNatClampNeg + 1) e (p + 1) (upd st m.toNatClampNeg c) (m + 1) p2 d2 k2 m2 nc2 st2 := hq
      by_cases hd2 : d2 = 0
      · subst hd2
        obtain ⟨q1, q2, q3, q4, q5⟩ := hq.2 rfl
        have q1' := q1
        obtain ⟨a1, a2, a3, a4, a5⟩ := q1
        have t3 := tN m2 a2
        have et : tp m2 st2 = c := by
          rw [tp_pos (by omega), show m2.toNatClampNeg - 1 = m.toNatClampNeg by omega, q5 _ (by omega)]
          exact if_pos rfl
        obtain ⟨r1, r2, r3, r4⟩ := pop_s q1' q4 (by omega) (by rw [et]; exact hs.1) (by rw [et]; exact hs.2.1)
        have hC2 : CL m st2 := CL_eq hC (fun i hi => by
          rw [q5 i (by omega)]
          unfold upd
          rw [if_neg (by omega)]) hm
        rw [isGood_0, cb1_o, if_neg (by decide), top_e (by omega), cb1_o, emit_e (by omega) (by omega), cb3_o, nmI_o]
        refine Sf_cb5 (ends_s hC2.2 r1 r2 (by omega)) (fun k3 o3 m3 na3 nc3 hq => ?_)
        obtain ⟨u1, u2, u3, u4⟩ := hq
        have u4 : m3.toInt ≤ (m2 - 1).toInt := u4
        exact Sf_some (show Bd 0 ∧ ((0 : Int32) = 0 → CP b N e p2 k3 m3 nc3 st2 1 ∧ p0.toInt + 1 ≤ p2.toInt) from bad_0 ⟨⟨u1, u2, CL_less hC2 (by omega), u3⟩, by omega⟩)
      · rw [isGood_n hd2, cb1_o, if_pos rfl]
        exact Sf_some (bad_n hq.1 hd2)
  · rw [isGood_n hd, cb1_o, if_pos rfl]
    exact Sf_some (bad_n hbd hd)
theorem piece_J32 {b : Nat} {N : Nat → Int32} {e p0 k ib : Int32} {na nc t : Nat → Int32} (d o p m : Int32) (st : Nat → Int32) (hbd : Bd d) (h : d = 0 → CP b N e p k m nc st 0 ∧ p0.toInt ≤ p.toInt) :
    Sf (f_X12_pieceOfC_J32 e k ib na nc t d o p m st) (fun y => Bd y.2.1 ∧ (y.2.1 = 0 → CP b N e y.1 y.2.2.1 y.2.2.2.2.1 y.2.2.2.2.2.2.2.1 y.2.2.2.2.2.2.2.2 1 ∧ p0.toInt + 1 ≤ y.1.toInt)) := by
  rw [f_X12_pieceOfC_J32]
  by_cases hd : d = 0
  · subst hd
    obtain ⟨⟨hN, hD, hC, hm⟩, hp⟩ := h rfl
    rw [isGood_0, cb1_o, if_neg (by decide)]
    have t1 := tN m (by omega)
    have hB : BS m.toNatClampNeg st := Or.inr (isC_V (hC.1 _ (by omega)))
    refine Sf_cb9 (value_s hB (by omega) hN hD) (fun p2 d2 k2 o2 m2 ib2 na2 nc2 st2 hq => ?_)
    have hq : VP b N m.toNatClampNeg e p st m p2 d2 k2 m2 nc2 st2 := hq
    refine piece_J43 d2 k2 ib2 o2 p2 m2 na2 nc2 st2 hq.1 (fun c => ?_)
    obtain ⟨q1, q2, q3, q4, q5⟩ := hq.2 c
    exact ⟨⟨q1, q4, CL_less (CL_eq hC (fun i hi => q5 i (by omega)) hm) (by omega), by omega⟩, by omega⟩
  · rw [isGood_n hd, cb1_o, if_pos rfl]
    exact piece_J43 d k ib o p m na nc st hbd (fun c => absurd c hd)
theorem piece_L {b : Nat} {N : Nat → Int32} {e p0 k ib : Int32} {na nc t : Nat → Int32} : ∀ (n : Nat) (d o p m : Int32) (st : Nat → Int32), Bd d → (d = 0 → CP b N e p k m nc st 0 ∧ p0.toInt ≤ p.toInt ∧ e.toInt - p.toInt + 1 < (n : Int)) → 1 ≤ n →
    Sf (f_X12_pieceOfC_L0 e t (f_X12_pieceOfC_J32 e k ib na nc t) n d o p m st) (fun y => Bd y.2.1 ∧ (y.2.1 = 0 → CP b N e y.1 y.2.2.1 y.2.2.2.2.1 y.2.2.2.2.2.2.2.1 y.2.2.2.2.2.2.2.2 1 ∧ p0.toInt + 1 ≤ y.1.toInt)) := by
  intro n
  induction n with
  | zero => intro d o p m st hbd h hn; exact absurd hn (by omega)
  | succ n ih =>
    intro d o p m st hbd h hn
    rw [f_X12_pieceOfC_L0]
    by_cases hd : d = 0
    · subst hd
      obtain ⟨hF, hp, hn2⟩ := h rfl
      have hF' := hF
      obtain ⟨hN, hD, hC, hm⟩ := hF
      have hN' := hN
      obtain ⟨n1, n2, n3, n4, n5⟩ := hN
      have h0 : 0 ≤ p.toInt := by omega
      have step : isC (hr p e t) → bin (hr p e t) = false → ¬ hr p e t = 0 → Sf (f_X12_pieceOfC_J25 e t 0 o p m st (f_X12_pieceOfC_L0 e t (f_X12_pieceOfC_J32 e k ib na nc t) n)) (fun y => Bd y.2.1 ∧ (y.2.1 = 0 → CP b N e y.1 y.2.2.1 y.2.2.2.2.1 y.2.2.2.2.2.2.2.1 y.2.2.2.2.2.2.2.2 1 ∧ p0.toInt + 1 ≤ y.1.toInt)) := by
        intro g1 g2 g3
        have hlt : p.toInt < e.toInt := hr_lt (t := t) g3
        rw [f_X12_pieceOfC_J25]
        refine Sf_cb5 (opens_s h0 n5 (by omega) n2 (by omega)) (fun p' d' o' m' st' hq => ?_)
        obtain ⟨q1, q2, q3, q0⟩ := hq
        have q0 : Bd d' := q0
        have q1 : p' = p + 1 := q1
        have q2 : m' = m + 1 := q2
        have q3 : st' = upd st m.toNatClampNeg (hr p e t) := q3
        subst q1; subst q2; subst q3
        obtain ⟨s1, s2, s3⟩ := PN_push hN' hlt
        have t1 := tN m n2
        have t2 := tN (m + 1) (by omega)
        refine ih d' o' (p + 1) (m + 1) _ q0 (fun _ => ⟨⟨s1, ?_, CL_push hC hm (by omega) g1, by omega⟩, by omega, by omega⟩) (by omega)
        exact DP_cast (DP_pushn hD g2) rfl (by omega)
      rw [isGood_0, cb1_o, if_neg (by decide), here_e h0 (by omega), cb1_o]
      refine Sf_ite (fun h9 => ?_) (fun _ => ?_)
      · exact step (by rw [h9]; exact Or.inr (Or.inl rfl)) (by rw [h9]; decide) (by rw [h9]; decide)
      · rw [cb1_o]
        refine Sf_ite (fun h9 => ?_) (fun _ => ?_)
        · exact step (by rw [h9]; exact Or.inl rfl) (by rw [h9]; decide) (by rw [h9]; decide)
        · exact piece_J32 0 o p m st (Or.inl rfl) (fun _ => ⟨hF', hp⟩)
    · rw [isGood_n hd, cb1_o, if_pos rfl]
      exact piece_J32 d o p m st hbd (fun c => absurd c hd)
theorem piece_s {b : Nat} {N : Nat → Int32} {e p k o m ib : Int32} {na nc st t : Nat → Int32} (h : CP b N e p k m nc st 0) :
    Sf (f_X12_pieceOfC p e 0 k o m ib na nc st t) (fun y => Bd y.2.1 ∧ (y.2.1 = 0 → CP b N e y.1 y.2.2.1 y.2.2.2.2.1 y.2.2.2.2.2.2.2.1 y.2.2.2.2.2.2.2.2 1 ∧ p.toInt + 1 ≤ y.1.toInt)) := by
  rw [f_X12_pieceOfC]
  have := FUi
  obtain ⟨n1, n2, n3, n4, n5⟩ := h.1
  exact piece_L FU 0 o p m st (Or.inl rfl) (fun _ => ⟨h, Int.le_refl _, by omega⟩) (by omega)
end
section
/-- what goesBehind leaves behind -/
def GP (b : Nat) (N : Nat → Int32) (e p0 : Int32) (iso : Int32) (r p d k m iso' : Int32) (nc st : Nat → Int32) : Prop := Bd d ∧ (d = 0 → p0.toInt + 1 ≤ p.toInt ∧ PN p e k m ∧ CL m st ∧ (¬ r = 0 → 0 < m.toInt ∧ iso' = iso ∧ DP b N k.toNatClampNeg m.toNatClampNeg nc st 0) ∧ (r = 0 → DP b N k.toNatClampNeg m.toNatClampNeg nc st 1 ∧ (iso' = 0 → 0 < m.toInt) ∧ (¬ iso' = 0 → m.toInt = 0)))
theorem goes_s {b : Nat} {N : Nat → Int32} {e p k o m iso : Int32} {na nc st t : Nat → Int32} (h : CP b N e p k m nc st 1) :
    Sf (f_X12_goesBehind p e 0 k o m iso na nc st t) (fun y => GP b N e p iso y.1 y.2.1 y.2.2.1 y.2.2.2.1 y.2.2.2.2.2.1 y.2.2.2.2.2.2.1 y.2.2.2.2.2.2.2.2.1 y.2.2.2.2.2.2.2.2.2) := by
  obtain ⟨hN, hD, hC, hm⟩ := h
  have hN' := hN
  obtain ⟨n1, n2, n3, n4, n5⟩ := hN
  have h0 : 0 ≤ p.toInt := by omega
  have o1 : (1 : Int32).toInt = 1 := by decide
  have z : (0 : Int32).toInt = 0 := by decide
  have step : ∀ q : Int32, (hr p e t = 38 ∨ hr p e t = 124) → Sf (f_X12_goesBehind_J29 st (hr p e t) 0 k iso o p m na nc q) (fun y => GP b N e p iso y.1 y.2.1 y.2.2.1 y.2.2.2.1 y.2.2.2.2.2.1 y.2.2.2.2.2.2.1 y.2.2.2.2.2.2.2.2.1 y.2.2.2.2.2.2.2.2.2) := by
    intro q hc
    have hs : bin (hr p e t) = true ∧ isC (hr p e t) ∧ ¬ hr p e t = 0 := by
      unfold isC
      rcases hc with h | h <;> rw [h] <;> decide
    have hlt : p.toInt < e.toInt := hr_lt (t := t) hs.2.2
    rw [f_X12_goesBehind_J29]
    refine Sf_cb4 (joins_s hC.2 hN' hD hm) (fun k' m' na' nc' hq => ?_)
    obtain ⟨q1, q2, q3, q4, -⟩ := hq
    have q1 : PN p e k' m' := q1
    have q2 : DP b N k'.toNatClampNeg m'.toNatClampNeg nc' st 1 := q2
    have q3 : 0 < m'.toInt := q3
    have q4 : m'.toInt ≤ m.toInt := q4
    have q1' := q1
    obtain ⟨a1, a2, a3, a4, a5⟩ := q1
    rw [puts_e a2 (by omega), cb3_o]
    obtain ⟨s1, s2, s3⟩ := PN_push q1' hlt
    have t1 := tN m' a2
    have t2 := tN (m' + 1) (by omega)
    refine Sf_some (show GP b N e p iso 1 (p + 1) 0 k' (m' + 1) iso nc' (upd st m'.toNatClampNeg (hr p e t)) from bad_0 ⟨by omega, s1, CL_push (CL_less hC q4) q3 (by omega) hs.2.1, fun _ => ⟨by omega, rfl, ?_⟩, fun c => absurd c (by decide)⟩)
    exact DP_cast (DP_push q2 hs.1) rfl (by omega)
  rw [f_X12_goesBehind, here_e h0 (by omega), cb1_o]
  refine Sf_ite (fun h => ?_) (fun h => ?_)
  · rw [f_X12_goesBehind_J17, if_neg (by rw [h]; decide)]
    exact step 0 (Or.inl h)
  · refine Sf_ite (fun h2 => ?_) (fun h2 => ?_)
    · rw [f_X12_goesBehind_J17, if_pos h2]
      exact step 1 (Or.inr h2)
    · refine Sf_ite (fun h3 => ?_) (fun h3 => ?_)
      · have hlt : p.toInt < e.toInt := hr_lt (t := t) (by rw [h3]; decide)
        refine Sf_cb4 (joins_s hC.2 hN' hD hm) (fun k' m' na' nc' hq => ?_)
        obtain ⟨q1, q2, q3, q4, q5⟩ := hq
        have q1 : PN p e k' m' := q1
        have q2 : DP b N k'.toNatClampNeg m'.toNatClampNeg nc' st 1 := q2
        have q3 : 0 < m'.toInt := q3
        have q4 : m'.toInt ≤ m.toInt := q4
        have q5 : ¬ tp m' st = 38 ∧ ¬ tp m' st = 124 := q5 (by decide)
        have t1 := tN m' (by omega)
        have hb : bin (tp m' st) = false := by
          have c := hC.1 (m'.toNatClampNeg - 1) (by omega)
          rw [← tp_pos (m := m') (st := st) q3] at c
          rcases c with c | c | c | c
          · rw [c]; decide
          · rw [c]; decide
          · exact absurd c q5.1
          · exact absurd c q5.2
        obtain ⟨s1, s2⟩ := popn_s q1 q2 q3 hb
        obtain ⟨a1, a2, a3, a4, a5⟩ := q1
        have e2 := adX p 1 (by omega) (by omega)
        have hP : PN (p + 1) e k' (m' - 1) := ⟨a1, by omega, by omega, by omega, a5⟩
        rw [nmI_o, nmI_o, nmI_o]
        refine Sf_ite (fun h4 => ?_) (fun h4 => ?_)
        · have c4 := eqI h4
          rw [f_X12_goesBehind_J104]
          refine Sf_bo (by decide) ?_
          rw [if_neg (by decide)]
          exact Sf_some (show GP b N e p iso 0 (p + 1) 0 k' (m' - 1) 1 nc' st from bad_0 ⟨by omega, hP, CL_less hC (by omega), fun c => absurd rfl c, fun _ => ⟨s1, fun c => absurd c (by decide), fun _ => by omega⟩⟩)
        · have c4 := neI h4
          rw [f_X12_goesBehind_J104]
          refine Sf_bo (by decide) ?_
          rw [if_pos rfl]
          refine Sf_cb5 (ends_s hC.2 hP s1 (by omega)) (fun k3 o3 m3 na3 nc3 hq => ?_)
          obtain ⟨u1, u2, u3, u4⟩ := hq
          have u4 : m3.toInt ≤ (m' - 1).toInt := u4
          exact Sf_some (show GP b N e p iso 0 (p + 1) 0 k3 m3 0 nc3 st from bad_0 ⟨by omega, u1, CL_less hC (by omega), fun c => absurd rfl c, fun _ => ⟨u2, fun _ => u3, fun c => absurd rfl c⟩⟩)
      · refine Sf_cb1 (wrongs_s 0 1 p (by decide) (by decide) h0 (by omega)) (fun d' hd' => ?_)
        exact Sf_some (bad_lt hd')
/-- what a condition leaves behind -/
def QP (b : Nat) (N : Nat → Int32) (e p0 : Int32) (p d k m : Int32) (nc st : Nat → Int32) : Prop := Bd d ∧ (d = 0 → PN p e k m ∧ p0.toInt ≤ p.toInt ∧ m.toInt = 0 ∧ DP b N k.toNatClampNeg m.toNatClampNeg nc st 1)
theorem condition_L {b : Nat} {N : Nat → Int32} {e p0 : Int32} {t : Nat → Int32} : ∀ (n : Nat) (x d k ib iso o p m : Int32) (na nc st : Nat → Int32),
    Bd d → (d = 0 → PN p e k m ∧ CL m st ∧ p0.toInt ≤ p.toInt ∧ e.toInt - p.toInt + 1 < (n : Int) ∧ (iso = 0 → 0 < m.toInt ∧ (x = 0 → DP b N k.toNatClampNeg m.toNatClampNeg nc st 1) ∧ (¬ x = 0 → DP b N k.toNatClampNeg m.toNatClampNeg nc st 0)) ∧ (¬ iso = 0 → m.toInt = 0 ∧ DP b N k.toNatClampNeg m.toNatClampNeg nc st 1)) → 1 ≤ n →
    Sf (f_X12_condition_L37 e t n x d k ib iso o p m na nc st) (fun y => QP b N e p0 y.1 y.2.1 y.2.2.1 y.2.2.2.2.1 y.2.2.2.2.2.2.2.2.1 y.2.2.2.2.2.2.2.2.2) := by
  intro n
  induction n with
  | zero => intro x d k ib iso o p m na nc st hbd h hn; exact absurd hn (by omega)
  | succ n ih =>
    intro x d k ib iso o p m na nc st hbd h hn
    rw [f_X12_condition_L37]
    by_cases hd : d = 0
    · subst hd
      obtain ⟨hN, hC, hp, hn2, hi, hj⟩ := h rfl
      rw [isGood_0, cb1_o, if_neg (by decide)]
      refine Sf_ite (fun hiso => ?_) (fun hiso => ?_)
      · obtain ⟨hm, hx0, hx1⟩ := hi hiso
        have next : ∀ (d k ib o p' m : Int32) (na nc st : Nat → Int32), Bd d → (d = 0 → CP b N e p' k m nc st 1 ∧ p.toInt ≤ p'.toInt) →
            Sf (f_X12_condition_J59 e t x iso (f_X12_condition_L37 e t n) d k ib o p' m na nc st) (fun y => QP b N e p0 y.1 y.2.1 y.2.2.1 y.2.2.2.2.1 y.2.2.2.2.2.2.2.2.1 y.2.2.2.2.2.2.2.2.2) := by
          intro d k ib o p' m na nc st hbd hg
          rw [f_X12_condition_J59]
          have hpe : p.toInt ≤ e.toInt := hN.2.2.2.1
          by_cases hd : d = 0
          · subst hd
            obtain ⟨g1, g2⟩ := hg rfl
            rw [isGood_0, cb1_o, if_neg (by decide)]
            refine Sf_cb10 (goes_s g1) (fun r p2 d2 k2 o2 m2 iso2 na2 nc2 st2 hq => ?_)
            have hq : GP b N e p' iso r p2 d2 k2 m2 iso2 nc2 st2 := hq
            refine ih r d2 k2 ib iso2 o2 p2 m2 na2 nc2 st2 hq.1 (fun c => ?_) (by omega)
            obtain ⟨q1, q2, q3, q4, q5⟩ := hq.2 c
            refine ⟨q2, q3, by omega, by omega, fun w => ?_, fun w => ?_⟩
            · by_cases hr0 : r = 0
              · exact ⟨(q5 hr0).2.1 w, fun _ => (q5 hr0).1, fun c => absurd hr0 c⟩
              · exact ⟨(q4 hr0).1, fun c => absurd c hr0, fun _ => (q4 hr0).2.2⟩
            · by_cases hr0 : r = 0
              · exact ⟨(q5 hr0).2.2 w, (q5 hr0).1⟩
              · exact absurd ((q4 hr0).2.1.trans hiso) w
          · rw [isGood_n hd, cb1_o, if_pos rfl]
            exact ih x d k ib iso o p' m na nc st hbd (fun c => absurd c hd) (by omega)
        refine Sf_ite (fun hx => ?_) (fun hx => ?_)
        · exact next 0 k ib o p m na nc st (Or.inl rfl) (fun _ => ⟨⟨hN, hx0 hx, hC, hm⟩, Int.le_refl _⟩)
        · refine Sf_cb9 (piece_s ⟨hN, hx1 hx, hC, hm⟩) (fun p2 d2 k2 o2 m2 ib2 na2 nc2 st2 hq => ?_)
          have hq : Bd d2 ∧ (d2 = 0 → CP b N e p2 k2 m2 nc2 st2 1 ∧ p.toInt + 1 ≤ p2.toInt) := hq
          exact next d2 k2 ib2 o2 p2 m2 na2 nc2 st2 hq.1 (fun c => ⟨(hq.2 c).1, by have := (hq.2 c).2; omega⟩)
      · obtain ⟨j1, j2⟩ := hj hiso
        exact Sf_some (show QP b N e p0 p 0 k m nc st from bad_0 ⟨hN, hp, j1, j2⟩)
    · rw [isGood_n hd, cb1_o, if_pos rfl]
      exact Sf_some (bad_n hbd hd)
theorem condition_s {b : Nat} {N : Nat → Int32} {e p k o m iso ib : Int32} {na nc st t : Nat → Int32} (hN : PN p e k m) (hm : m.toInt = 0) (hD : DP b N k.toNatClampNeg m.toNatClampNeg nc st 0) :
    Sf (f_X12_condition p e 0 k o m iso ib na nc st t) (fun y => QP b N e p y.1 y.2.1 y.2.2.1 y.2.2.2.2.1 y.2.2.2.2.2.2.2.2.1 y.2.2.2.2.2.2.2.2.2) := by
  have := FUi
  have hN' := hN
  obtain ⟨n1, n2, n3, n4, n5⟩ := hN
  have h0 : 0 ≤ p.toInt := by omega
  rw [f_X12_condition, here_e h0 (by omega), cb1_o]
  refine Sf_ite (fun h => ?_) (fun h => ?_)
  · have hlt : p.toInt < e.toInt := hr_lt (t := t) (by rw [h]; decide)
    rw [f_X12_condition_J23, isGood_0, cb1_o, if_neg (by decide)]
    refine Sf_cb5 (opens_s h0 n5 (by omega) n2 (by omega)) (fun p' d' o' m' st' hq => ?_)
    obtain ⟨q1, q2, q3, q0⟩ := hq
    have q0 : Bd d' := q0
    have q1 : p' = p + 1 := q1
    have q2 : m' = m + 1 := q2
    have q3 : st' = upd st m.toNatClampNeg (hr p e t) := q3
    subst q1; subst q2; subst q3
    obtain ⟨s1, s2, s3⟩ := PN_push hN' hlt
    have t1 := tN m n2
    have t2 := tN (m + 1) (by omega)
    have em : m.toNatClampNeg = 0 := by omega
    have hC : CL (m + 1) (upd st m.toNatClampNeg (hr p e t)) := by
      have e0 : upd st m.toNatClampNeg (hr p e t) 0 = 40 := by unfold upd; rw [if_pos em.symm]; exact h
      refine ⟨fun i hi => ?_, e0⟩
      have : i = 0 := by omega
      rw [this, e0]
      exact Or.inl rfl
    refine condition_L (p0 := p) FU 1 d' k ib 0 o' (p + 1) (m + 1) na nc _ q0 (fun _ => ⟨s1, hC, by omega, by omega, fun _ => ⟨by omega, fun c => absurd c (by decide), fun _ => ?_⟩, fun c => absurd rfl c⟩) (by omega)
    exact DP_cast (DP_pushn hD (by rw [h]; decide)) rfl (by omega)
  · refine Sf_cb1 (wrongs_s 0 1 p (by decide) (by decide) h0 (by omega)) (fun d' hd' => ?_)
    rw [f_X12_condition_J23, isGood_n (ne_lt hd'), cb1_o, if_pos rfl]
    exact Sf_some (bad_lt hd')
end
section
/-- the clauses that were read: each has a sum's code and a condition's code -/
def TRc (k : Int32) (nc nf ns nt : Nat → Int32) (i : Nat) : Prop := 0 ≤ (ns i).toInt ∧ (ns i).toInt ≤ (nf i).toInt ∧ (nf i).toInt ≤ (nt i).toInt ∧ (nt i).toInt ≤ k.toInt ∧ (∃ z, dep nc (ns i).toNatClampNeg ((nf i).toNatClampNeg - (ns i).toNatClampNeg) = some z) ∧ (∃ z, dep nc (nf i).toNatClampNeg ((nt i).toNatClampNeg - (nf i).toNatClampNeg) = some z)
def TR (c k : Int32) (nc nf ns nt : Nat → Int32) : Prop := ∀ i : Nat, (i : Int) < c.toInt → TRc k nc nf ns nt i
theorem TRc_mono {k k' : Int32} {nc nc' nf ns nt nf' ns' nt' : Nat → Int32} {i : Nat} (h : TRc k nc nf ns nt i) (hk : k.toInt ≤ k'.toInt) (hc : ∀ j : Nat, (j : Int) < k.toInt → nc' j = nc j) (e1 : nf' i = nf i) (e2 : ns' i = ns i) (e3 : nt' i = nt i) : TRc k' nc' nf' ns' nt' i := by
  obtain ⟨a1, a2, a3, a4, ⟨z1, h1⟩, ⟨z2, h2⟩⟩ := h
  unfold TRc
  rw [e1, e2, e3]
  have t1 := tN (ns i) (by omega)
  have t2 := tN (nf i) (by omega)
  have t3 := tN (nt i) (by omega)
  refine ⟨a1, a2, a3, by omega, ⟨z1, ?_⟩, ⟨z2, ?_⟩⟩
  · rw [← h1]; exact dep_congr (fun j hj => hc _ (by omega))
  · rw [← h2]; exact dep_congr (fun j hj => hc _ (by omega))
/-- what a clause leaves behind -/
def CO (e p0 c0 : Int32) (p d c k : Int32) (nc nf ns nt : Nat → Int32) : Prop := Bd d ∧ (d = 0 → p0.toInt + 1 ≤ p.toInt ∧ PN p e k 0 ∧ c.toInt = c0.toInt + 1 ∧ c.toInt ≤ 12 ∧ TR c k nc nf ns nt)
theorem PN_0 {p e k m : Int32} (h : PN p e k m) : PN p e k 0 := by
  obtain ⟨n1, n2, n3, n4, n5⟩ := h
  have z : (0 : Int32).toInt = 0 := by decide
  exact ⟨n1, by omega, by omega, n4, n5⟩
theorem clause_J121 {e p0 c : Int32} {nt g6 g10 : Nat → Int32} (hc : 0 ≤ c.toInt) (hc2 : c.toInt < 12) (d k ib iso o p m : Int32) (na nc st : Nat → Int32) (hbd : Bd d) (h : d = 0 → p0.toInt + 1 ≤ p.toInt ∧ PN p e k 0 ∧ TR (c + 1) k nc g10 g6 (upd nt c.toNatClampNeg k)) :
    Sf (f_X12_clause_J121 c nt g6 g10 d k ib iso o p m na nc st) (fun y => CO e p0 c y.1 y.2.1 y.2.2.1 y.2.2.2.1 y.2.2.2.2.2.2.2.2.2.1 y.2.2.2.2.2.2.2.2.2.2.1 y.2.2.2.2.2.2.2.2.2.2.2.1 y.2.2.2.2.2.2.2.2.2.2.2.2.1) := by
  have o1 : (1 : Int32).toInt = 1 := by decide
  have e1 := adX c 1 (by omega) (by omega)
  rw [f_X12_clause_J121, wrI_o (jin_of hc (by omega)), nmI_o]
  exact Sf_some (show CO e p0 c p d (c + 1) k nc g10 g6 (upd nt c.toNatClampNeg k) from ⟨hbd, fun q => ⟨(h q).1, (h q).2.1, by omega, by omega, (h q).2.2⟩⟩)
theorem clause_J97 {e p0 c iso k0 : Int32} {t nc0 nf ns nt : Nat → Int32} (hc : 0 ≤ c.toInt) (hc2 : c.toInt < 12) (hk0 : 0 ≤ k0.toInt) (hT : TR c k0 nc0 nf ns nt) (d k ib o p m : Int32) (na nc st : Nat → Int32) (hbd : Bd d)
    (h : d = 0 → p0.toInt + 1 ≤ p.toInt ∧ PN p e k m ∧ m.toInt = 0 ∧ k0.toInt ≤ k.toInt ∧ (∃ z, dep nc k0.toNatClampNeg (k.toNatClampNeg - k0.toNatClampNeg) = some z) ∧ ∀ i : Nat, i < k0.toNatClampNeg → nc i = nc0 i) :
    Sf (f_X12_clause_J97 e c iso nf nt t (upd ns c.toNatClampNeg k0) d k ib o p m na nc st) (fun y => CO e p0 c y.1 y.2.1 y.2.2.1 y.2.2.2.1 y.2.2.2.2.2.2.2.2.2.1 y.2.2.2.2.2.2.2.2.2.2.1 y.2.2.2.2.2.2.2.2.2.2.2.1 y.2.2.2.2.2.2.2.2.2.2.2.2.1) := by
  rw [f_X12_clause_J97, wrI_o (jin_of hc (by omega))]
  by_cases hd : d = 0
  · subst hd
    obtain ⟨h1, h2, h3, h4, ⟨z0, h5⟩, h6⟩ := h rfl
    have h2' := h2
    obtain ⟨n1, n2, n3, n4, n5⟩ := h2
    rw [isGood_0, cb1_o, if_neg (by decide)]
    have t1 := tN m n2
    have em : m.toNatClampNeg = 0 := by omega
    have hD : DP k.toNatClampNeg nc k.toNatClampNeg m.toNatClampNeg nc st 0 := DP_cast (DP_new _ nc st) rfl em.symm
    refine Sf_cb10 (condition_s h2' h3 hD) (fun p2 d2 k2 o2 m2 iso2 ib2 na2 nc2 st2 hq => ?_)
    have hq : QP k.toNatClampNeg nc e p p2 d2 k2 m2 nc2 st2 := hq
    refine clause_J121 hc hc2 d2 k2 ib2 iso2 o2 p2 m2 na2 nc2 st2 hq.1 (fun q => ?_)
    obtain ⟨q1, q2, q3, q4, q5, q6⟩ := hq.2 q
    refine ⟨by omega, PN_0 q1, fun i hi => ?_⟩
    have o1 : (1 : Int32).toInt = 1 := by decide
    have e1 := adX c 1 (by omega) (by omega)
    have tc := tN c hc
    have tk := tN k n1
    have tk0 := tN k0 hk0
    have tk2 := tN k2 q1.1
    by_cases ci : i = c.toNatClampNeg
    · subst ci
      unfold TRc
      have u1 : upd ns c.toNatClampNeg k0 c.toNatClampNeg = k0 := if_pos rfl
      have u2 : upd nf c.toNatClampNeg k c.toNatClampNeg = k := if_pos rfl
      have u3 : upd nt c.toNatClampNeg k2 c.toNatClampNeg = k2 := if_pos rfl
      rw [u1, u2, u3]
      refine ⟨hk0, h4, by omega, Int.le_refl _, ⟨z0, ?_⟩, ⟨_, q5⟩⟩
      rw [← h5]
      exact dep_congr (fun j hj => q6 _ (by omega))
    · refine TRc_mono (hT i (by omega)) (by omega) (fun j hj => ?_) (if_neg ci) (if_neg ci) (if_neg ci)
      rw [q6 j (by omega)]
      exact h6 j (by omega)
  · rw [isGood_n hd, cb1_o, if_pos rfl]
    exact clause_J121 hc hc2 d k ib iso o p m na nc st hbd (fun q => absurd q hd)
theorem clause_s {e p c k o m iso ib q : Int32} {t na nc nf ns nt st : Nat → Int32} (hc : 0 ≤ c.toInt) (hc2 : c.toInt ≤ 12) (hN : PN p e k 0) (hT : TR c k nc nf ns nt) :
    Sf (f_X12_clause p e 0 c k o m iso ib na nc nf ns nt st t q) (fun y => CO e p c y.1 y.2.1 y.2.2.1 y.2.2.2.1 y.2.2.2.2.2.2.2.2.2.1 y.2.2.2.2.2.2.2.2.2.2.1 y.2.2.2.2.2.2.2.2.2.2.2.1 y.2.2.2.2.2.2.2.2.2.2.2.2.1) := by
  have hN' := hN
  obtain ⟨n1, n2, n3, n4, n5⟩ := hN
  have z : (0 : Int32).toInt = 0 := by decide
  have h0 : 0 ≤ p.toInt := by omega
  have o1 : (1 : Int32).toInt = 1 := by decide
  have tk := tN k n1
  have B : ∀ d : Int32, d.toInt < 0 → Sf (f_X12_clause_J48 p e c k o m iso ib na nc nf ns nt st t q d) (fun y => CO e p c y.1 y.2.1 y.2.2.1 y.2.2.2.1 y.2.2.2.2.2.2.2.2.2.1 y.2.2.2.2.2.2.2.2.2.2.1 y.2.2.2.2.2.2.2.2.2.2.2.1 y.2.2.2.2.2.2.2.2.2.2.2.2.1) := by
    intro d hd
    rw [f_X12_clause_J48, isGood_n (ne_lt hd), cb1_o, if_pos rfl]
    exact Sf_some (bad_lt hd)
  have G : p.toInt < e.toInt → c.toInt < 12 → Sf (f_X12_clause_J48 p e c k o m iso ib na nc nf ns nt st t q 0) (fun y => CO e p c y.1 y.2.1 y.2.2.1 y.2.2.2.1 y.2.2.2.2.2.2.2.2.2.1 y.2.2.2.2.2.2.2.2.2.2.1 y.2.2.2.2.2.2.2.2.2.2.2.1 y.2.2.2.2.2.2.2.2.2.2.2.2.1) := by
    intro hlt hc3
    have e1 := adX p 1 (by omega) (by omega)
    have hN2 : PN (p + 1) e k 0 := ⟨n1, n2, by omega, by omega, n5⟩
    have z0 : (0 : Int32).toNatClampNeg = 0 := by decide
    rw [f_X12_clause_J48, isGood_0, cb1_o, if_neg (by decide), wrI_o (jin_of hc (by omega)), nmI_o]
    refine Sf_ite (fun hq => ?_) (fun hq => ?_)
    · refine clause_J97 hc hc3 n1 hT 0 k ib 0 (p + 1) 0 na nc st (Or.inl rfl) (fun _ => ⟨by omega, hN2, z, Int.le_refl _, ⟨0, ?_⟩, fun _ _ => rfl⟩)
      rw [Nat.sub_self]
      rfl
    · have hD : DP k.toNatClampNeg nc k.toNatClampNeg (0 : Int32).toNatClampNeg nc st 0 := DP_cast (DP_new _ nc st) rfl z0.symm
      refine Sf_cb9 (value_s (w := 0) (Or.inl rfl) (by omega) hN2 hD) (fun p2 d2 k2 o2 m2 ib2 na2 nc2 st2 hq => ?_)
      have hq : VP k.toNatClampNeg nc 0 e (p + 1) st 0 p2 d2 k2 m2 nc2 st2 := hq
      refine clause_J97 hc hc3 n1 hT d2 k2 ib2 o2 p2 m2 na2 nc2 st2 hq.1 (fun w => ?_)
      obtain ⟨q1, q2, q3, q4, -⟩ := hq.2 w
      have tk2 := tN k2 q1.1
      have q41 := q4.1
      exact ⟨by omega, q1, by omega, by omega, ⟨_, q4.2.1⟩, q4.2.2⟩
  have J : ∀ t1 : Int32, ¬ t1 = 0 → Sf (f_X12_clause_J15 p e 0 c k o m iso ib na nc nf ns nt st t q (hr p e t) t1) (fun y => CO e p c y.1 y.2.1 y.2.2.1 y.2.2.2.1 y.2.2.2.2.2.2.2.2.2.1 y.2.2.2.2.2.2.2.2.2.2.1 y.2.2.2.2.2.2.2.2.2.2.2.1 y.2.2.2.2.2.2.2.2.2.2.2.2.1) := by
    intro t1 ht
    rw [f_X12_clause_J15]
    refine Sf_ite (fun h1 => ?_) (fun h1 => ?_)
    · have hlt : p.toInt < e.toInt := hr_lt (t := t) (by rw [h1]; exact ht)
      refine Sf_ite (fun h2 => ?_) (fun h2 => ?_)
      · exact Sf_cb1 (wrongs_s 0 4 p (by decide) (by decide) h0 (by omega)) (fun d hd => B d hd)
      · have l12 : (12 : Int32).toInt = 12 := by decide
        have := neI h2
        exact G hlt (by omega)
    · exact Sf_cb1 (wrongs_s 0 1 p (by decide) (by decide) h0 (by omega)) (fun d hd => B d hd)
  rw [f_X12_clause, here_e h0 (by omega), cb1_o]
  exact Sf_ite (fun _ => J 107 (by decide)) (fun _ => J 104 (by decide))
end
section
/-- the texts that are kept: their clauses' codes lie in the text's own place -/
def XO (code cf ct sf : Nat → Int32) (i j : Nat) : Prop := 120 * (i : Int) ≤ (sf (12 * i + j)).toInt ∧ (sf (12 * i + j)).toInt ≤ (cf (12 * i + j)).toInt ∧ (cf (12 * i + j)).toInt ≤ (ct (12 * i + j)).toInt ∧ (ct (12 * i + j)).toInt ≤ 120 * (i : Int) + 120 ∧ (∃ z, dep code (sf (12 * i + j)).toNatClampNeg ((cf (12 * i + j)).toNatClampNeg - (sf (12 * i + j)).toNatClampNeg) = some z) ∧ (∃ z, dep code (cf (12 * i + j)).toNatClampNeg ((ct (12 * i + j)).toNatClampNeg - (cf (12 * i + j)).toNatClampNeg) = some z)
def rOK (code cf ct sf many : Nat → Int32) : Prop := ∀ i : Nat, i < 20 → 0 ≤ (many i).toInt ∧ (many i).toInt ≤ 12 ∧ ∀ j : Nat, (j : Int) < (many i).toInt → XO code cf ct sf i j
theorem dep_shift {c c' : Nat → Int32} {a a' : Nat} : ∀ {n : Nat}, (∀ i, i < n → c (a + i) = c' (a' + i)) → dep c a n = dep c' a' n := by
  intro n
  induction n with
  | zero => intro _; rfl
  | succ n ih =>
    intro h
    show (dep c a n).bind _ = (dep c' a' n).bind _
    rw [ih (fun i hi => h i (by omega)), h n (by omega)]
theorem idx_e {p x : Int32} (c : Int32) (C : Int) (hC : c.toInt = C) (hC2 : 0 ≤ C) (hC3 : C ≤ 120) (h1 : 0 ≤ p.toInt) (h2 : p.toInt < 20) (h3 : 0 ≤ x.toInt) (h4 : x.toInt ≤ 200) : (c * p + x).toInt = C * p.toInt + x.toInt := by
  have b1 : 0 ≤ C * p.toInt := Int.mul_nonneg hC2 h1
  have b2 : C * p.toInt ≤ 120 * 20 := Int.mul_le_mul hC3 (by omega) h1 (by omega)
  have e1 := mlY c p C hC (by omega) (by omega)
  have e2 := adX (c * p) x (by omega) (by omega)
  omega
theorem keeps_L84 {P : (Nat → Int32) × (Nat → Int32) × (Nat → Int32) × (Nat → Int32) × (Nat → Int32) × (Nat → Int32) → Prop} {k p : Int32} {na nc code0 : Nat → Int32} {K : (Nat → Int32) → (Nat → Int32) → Option ((Nat → Int32) × (Nat → Int32) × (Nat → Int32) × (Nat → Int32) × (Nat → Int32) × (Nat → Int32))} (hp : 0 ≤ p.toInt) (hp2 : p.toInt < 20) (hk : k.toInt ≤ 120)
    (hK : ∀ code ca : Nat → Int32, (∀ j : Nat, (j : Int) < k.toInt → code (120 * p.toNatClampNeg + j) = nc j) → (∀ q : Nat, (q < 120 * p.toNatClampNeg ∨ 120 * p.toNatClampNeg + 120 ≤ q) → code q = code0 q) → Sf (K code ca) P) : ∀ (n : Nat) (x : Int32) (code ca : Nat → Int32), 0 ≤ x.toInt → (∀ j : Nat, (j : Int) < x.toInt → code (120 * p.toNatClampNeg + j) = nc j) → (∀ q : Nat, (q < 120 * p.toNatClampNeg ∨ 120 * p.toNatClampNeg + 120 ≤ q) → code q = code0 q) → 1 + k.toInt - x.toInt < (n : Int) → 1 ≤ n →
    Sf (f_X12_keeps_L84 k na nc p K n x code ca) P := by
  intro n
  induction n with
  | zero => intro x code ca h1 h2 h3 h4 h5; exact absurd h5 (by omega)
  | succ n ih =>
    intro x code ca h1 h2 h3 h4 h5
    rw [f_X12_keeps_L84]
    refine Sf_ite (fun h => ?_) (fun h => ?_)
    · have := leI h
      exact hK code ca (fun j hj => h2 j (by omega)) h3
    · have c1 := nleI h
      have t := tN p hp
      have tx := tN x h1
      have e0 := idx_e (p := p) (x := x) 120 120 (by decide) (by omega) (by omega) hp hp2 h1 (by omega)
      have ti := tN (120 * p + x) (by omega)
      have o1 : (1 : Int32).toInt = 1 := by decide
      have e1 := adX x 1 (by omega) (by omega)
      rw [rdI_o (jin_of h1 (by omega)), wrI_o (jin_of (by omega) (by omega)), rdI_o (jin_of h1 (by omega)), wrI_o (jin_of (by omega) (by omega)), nmI_o]
      refine ih (x + 1) _ _ (by omega) (fun j hj => ?_) (fun q hq => ?_) (by omega) (by omega)
      · unfold upd
        by_cases cj : 120 * p.toNatClampNeg + j = (120 * p + x).toNatClampNeg
        · rw [if_pos cj]; congr 1; omega
        · rw [if_neg cj]; exact h2 j (by omega)
      · unfold upd
        rw [if_neg (by omega)]
        exact h3 q hq
theorem keeps_L2 {P : (Nat → Int32) × (Nat → Int32) × (Nat → Int32) × (Nat → Int32) × (Nat → Int32) × (Nat → Int32) → Prop} {c p : Int32} {nf ns nt cf0 ct0 sf0 : Nat → Int32} {K : (Nat → Int32) → (Nat → Int32) → (Nat → Int32) → Option ((Nat → Int32) × (Nat → Int32) × (Nat → Int32) × (Nat → Int32) × (Nat → Int32) × (Nat → Int32))} (hp : 0 ≤ p.toInt) (hp2 : p.toInt < 20) (hc : c.toInt ≤ 12)
    (hT : ∀ j : Nat, (j : Int) < c.toInt → 0 ≤ (ns j).toInt ∧ (ns j).toInt ≤ (nf j).toInt ∧ (nf j).toInt ≤ (nt j).toInt ∧ (nt j).toInt ≤ 120)
    (hK : ∀ cf ct sf : Nat → Int32, (∀ j : Nat, (j : Int) < c.toInt → (sf (12 * p.toNatClampNeg + j)).toInt = 120 * p.toInt + (ns j).toInt ∧ (cf (12 * p.toNatClampNeg + j)).toInt = 120 * p.toInt + (nf j).toInt ∧ (ct (12 * p.toNatClampNeg + j)).toInt = 120 * p.toInt + (nt j).toInt) → (∀ q : Nat, (q < 12 * p.toNatClampNeg ∨ 12 * p.toNatClampNeg + 12 ≤ q) → sf q = sf0 q ∧ cf q = cf0 q ∧ ct q = ct0 q) → Sf (K cf ct sf) P) : ∀ (n : Nat) (x : Int32) (cf ct sf : Nat → Int32), 0 ≤ x.toInt → (∀ j : Nat, (j : Int) < x.toInt → (sf (12 * p.toNatClampNeg + j)).toInt = 120 * p.toInt + (ns j).toInt ∧ (cf (12 * p.toNatClampNeg + j)).toInt = 120 * p.toInt + (nf j).toInt ∧ (ct (12 * p.toNatClampNeg + j)).toInt = 120 * p.toInt + (nt j).toInt) → (∀ q : Nat, (q < 12 * p.toNatClampNeg ∨ 12 * p.toNatClampNeg + 12 ≤ q) → sf q = sf0 q ∧ cf q = cf0 q ∧ ct q = ct0 q) → 1 + c.toInt - x.toInt < (n : Int) → 1 ≤ n →
    Sf (f_X12_keeps_L2 c nf ns nt p K n x cf ct sf) P := by
  intro n
  induction n with
  | zero => intro x cf ct sf h1 h2 h3 h4 h5; exact absurd h5 (by omega)
  | succ n ih =>
    intro x cf ct sf h1 h2 h3 h4 h5
    rw [f_X12_keeps_L2]
    refine Sf_ite (fun h => ?_) (fun h => ?_)
    · have := leI h
      exact hK cf ct sf (fun j hj => h2 j (by omega)) h3
    · have c1 := nleI h
      have t := tN p hp
      have tx := tN x h1
      obtain ⟨b1, b2, b3, b4⟩ := hT x.toNatClampNeg (by omega)
      have e0 := idx_e (p := p) (x := x) 12 12 (by decide) (by omega) (by omega) hp hp2 h1 (by omega)
      have f1 := idx_e (p := p) (x := ns x.toNatClampNeg) 120 120 (by decide) (by omega) (by omega) hp hp2 (by omega) (by omega)
      have f2 := idx_e (p := p) (x := nf x.toNatClampNeg) 120 120 (by decide) (by omega) (by omega) hp hp2 (by omega) (by omega)
      have f3 := idx_e (p := p) (x := nt x.toNatClampNeg) 120 120 (by decide) (by omega) (by omega) hp hp2 (by omega) (by omega)
      have ti := tN (12 * p + x) (by omega)
      have o1 : (1 : Int32).toInt = 1 := by decide
      have e1 := adX x 1 (by omega) (by omega)
      rw [rdI_o (jin_of h1 (by omega)), nmI_o, wrI_o (jin_of (by omega) (by omega)), rdI_o (jin_of h1 (by omega)), nmI_o, wrI_o (jin_of (by omega) (by omega)), rdI_o (jin_of h1 (by omega)), nmI_o, wrI_o (jin_of (by omega) (by omega)), nmI_o]
      refine ih (x + 1) _ _ _ (by omega) (fun j hj => ?_) (fun q hq => ?_) (by omega) (by omega)
      · unfold upd
        by_cases cj : 12 * p.toNatClampNeg + j = (12 * p + x).toNatClampNeg
        · have ej : j = x.toNatClampNeg := by omega
          rw [if_pos cj, if_pos cj, if_pos cj, ej]
          exact ⟨f1, f2, f3⟩
        · rw [if_neg cj, if_neg cj, if_neg cj]
          exact h2 j (by omega)
      · unfold upd
        have nq : ¬ q = (12 * p + x).toNatClampNeg := by omega
        rw [if_neg nq, if_neg nq, if_neg nq]
        exact h3 q hq
theorem keeps_s {c k p : Int32} {code ca cf ct many na nc nf ns nt sf : Nat → Int32} (hp : 0 ≤ p.toInt) (hp2 : p.toInt < 20) (hk0 : 0 ≤ k.toInt) (hk : k.toInt ≤ 120) (hc0 : 0 ≤ c.toInt) (hc : c.toInt ≤ 12) (hT : TR c k nc nf ns nt) (hR : rOK code cf ct sf many) :
    Sf (f_X12_keeps c k code ca cf ct many na nc nf ns nt sf p) (fun y => rOK y.1 y.2.2.1 y.2.2.2.1 y.2.2.2.2.2 y.2.2.2.2.1) := by
  have := FUi
  have z : (0 : Int32).toInt = 0 := by decide
  have t := tN p hp
  rw [f_X12_keeps]
  refine keeps_L2 (cf0 := cf) (ct0 := ct) (sf0 := sf) hp hp2 hc (fun j hj => ⟨(hT j hj).1, (hT j hj).2.1, (hT j hj).2.2.1, by have := (hT j hj).2.2.2.1; omega⟩) (fun cf1 ct1 sf1 g1 g2 => ?_) FU 0 cf ct sf (by omega) (fun j hj => absurd hj (by omega)) (fun q _ => ⟨rfl, rfl, rfl⟩) (by omega) (by omega)
  rw [f_X12_keeps_J82]
  refine keeps_L84 (code0 := code) hp hp2 hk (fun code1 ca1 g3 g4 => ?_) FU 0 code ca (by omega) (fun j hj => absurd hj (by omega)) (fun q _ => rfl) (by omega) (by omega)
  rw [f_X12_keeps_J132, wrI_o (jin_of hp (by omega))]
  refine Sf_some (show rOK code1 cf1 ct1 sf1 (upd many p.toNatClampNeg c) from fun i hi => ?_)
  by_cases ci : i = p.toNatClampNeg
  · have em : upd many p.toNatClampNeg c i = c := if_pos ci
    rw [em]
    refine ⟨hc0, hc, fun j hj => ?_⟩
    obtain ⟨a1, a2, a3, a4, ⟨z1, h1⟩, ⟨z2, h2⟩⟩ := hT j hj
    rw [ci]
    obtain ⟨u1, u2, u3⟩ := g1 j hj
    have s1 := tN (ns j) a1
    have s2 := tN (nf j) (by omega)
    have s3 := tN (nt j) (by omega)
    have r1 := tN (sf1 (12 * p.toNatClampNeg + j)) (by omega)
    have r2 := tN (cf1 (12 * p.toNatClampNeg + j)) (by omega)
    have r3 := tN (ct1 (12 * p.toNatClampNeg + j)) (by omega)
    refine ⟨by omega, by omega, by omega, by omega, ⟨z1, ?_⟩, ⟨z2, ?_⟩⟩
    · rw [← h1, show (cf1 (12 * p.toNatClampNeg + j)).toNatClampNeg - (sf1 (12 * p.toNatClampNeg + j)).toNatClampNeg = (nf j).toNatClampNeg - (ns j).toNatClampNeg by omega]
      refine dep_shift (fun l hl => ?_)
      rw [← g3 ((ns j).toNatClampNeg + l) (by omega)]
      congr 1
      omega
    · rw [← h2, show (ct1 (12 * p.toNatClampNeg + j)).toNatClampNeg - (cf1 (12 * p.toNatClampNeg + j)).toNatClampNeg = (nt j).toNatClampNeg - (nf j).toNatClampNeg by omega]
      refine dep_shift (fun l hl => ?_)
      rw [← g3 ((nf j).toNatClampNeg + l) (by omega)]
      congr 1
      omega
  · have em : upd many p.toNatClampNeg c i = many i := if_neg ci
    rw [em]
    obtain ⟨m1, m2, m3⟩ := hR i hi
    refine ⟨m1, m2, fun j hj => ?_⟩
    obtain ⟨a1, a2, a3, a4, ⟨z1, h1⟩, ⟨z2, h2⟩⟩ := m3 j hj
    obtain ⟨q1, q2, q3⟩ := g2 (12 * i + j) (by omega)
    unfold XO
    rw [q1, q2, q3]
    have r1 := tN (sf (12 * i + j)) (by omega)
    have r2 := tN (cf (12 * i + j)) (by omega)
    have r3 := tN (ct (12 * i + j)) (by omega)
    refine ⟨a1, a2, a3, a4, ⟨z1, ?_⟩, ⟨z2, ?_⟩⟩
    · rw [← h1]; exact dep_congr (fun l hl => g4 _ (by omega))
    · rw [← h2]; exact dep_congr (fun l hl => g4 _ (by omega))
theorem rt_J86 {p1 tp e : Int32} {code ca cf ct many sf : Nat → Int32} (hp : 0 ≤ p1.toInt) (hp2 : p1.toInt < 20) (hR : rOK code cf ct sf many) (d c k ib iso o p m : Int32) (na nc nf ns nt st : Nat → Int32) (hbd : Bd d) (h : d = 0 → 0 ≤ k.toInt ∧ k.toInt ≤ 120 ∧ 0 ≤ c.toInt ∧ c.toInt ≤ 12 ∧ TR c k nc nf ns nt) :
    Sf (f_X12_readsText_J86 code ca cf ct many sf p1 tp e d c k ib iso o p m na nc nf ns nt st) (fun y => y.2.1 = tp ∧ rOK y.2.2.2.2.2.2.2.2.2.2.2.1 y.2.2.2.2.2.2.2.2.2.2.2.2.2.1 y.2.2.2.2.2.2.2.2.2.2.2.2.2.2.1 y.2.2.2.2.2.2.2.2.2.2.2.2.2.2.2.2.2.2.2.2.2.2 y.2.2.2.2.2.2.2.2.2.2.2.2.2.2.2.1) := by
  rw [f_X12_readsText_J86]
  refine Sf_ite (fun g => ?_) (fun g => ?_)
  · have z : (0 : Int32).toInt = 0 := by decide
    have g1 := leI g
    have hd : d = 0 := hbd.resolve_right (by omega)
    obtain ⟨a1, a2, a3, a4, a5⟩ := h hd
    exact Sf_cb6 (keeps_s hp hp2 a1 a2 a3 a4 a5 hR) (fun y1 y2 y3 y4 y5 y6 hq => Sf_some ⟨rfl, hq⟩)
  · exact Sf_some ⟨rfl, hR⟩
theorem rt_L {p1 tp e q : Int32} {t code ca cf ct many sf : Nat → Int32} (hp : 0 ≤ p1.toInt) (hp2 : p1.toInt < 20) (hR : rOK code cf ct sf many) : ∀ (n : Nat) (x d c k ib iso o p m : Int32) (na nc nf ns nt st : Nat → Int32), Bd d → (d = 0 → PN p e k 0 ∧ 0 ≤ c.toInt ∧ c.toInt ≤ 12 ∧ TR c k nc nf ns nt ∧ (¬ x = 0 → e.toInt - p.toInt + 1 < (n : Int))) → 1 ≤ n →
    Sf (f_X12_readsText_L8 t q e (f_X12_readsText_J86 code ca cf ct many sf p1 tp e) n x d c k ib iso o p m na nc nf ns nt st) (fun y => y.2.1 = tp ∧ rOK y.2.2.2.2.2.2.2.2.2.2.2.1 y.2.2.2.2.2.2.2.2.2.2.2.2.2.1 y.2.2.2.2.2.2.2.2.2.2.2.2.2.2.1 y.2.2.2.2.2.2.2.2.2.2.2.2.2.2.2.2.2.2.2.2.2.2 y.2.2.2.2.2.2.2.2.2.2.2.2.2.2.2.1) := by
  have z : (0 : Int32).toInt = 0 := by decide
  intro n
  induction n with
  | zero => intro x d c k ib iso o p m na nc nf ns nt st hbd h hn; exact absurd hn (by omega)
  | succ n ih =>
    intro x d c k ib iso o p m na nc nf ns nt st hbd h hn
    have J : Sf (f_X12_readsText_J86 code ca cf ct many sf p1 tp e d c k ib iso o p m na nc nf ns nt st) (fun y => y.2.1 = tp ∧ rOK y.2.2.2.2.2.2.2.2.2.2.2.1 y.2.2.2.2.2.2.2.2.2.2.2.2.2.1 y.2.2.2.2.2.2.2.2.2.2.2.2.2.2.1 y.2.2.2.2.2.2.2.2.2.2.2.2.2.2.2.2.2.2.2.2.2.2 y.2.2.2.2.2.2.2.2.2.2.2.2.2.2.2.1) := by
      refine rt_J86 hp hp2 hR d c k ib iso o p m na nc nf ns nt st hbd (fun w => ?_)
      obtain ⟨⟨n1, n2, n3, n4, n5⟩, h2, h3, h4, h5⟩ := h w
      exact ⟨n1, by omega, h2, h3, h4⟩
    rw [f_X12_readsText_L8]
    refine Sf_ite (fun _ => J) (fun hx => ?_)
    by_cases hd : d = 0
    · subst hd
      obtain ⟨hN, h2, h3, h4, h5⟩ := h rfl
      have h5 := h5 hx
      have hN' := hN
      obtain ⟨n1, n2, n3, n4, n5⟩ := hN
      rw [isGood_0, cb1_o, if_neg (by decide)]
      refine Sf_cb14 (clause_s h2 h3 hN' h4) (fun p2 d2 c2 k2 o2 m2 iso2 ib2 na2 nc2 nf2 ns2 nt2 st2 hq => ?_)
      have hq : CO e p c p2 d2 c2 k2 nc2 nf2 ns2 nt2 := hq
      by_cases hd2 : d2 = 0
      · subst hd2
        obtain ⟨q1, q2, q3, q4, q5⟩ := hq.2 rfl
        have q2' := q2
        obtain ⟨m1, m2', m3, m4, m5⟩ := q2
        rw [isGood_0, cb1_o, if_neg (by decide)]
        refine Sf_ite (fun h6 => ?_) (fun h6 => ?_)
        · rw [f_X12_readsText_J48, if_pos rfl]
          exact ih 0 0 c2 k2 ib2 iso2 o2 p2 m2 na2 nc2 nf2 ns2 nt2 st2 (Or.inl rfl) (fun _ => ⟨q2', by omega, q4, q5, fun w => absurd rfl w⟩) (by omega)
        · have c6 := nleI h6
          have o1 : (1 : Int32).toInt = 1 := by decide
          have e1 := adX p2 1 (by omega) (by omega)
          rw [f_X12_readsText_J48, if_neg (by decide), here_e (by omega) (by omega), cb1_o]
          refine Sf_ite (fun h7 => ?_) (fun h7 => ?_)
          · rw [f_X12_readsText_J73, nmI_o]
            exact ih 1 0 c2 k2 ib2 iso2 o2 (p2 + 1) m2 na2 nc2 nf2 ns2 nt2 st2 (Or.inl rfl) (fun _ => ⟨⟨m1, m2', by omega, by omega, m5⟩, by omega, q4, q5, fun _ => by omega⟩) (by omega)
          · refine Sf_cb1 (wrongs_s 0 1 p2 (by decide) (by decide) (by omega) (by omega)) (fun d3 hd3 => ?_)
            rw [f_X12_readsText_J73, nmI_o]
            exact ih 1 d3 c2 k2 ib2 iso2 o2 (p2 + 1) m2 na2 nc2 nf2 ns2 nt2 st2 (Or.inr hd3) (fun w => absurd w (ne_lt hd3)) (by omega)
      · rw [isGood_n hd2, cb1_o, if_pos rfl, f_X12_readsText_J48, if_pos rfl]
        exact ih 0 d2 c2 k2 ib2 iso2 o2 p2 m2 na2 nc2 nf2 ns2 nt2 st2 hq.1 (fun w => absurd w hd2) (by omega)
    · rw [isGood_n hd, cb1_o, if_pos rfl]
      exact J
theorem readsText_s {tp0 pl en bd cl co op stk iso ib p1 e q : Int32} {t code ca cf ct many na nc nf ns nt st sf : Nat → Int32} (hp : 0 ≤ p1.toInt) (hp2 : p1.toInt < 20) (he : 0 ≤ e.toInt) (he2 : e.toInt ≤ 120) (hR : rOK code cf ct sf many) :
    Sf (f_X12_readsText tp0 pl en bd cl co op stk iso ib code ca cf ct many na nc nf ns nt st sf t p1 e q) (fun y => y.2.1 = 0 ∧ rOK y.2.2.2.2.2.2.2.2.2.2.2.1 y.2.2.2.2.2.2.2.2.2.2.2.2.2.1 y.2.2.2.2.2.2.2.2.2.2.2.2.2.2.1 y.2.2.2.2.2.2.2.2.2.2.2.2.2.2.2.2.2.2.2.2.2.2 y.2.2.2.2.2.2.2.2.2.2.2.2.2.2.2.1) := by
  have := FUi
  have z : (0 : Int32).toInt = 0 := by decide
  rw [f_X12_readsText, f_X12_begins, cb8_o]
  exact rt_L hp hp2 hR FU 1 0 0 0 ib iso 0 0 0 na nc nf ns nt st (Or.inl rfl) (fun _ => ⟨⟨by omega, by omega, by omega, by omega, he2⟩, by omega, by omega, fun i hi => absurd hi (by omega), fun _ => by omega⟩) (by omega)
theorem s_X12_law {tp so pl en bd cl co op stk iso ib p1 p2 : Int32} {t code ca cf ct many na nc nf ns nt st sf : Nat → Int32} (h1 : 0 ≤ so.toInt) (h2 : so.toInt ≤ 10) (hR : rOK code cf ct sf many) :
    Sf (f_X12_law tp so pl en bd cl co op stk iso ib code ca cf ct many na nc nf ns nt st sf t p1 p2) (fun y => (y.2.1.toInt = tp.toInt ∨ y.2.1.toInt = 0) ∧ rOK y.2.2.2.2.2.2.2.2.2.2.2.1 y.2.2.2.2.2.2.2.2.2.2.2.2.2.1 y.2.2.2.2.2.2.2.2.2.2.2.2.2.2.1 y.2.2.2.2.2.2.2.2.2.2.2.2.2.2.2.2.2.2.2.2.2.2 y.2.2.2.2.2.2.2.2.2.2.2.2.2.2.2.1) := by
  have z : (0 : Int32).toInt = 0 := by decide
  have l : (120 : Int32).toInt = 120 := by decide
  rw [f_X12_law]
  refine Sf_cb1 (s_X12_isSource so p1 h1 h2) (fun r hr => ?_)
  refine Sf_ite (fun _ => Sf_some ⟨Or.inl rfl, hR⟩) (fun g => ?_)
  have g := neI g
  have hr := hr.2.resolve_left (by omega)
  refine Sf_cb1 (s_X12_canRead tp p2 120) (fun r2 hr2 => ?_)
  refine Sf_ite (fun _ => Sf_some ⟨Or.inl rfl, hR⟩) (fun g2 => ?_)
  have g2 := neI g2
  have hr2 := hr2.2.resolve_left (by omega)
  have e1 := adX 0 p1 (by omega) (by omega)
  refine Sf_cb23 (readsText_s (p1 := 0 + p1) (e := p2) (by omega) (by omega) (by omega) (by omega) hR) (fun y1 y2 y3 y4 y5 y6 y7 y8 y9 y10 y11 y12 y13 y14 y15 y16 y17 y18 y19 y20 y21 y22 y23 hq => Sf_some ⟨Or.inr ?_, hq.2⟩)
  have hq1 := hq.1
  exact (eqI hq1).trans z
theorem s_X12_way {tp pl en bd cl co op stk iso ib p1 p2 : Int32} {t code ca cf ct many na nc nf ns nt st sf : Nat → Int32} (hR : rOK code cf ct sf many) :
    Sf (f_X12_way tp pl en bd cl co op stk iso ib code ca cf ct many na nc nf ns nt st sf t p1 p2) (fun y => (y.2.1.toInt = tp.toInt ∨ y.2.1.toInt = 0) ∧ rOK y.2.2.2.2.2.2.2.2.2.2.2.1 y.2.2.2.2.2.2.2.2.2.2.2.2.2.1 y.2.2.2.2.2.2.2.2.2.2.2.2.2.2.1 y.2.2.2.2.2.2.2.2.2.2.2.2.2.2.2.2.2.2.2.2.2.2 y.2.2.2.2.2.2.2.2.2.2.2.2.2.2.2.1) := by
  have z : (0 : Int32).toInt = 0 := by decide
  have l : (120 : Int32).toInt = 120 := by decide
  have l10 : (10 : Int32).toInt = 10 := by decide
  rw [f_X12_way]
  refine Sf_cb1 (s_X12_isReader p1) (fun r hr => ?_)
  refine Sf_ite (fun _ => Sf_some ⟨Or.inl rfl, hR⟩) (fun g => ?_)
  have g := neI g
  have hr := hr.2.resolve_right (fun w => by have := w.1; omega)
  refine Sf_cb1 (s_X12_canRead tp p2 120) (fun r2 hr2 => ?_)
  refine Sf_ite (fun _ => Sf_some ⟨Or.inl rfl, hR⟩) (fun g2 => ?_)
  have g2 := neI g2
  have hr2 := hr2.2.resolve_left (by omega)
  have e1 := adX 10 p1 (by omega) (by omega)
  refine Sf_cb23 (readsText_s (p1 := 10 + p1) (e := p2) (by omega) (by omega) (by omega) (by omega) hR) (fun y1 y2 y3 y4 y5 y6 y7 y8 y9 y10 y11 y12 y13 y14 y15 y16 y17 y18 y19 y20 y21 y22 y23 hq => Sf_some ⟨Or.inr ?_, hq.2⟩)
  have hq1 := hq.1
  exact (eqI hq1).trans z
theorem story_J55 {tp0 p1 e cl p k o m ib tp : Int32} {code ca cf ct many nf ns nt sf na nc st : Nat → Int32} (hp : 0 ≤ p1.toInt) (hp2 : p1.toInt ≤ 5) (hR : rOK code cf ct sf many) (d : Int32) (ht : tp0.toInt = 0) (hbd : Bd d) (h : d = 0 → 0 ≤ k.toInt ∧ k.toInt ≤ 120 ∧ ∃ z, dep nc 0 (k.toNatClampNeg - 0) = some z) :
    Sf (f_X12_story_J55 code ca cf ct many nf ns nt sf p1 tp0 e cl p k o m ib na nc st d) (fun y => (y.2.1.toInt = tp.toInt ∨ y.2.1.toInt = 0) ∧ rOK y.2.2.2.2.2.2.2.2.2.2.1 y.2.2.2.2.2.2.2.2.2.2.2.2.1 y.2.2.2.2.2.2.2.2.2.2.2.2.2.1 y.2.2.2.2.2.2.2.2.2.2.2.2.2.2.2.2.2.2.2.2.2 y.2.2.2.2.2.2.2.2.2.2.2.2.2.2.1) := by
  have z : (0 : Int32).toInt = 0 := by decide
  have zn : (0 : Int32).toNatClampNeg = 0 := by decide
  have l : (14 : Int32).toInt = 14 := by decide
  have o1 : (1 : Int32).toInt = 1 := by decide
  have e1 := adX 14 p1 (by omega) (by omega)
  rw [f_X12_story_J55]
  refine Sf_ite (fun g => ?_) (fun g => Sf_some ⟨Or.inr ht, hR⟩)
  have g1 := leI g
  obtain ⟨a1, a2, ⟨z1, a3⟩⟩ := h (hbd.resolve_right (by omega))
  have tk := tN k a1
  rw [wrI_o (by decide), wrI_o (by decide), wrI_o (by decide)]
  refine Sf_cb6 (keeps_s (by omega) (by omega) a1 a2 (by omega) (by omega) (fun i hi => ?_) hR) (fun y1 y2 y3 y4 y5 y6 hq => Sf_some ⟨Or.inr ht, hq⟩)
  have ei : i = 0 := by omega
  subst ei
  unfold TRc
  have u1 : ∀ (f : Nat → Int32) (v : Int32), upd f (0 : Int32).toNatClampNeg v 0 = v := fun f v => if_pos zn.symm
  rw [u1, u1, u1, zn]
  refine ⟨by omega, by omega, Int.le_refl _, Int.le_refl _, ⟨z1, a3⟩, ⟨0, ?_⟩⟩
  rw [Nat.sub_self]
  rfl
theorem s_X12_story {tp pl en bd cl co op stk ib p1 p2 : Int32} {t code ca cf ct many na nc nf ns nt st sf : Nat → Int32} (hR : rOK code cf ct sf many) :
    Sf (f_X12_story tp pl en bd cl co op stk ib code ca cf ct many na nc nf ns nt st sf t p1 p2) (fun y => (y.2.1.toInt = tp.toInt ∨ y.2.1.toInt = 0) ∧ rOK y.2.2.2.2.2.2.2.2.2.2.1 y.2.2.2.2.2.2.2.2.2.2.2.2.1 y.2.2.2.2.2.2.2.2.2.2.2.2.2.1 y.2.2.2.2.2.2.2.2.2.2.2.2.2.2.2.2.2.2.2.2.2 y.2.2.2.2.2.2.2.2.2.2.2.2.2.2.1) := by
  have z : (0 : Int32).toInt = 0 := by decide
  have l : (60 : Int32).toInt = 60 := by decide
  have zn : (0 : Int32).toNatClampNeg = 0 := by decide
  rw [f_X12_story]
  refine Sf_cb1 (s_X12_isTale p1) (fun r hr => ?_)
  refine Sf_ite (fun _ => Sf_some ⟨Or.inl rfl, hR⟩) (fun g => ?_)
  have g := neI g
  have hr := hr.2.resolve_right (fun w => by have := w.1; omega)
  refine Sf_cb1 (s_X12_canRead tp p2 60) (fun r2 hr2 => ?_)
  refine Sf_ite (fun _ => Sf_some ⟨Or.inl rfl, hR⟩) (fun g2 => ?_)
  have g2 := neI g2
  have hr2 := hr2.2.resolve_left (by omega)
  rw [f_X12_begins, cb8_o]
  have hD : DP 0 nc (0 : Int32).toNatClampNeg (0 : Int32).toNatClampNeg nc st 0 := DP_cast (DP_new 0 nc st) zn.symm zn.symm
  refine Sf_cb9 (value_s (w := 0) (b := 0) (N := nc) (Or.inl rfl) (by omega) ⟨by omega, by omega, by omega, by omega, by omega⟩ hD) (fun p3 d3 k3 o3 m3 ib3 na3 nc3 st3 hq => ?_)
  have hq : VP 0 nc 0 p2 0 st 0 p3 d3 k3 m3 nc3 st3 := hq
  have J : ∀ d : Int32, Bd d → (d = 0 → d3 = 0) → Sf (f_X12_story_J55 code ca cf ct many nf ns nt sf p1 0 p2 0 p3 k3 o3 m3 ib3 na3 nc3 st3 d) (fun y => (y.2.1.toInt = tp.toInt ∨ y.2.1.toInt = 0) ∧ rOK y.2.2.2.2.2.2.2.2.2.2.1 y.2.2.2.2.2.2.2.2.2.2.2.2.1 y.2.2.2.2.2.2.2.2.2.2.2.2.2.1 y.2.2.2.2.2.2.2.2.2.2.2.2.2.2.2.2.2.2.2.2.2 y.2.2.2.2.2.2.2.2.2.2.2.2.2.2.1) := by
    intro d hb hd
    refine story_J55 hr.2.1 hr.2.2 hR d z hb (fun w => ?_)
    obtain ⟨⟨n1, n2, n3, n4, n5⟩, q2, q3, q4, -⟩ := hq.2 (hd w)
    exact ⟨n1, by omega, ⟨_, q4.2.1⟩⟩
  by_cases hd3 : d3 = 0
  · subst hd3
    obtain ⟨⟨n1, n2, n3, n4, n5⟩, q2, q3, q4, -⟩ := hq.2 rfl
    rw [isGood_0, cb1_o, if_neg (by decide)]
    refine Sf_ite (fun _ => J 0 (Or.inl rfl) (fun _ => rfl)) (fun _ => ?_)
    exact Sf_cb1 (wrongs_s 0 1 p3 (by decide) (by decide) (by omega) (by omega)) (fun d hd => J d (Or.inr hd) (fun w => absurd w (ne_lt hd)))
  · rw [isGood_n hd3, cb1_o, if_pos rfl]
    exact J d3 hq.1 (fun w => w)
end
section
theorem s_X12_does (ir wo : Nat → Int32) (c i : Int32) (h1 : 0 ≤ i.toInt) (h2 : i.toInt ≤ 198) : Sf (f_X12_does ir wo c i) (fun _ => True) := by
  have o1 : (1 : Int32).toInt = 1 := by decide
  have e1 := adX i 1 (by omega) (by omega)
  rw [f_X12_does, nmI_o]
  have J120 : ∀ t : Int32, Sf (f_X12_does_J120 ir wo c i (i + 1) t) (fun _ => True) := by
    intro t
    rw [f_X12_does_J120]
    refine Sf_wrZ (by omega) (by omega) (fun _ _ => ?_)
    refine Sf_rdI (by omega) (by omega) (fun _ _ => ?_)
    refine Sf_rdI (by omega) (by omega) (fun _ _ => ?_)
    refine Sf_cb1 (s_X12_worked _ _ _) (fun _ _ => ?_)
    refine Sf_wrI (by omega) (by omega) (fun _ _ => ?_)
    exact Sf_some trivial
  have J106 : Sf (f_X12_does_J106 wo (i + 1) (f_X12_does_J120 ir wo c i (i + 1))) (fun _ => True) := by
    rw [f_X12_does_J106]
    refine Sf_rdI (by omega) (by omega) (fun _ _ => ?_)
    exact Sf_ite (fun _ => J120 _) (fun _ => J120 _)
  have J42 : ∀ v t : Int32, Sf (f_X12_does_J42 i (i + 1) ir wo v t) (fun _ => True) := by
    intro v t
    rw [f_X12_does_J42]
    refine Sf_ite (fun _ => ?_) (fun _ => Sf_some trivial)
    refine Sf_rdI (by omega) (by omega) (fun _ _ => ?_)
    refine Sf_wrI (by omega) (by omega) (fun _ _ => ?_)
    refine Sf_rdI (by omega) (by omega) (fun _ _ => ?_)
    refine Sf_wrZ (by omega) (by omega) (fun _ _ => ?_)
    exact Sf_some trivial
  have J16 : Sf (f_X12_does_J16 c i (i + 1) ir wo) (fun _ => True) := by
    rw [f_X12_does_J16]
    refine Sf_rdI (by omega) (by omega) (fun _ _ => ?_)
    refine Sf_ite (fun _ => ?_) (fun _ => Sf_some trivial)
    refine Sf_rdI (by omega) (by omega) (fun _ _ => ?_)
    exact Sf_ite (fun _ => J42 _ _) (fun _ => J42 _ _)
  refine Sf_ite (fun _ => J16) (fun _ => ?_)
  refine Sf_ite (fun _ => J16) (fun _ => ?_)
  refine Sf_rdI (by omega) (by omega) (fun _ _ => ?_)
  refine Sf_ite (fun _ => ?_) (fun _ => J120 _)
  refine Sf_rdI (by omega) (by omega) (fun _ _ => ?_)
  refine Sf_ite (fun _ => ?_) (fun _ => J120 _)
  refine Sf_ite (fun _ => J106) (fun _ => ?_)
  exact Sf_ite (fun _ => J106) (fun _ => J120 _)
theorem dep_pre {c : Nat → Int32} {a : Nat} : ∀ {n m D : Nat}, dep c a n = some D → m ≤ n → ∃ d, dep c a m = some d := by
  intro n
  induction n with
  | zero =>
    intro m D h hm
    exact ⟨D, by rw [show m = 0 by omega]; exact h⟩
  | succ n ih =>
    intro m D h hm
    by_cases e : m = n + 1
    · exact ⟨D, by rw [e]; exact h⟩
    · have h : (dep c a n).bind (stp (c (a + n))) = some D := h
      cases hd : dep c a n with
      | none => rw [hd] at h; exact nomatch h
      | some d => exact ih hd (by omega)
theorem stp_cases {u : Int32} {d d' : Nat} (h : stp u d = some d') : (2 < u.toInt ∧ 2 ≤ d ∧ d' = d - 1) ∨ (u.toInt = 2 ∧ 1 ≤ d ∧ d' = d) ∨ (u.toInt < 2 ∧ d' = d + 1) := by
  unfold stp at h
  by_cases c1 : 2 < u.toInt
  · rw [if_pos c1] at h
    by_cases c2 : 2 ≤ d
    · rw [if_pos c2] at h; cases h; exact Or.inl ⟨c1, c2, rfl⟩
    · rw [if_neg c2] at h; exact nomatch h
  · rw [if_neg c1] at h
    by_cases c3 : u.toInt = 2
    · rw [if_pos c3] at h
      by_cases c4 : 1 ≤ d
      · rw [if_pos c4] at h; cases h; exact Or.inr (Or.inl ⟨c3, c4, rfl⟩)
      · rw [if_neg c4] at h; exact nomatch h
    · rw [if_neg c3] at h; cases h; exact Or.inr (Or.inr ⟨by omega, rfl⟩)
/-- a code that can be worked -/
def SG (code : Nat → Int32) (a z : Int32) : Prop := 0 ≤ a.toInt ∧ a.toInt ≤ z.toInt ∧ z.toInt ≤ 2400 ∧ z.toInt ≤ a.toInt + 120 ∧ ∃ q, dep code a.toNatClampNeg (z.toNatClampNeg - a.toNatClampNeg) = some q
theorem works_L {aA aB aD aF aG aH aL aM aN aS aT aU aX : Int32} {code ca : Nat → Int32} {a z : Int32} (hS : SG code a z) : ∀ (n : Nat) (x3 x4 : Int32) (ir wo : Nat → Int32), a.toInt ≤ x4.toInt → x4.toInt ≤ z.toInt → 0 ≤ x3.toInt → dep code a.toNatClampNeg (x4.toNatClampNeg - a.toNatClampNeg) = some x3.toNatClampNeg → 1 + z.toInt - x4.toInt < (n : Int) →
    Sf (f_X12_works_L5 aA aB aD aF aG aH aL aM aN aS aT aU aX code ca z n x3 x4 ir wo) (fun _ => True) := by
  obtain ⟨s1, s2, s3, s4, ⟨D, s5⟩⟩ := hS
  have ta := tN a s1
  have tz := tN z (by omega)
  have o1 : (1 : Int32).toInt = 1 := by decide
  have o2 : (2 : Int32).toInt = 2 := by decide
  intro n
  induction n with
  | zero => intro x3 x4 ir wo h1 h2 h3 h4 h5; exact absurd h5 (by omega)
  | succ n ih =>
    intro x3 x4 ir wo h1 h2 h3 h4 h5
    have t4 := tN x4 (by omega)
    have t3 := tN x3 h3
    rw [f_X12_works_L5]
    refine Sf_ite (fun h => Sf_some trivial) (fun h => ?_)
    have c1 := nleI h
    have hle := dep_le h4
    have e4 := adX x4 1 (by omega) (by omega)
    have t4' := tN (x4 + 1) (by omega)
    obtain ⟨d, hd⟩ := dep_pre (m := x4.toNatClampNeg - a.toNatClampNeg + 1) s5 (by omega)
    have hd2 : (dep code a.toNatClampNeg (x4.toNatClampNeg - a.toNatClampNeg)).bind (stp (code (a.toNatClampNeg + (x4.toNatClampNeg - a.toNatClampNeg)))) = some d := hd
    rw [h4, show a.toNatClampNeg + (x4.toNatClampNeg - a.toNatClampNeg) = x4.toNatClampNeg by omega] at hd2
    have hs : stp (code x4.toNatClampNeg) x3.toNatClampNeg = some d := hd2
    have hc := stp_cases hs
    have en : (x4 + 1).toNatClampNeg - a.toNatClampNeg = x4.toNatClampNeg - a.toNatClampNeg + 1 := by omega
    rw [rdI_o (jin_of (by omega) (by omega))]
    refine Sf_ite (fun h6 => ?_) (fun h6 => ?_)
    · have c6 := leI h6
      rw [rdI_o (jin_of (by omega) (by omega))]
      refine Sf_ite (fun h7 => ?_) (fun h7 => ?_)
      · have c7 := eqI h7
        have e3 := sbX x3 1 (by omega) (by omega)
        rw [rdI_o (jin_of (by omega) (by omega)), nmI_o, wrI_o (jin_of (by omega) (by omega)), nmI_o]
        refine ih x3 (x4 + 1) _ _ (by omega) (by omega) h3 ?_ (by omega)
        rw [en, hd]
        congr 1
        omega
      · have c7 := neI h7
        have e3 := adX x3 1 (by omega) (by omega)
        have t3' := tN (x3 + 1) (by omega)
        have hn : ∀ ir wo : Nat → Int32, Sf (f_X12_works_L5 aA aB aD aF aG aH aL aM aN aS aT aU aX code ca z n (x3 + 1) (x4 + 1) ir wo) (fun _ => True) := by
          intro ir wo
          refine ih (x3 + 1) (x4 + 1) _ _ (by omega) (by omega) (by omega) ?_ (by omega)
          rw [en, hd]
          congr 1
          omega
        rw [wrZ_o (jin_of (by omega) (by omega)), rdI_o (jin_of (by omega) (by omega))]
        refine Sf_ite (fun _ => ?_) (fun _ => ?_)
        · rw [rdI_o (jin_of (by omega) (by omega)), wrI_o (jin_of (by omega) (by omega)), nmI_o, nmI_o]
          exact hn _ _
        · rw [rdI_o (jin_of (by omega) (by omega))]
          refine Sf_cb1 (s_X12_valueOf aA aB aD aF aG aH aL aM aN aS aT aU aX _) (fun _ _ => ?_)
          rw [wrI_o (jin_of (by omega) (by omega)), nmI_o, nmI_o]
          exact hn _ _
    · have c6 := nleI h6
      refine Sf_nmI (fun v hv => ?_)
      have ev := (eqI hv).trans (adN x3 (-1) (-1) (by decide) (by omega) (by omega))
      clear hv
      have t3' := tN v (by omega)
      have e5 := sbX v 1 (by omega) (by omega)
      rw [rdI_o (jin_of (by omega) (by omega))]
      refine Sf_cb2 (s_X12_does _ _ _ _ (by omega) (by omega)) (fun ir2 wo2 _ => ?_)
      rw [nmI_o]
      have ed : d = v.toNatClampNeg := by omega
      refine ih v (x4 + 1) _ _ (by omega) (by omega) (by omega) ?_ (by omega)
      rw [en, hd, ed]
theorem works_s {aA aB aD aF aG aH aL aM aN aS aT aU aX : Int32} {code ca ir wo : Nat → Int32} {a z : Int32} (hS : SG code a z) : Sf (f_X12_works aA aB aD aF aG aH aL aM aN aS aT aU aX code ca ir wo a z) (fun _ => True) := by
  have := FUi
  have z0 : (0 : Int32).toInt = 0 := by decide
  have zn : (0 : Int32).toNatClampNeg = 0 := by decide
  rw [f_X12_works]
  have hS' := hS
  obtain ⟨s1, s2, s3, s4, -⟩ := hS
  refine works_L hS' FU 0 a ir wo (Int.le_refl _) s2 (by omega) ?_ (by omega)
  rw [Nat.sub_self, zn]
  rfl
theorem holds_i {aA aB aD aF aG aH aL aM aN aS aT aU aX : Int32} {code ca cf ct ir wo : Nat → Int32} {x : Int32} (h1 : 0 ≤ x.toInt) (h2 : x.toInt < 240) (hS : SG code (cf x.toNatClampNeg) (ct x.toNatClampNeg)) : Sf (f_X12_holds aA aB aD aF aG aH aL aM aN aS aT aU aX code ca cf ct ir wo x) (fun y => y.1.toInt = 0 ∨ y.1.toInt = 1) := by
  rw [f_X12_holds, rdI_o (jin_of h1 (by omega)), rdI_o (jin_of h1 (by omega))]
  refine Sf_cb2 (works_s hS) (fun ir2 wo2 _ => ?_)
  rw [rdI_o (by decide)]
  refine Sf_ite (fun _ => ?_) (fun _ => Sf_some (Or.inl (show (0 : Int32).toInt = 0 by decide)))
  rw [rdI_o (by decide)]
  exact Sf_ite (fun _ => Sf_some (Or.inr (show (1 : Int32).toInt = 1 by decide))) (fun _ => Sf_some (Or.inl (show (0 : Int32).toInt = 0 by decide)))
theorem s_X12_sumOf {aA aB aD aF aG aH aL aM aN aS aT aU aX : Int32} {code ca cf sf ir wo : Nat → Int32} {x : Int32} (h1 : 0 ≤ x.toInt) (h2 : x.toInt < 240) (hS : SG code (sf x.toNatClampNeg) (cf x.toNatClampNeg)) : Sf (f_X12_sumOf aA aB aD aF aG aH aL aM aN aS aT aU aX code ca cf ir sf wo x) (fun _ => True) := by
  rw [f_X12_sumOf, rdI_o (jin_of h1 (by omega)), rdI_o (jin_of h1 (by omega))]
  refine Sf_cb2 (works_s hS) (fun ir2 wo2 _ => ?_)
  rw [rdI_o (by decide)]
  refine Sf_ite (fun _ => ?_) (fun _ => Sf_some trivial)
  rw [rdI_o (by decide)]
  exact Sf_some trivial
theorem s_X12_holds (aA aB aD aF aG aH aL aM aN aS aT aU aX : Int32) (code ca cf ct ir wo : Nat → Int32) (x : Int32) (h1 : 0 ≤ x.toInt) (h2 : x.toInt < 240) (hS : SG code (cf x.toNatClampNeg) (ct x.toNatClampNeg)) : Sf (f_X12_holds aA aB aD aF aG aH aL aM aN aS aT aU aX code ca cf ct ir wo x) (fun y => y.1.toInt = 0 ∨ y.1.toInt = 1) := holds_i h1 h2 hS
/-- the kept texts, for who needs no sum; marks -/
def hOK (code cf ct many : Nat → Int32) : Prop := ∃ sf, rOK code cf ct sf many
def mkOK (m : Nat → Int32) : Prop := ∀ j, 0 ≤ (m j).toInt ∧ (m j).toInt ≤ 720
theorem mkOK_rd {m : Nat → Int32} (h : mkOK m) {v i : Int32} (hv : v = m i.toNatClampNeg) : 0 ≤ v.toInt ∧ v.toInt ≤ 720 := by rw [hv]; exact h _
theorem mkOK_wr {m g : Nat → Int32} (h : mkOK m) {x i : Int32} (hv : g = upd m i.toNatClampNeg x) (h1 : 0 ≤ x.toInt) (h2 : x.toInt ≤ 720) : mkOK g := fun j => by
  rw [hv]
  unfold upd
  split
  · exact ⟨h1, h2⟩
  · exact h j
theorem rOK_rd {code cf ct sf many : Nat → Int32} (hR : rOK code cf ct sf many) {i v : Int32} (h1 : 0 ≤ i.toInt) (h2 : i.toInt < 20) (hv : v = many i.toNatClampNeg) : 0 ≤ v.toInt ∧ v.toInt ≤ 12 ∧ ∀ x : Int32, 12 * i.toInt ≤ x.toInt → x.toInt < 12 * i.toInt + v.toInt → SG code (cf x.toNatClampNeg) (ct x.toNatClampNeg) ∧ SG code (sf x.toNatClampNeg) (cf x.toNatClampNeg) := by
  have ti := tN i h1
  obtain ⟨m1, m2, m3⟩ := hR i.toNatClampNeg (by omega)
  rw [hv]
  refine ⟨m1, m2, fun x hx hx2 => ?_⟩
  have tx := tN x (by omega)
  obtain ⟨j, hj⟩ : ∃ j : Nat, x.toNatClampNeg = 12 * i.toNatClampNeg + j := ⟨x.toNatClampNeg - 12 * i.toNatClampNeg, by omega⟩
  obtain ⟨a1, a2, a3, a4, a5, a6⟩ := m3 j (by omega)
  rw [hj]
  exact ⟨⟨by omega, a3, by omega, by omega, a6⟩, ⟨by omega, a2, by omega, by omega, a5⟩⟩
theorem hOK_rd {code cf ct many : Nat → Int32} (hR : hOK code cf ct many) {i v : Int32} (h1 : 0 ≤ i.toInt) (h2 : i.toInt < 20) (hv : v = many i.toNatClampNeg) : 0 ≤ v.toInt ∧ v.toInt ≤ 12 ∧ ∀ x : Int32, 12 * i.toInt ≤ x.toInt → x.toInt < 12 * i.toInt + v.toInt → SG code (cf x.toNatClampNeg) (ct x.toNatClampNeg) := by
  obtain ⟨sf, h⟩ := hR
  obtain ⟨a, b, c⟩ := rOK_rd h h1 h2 hv
  exact ⟨a, b, fun x p q => (c x p q).1⟩
theorem height_L {P : Int32 × Int32 × Int32 × Int32 × Int32 × Int32 × Int32 × Int32 × Int32 × Int32 × Int32 × Int32 × Int32 × Int32 × (Nat → Int32) × (Nat → Int32) → Prop} {K : Int32 → (Nat → Int32) → (Nat → Int32) → Option (Int32 × Int32 × Int32 × Int32 × Int32 × Int32 × Int32 × Int32 × Int32 × Int32 × Int32 × Int32 × Int32 × Int32 × (Nat → Int32) × (Nat → Int32))} {code ca cf ct sf many : Nat → Int32} {p1 p2 p3 oB oG oH oL oN oT rA vF rS rU rX : Int32} (hp : 0 ≤ p1.toInt) (hp2 : p1.toInt < 10) (hR : rOK code cf ct sf many)
    (hK : ∀ (x : Int32) (ir wo : Nat → Int32), 0 ≤ x.toInt → x.toInt < 240 → SG code (sf x.toNatClampNeg) (cf x.toNatClampNeg) → Sf (K x ir wo) P) (hP : ∀ ir wo : Nat → Int32, P (0, rA, oB, p2, vF, oG, oH, oL, p3, oN, rS, oT, rU, rX, ir, wo)) : ∀ (n : Nat) (x : Int32) (ir wo : Nat → Int32), 12 * p1.toInt ≤ x.toInt → x.toInt ≤ 12 * p1.toInt + 12 → 12 * p1.toInt + 13 - x.toInt < (n : Int) →
    Sf (f_X12_heightOf_L95 code ca cf ct many p1 p2 p3 oB oG oH oL oN oT rA vF rS rU rX K n x ir wo) P := by
  have z0 : (0 : Int32).toInt = 0 := by decide
  have e0 := adX 0 p1 (by omega) (by omega)
  intro n
  induction n with
  | zero => intro x ir wo h1 h2 h3; exact absurd h3 (by omega)
  | succ n ih =>
    intro x ir wo h1 h2 h3
    rw [f_X12_heightOf_L95]
    refine Sf_rdI (by omega) (by omega) (fun v hv => ?_)
    obtain ⟨m1, m2, m3⟩ := rOK_rd hR (i := 0 + p1) (by omega) (by omega) hv
    have e1 := mlY 12 (0 + p1) 12 (by decide) (by omega) (by omega)
    have e2 := adX (12 * (0 + p1)) v (by omega) (by omega)
    refine Sf_ite (fun h => Sf_some (hP ir wo)) (fun h => ?_)
    have c1 := nleI h
    obtain ⟨g1, g2⟩ := m3 x (by omega) (by omega)
    refine Sf_cb3 (holds_i (by omega) (by omega) g1) (fun r ir2 wo2 _ => ?_)
    have o1 : (1 : Int32).toInt = 1 := by decide
    have e3 := adX x 1 (by omega) (by omega)
    refine Sf_ite (fun _ => ?_) (fun _ => hK x ir2 wo2 (by omega) (by omega) g2)
    rw [nmI_o]
    exact ih (x + 1) ir2 wo2 (by omega) (by omega) (by omega)
theorem s_X12_heightOf (sd aA aB aD aF aG aH aL aM aN aS aT aU aX : Int32) (bs code ca cf ct ir many mo sf wk wd wo : Nat → Int32) (p1 p2 p3 : Int32) (hp : 0 ≤ p1.toInt) (hp2 : p1.toInt < 10) (hR : rOK code cf ct sf many) : Sf (f_X12_heightOf sd aA aB aD aF aG aH aL aM aN aS aT aU aX bs code ca cf ct ir many mo sf wk wd wo p1 p2 p3) (fun y => 0 ≤ y.1.toInt ∧ y.1.toInt ≤ 1000) := by
  have := FUi
  have z0 : (0 : Int32).toInt = 0 := by decide
  rw [f_X12_heightOf]
  refine Sf_cb1 (s_X12_isThere bs mo wk wd p1 p2 p3 hp hp2) (fun _ _ => ?_)
  refine Sf_ite (fun _ => Sf_some (show 0 ≤ (0 : Int32).toInt ∧ (0 : Int32).toInt ≤ 1000 by decide)) (fun _ => ?_)
  refine Sf_cb13 (s_X12_clears aA aB aD aF aG aH aL aM aN aS aT aU aX) (fun _ _ _ _ _ _ _ _ _ _ _ _ _ _ => ?_)
  refine Sf_cb1 (s_X12_awayOf bs mo p1 p2 p3 hp hp2) (fun _ _ => ?_)
  rw [nmI_o]
  refine Sf_cb1 (s_X12_starAt p2 p3) (fun _ _ => ?_)
  refine Sf_cb1 (s_X12_farOf _ _) (fun _ _ => ?_)
  refine Sf_cb1 (s_X12_luckOf sd p1 p2 p3) (fun _ _ => ?_)
  rw [nmI_o]
  have e0 := adX 0 p1 (by omega) (by omega)
  have e1 := mlY 12 (0 + p1) 12 (by decide) (by omega) (by omega)
  refine height_L hp hp2 hR (fun x ir2 wo2 h1 h2 hS => ?_) (fun _ _ => (show 0 ≤ (0 : Int32).toInt ∧ (0 : Int32).toInt ≤ 1000 by decide)) FU _ ir wo (by omega) (by omega) (by omega)
  rw [f_X12_heightOf_J127]
  refine Sf_cb3 (s_X12_sumOf h1 h2 hS) (fun r ir3 wo3 _ => ?_)
  have l : (1000 : Int32).toInt = 1000 := by decide
  refine Sf_ite (fun h => ?_) (fun _ => Sf_some (show 0 ≤ (0 : Int32).toInt ∧ (0 : Int32).toInt ≤ 1000 by decide))
  have c1 := leI h
  refine Sf_ite (fun h3 => ?_) (fun _ => Sf_some (show 0 ≤ (1000 : Int32).toInt ∧ (1000 : Int32).toInt ≤ 1000 by decide))
  have c2 := leI h3
  exact Sf_some (show 0 ≤ r.toInt ∧ r.toInt ≤ 1000 from ⟨by omega, by omega⟩)
end
