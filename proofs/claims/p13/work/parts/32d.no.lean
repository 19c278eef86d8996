/-! counting; notes -/
def cnt (Q : Nat → Bool) : Nat → Nat
  | 0 => 0
  | n + 1 => cnt Q n + (if Q n = true then 1 else 0)
theorem cnt_s {Q : Nat → Bool} {n : Nat} (h : Q n = true) : cnt Q (n + 1) = cnt Q n + 1 := by rw [cnt, if_pos h]
theorem cnt_n {Q : Nat → Bool} {n : Nat} (h : ¬ Q n = true) : cnt Q (n + 1) = cnt Q n := by rw [cnt, if_neg h]; rfl
theorem cnt_congr {Q R : Nat → Bool} : ∀ {n : Nat}, (∀ k, k < n → Q k = R k) → cnt Q n = cnt R n := by
  intro n
  induction n with
  | zero => intro _; rfl
  | succ n ih =>
    intro h
    rw [cnt, cnt, ih (fun k hk => h k (by omega)), h n (by omega)]
theorem cnt_le (Q : Nat → Bool) : ∀ n : Nat, cnt Q n ≤ n := by
  intro n
  induction n with
  | zero => exact Nat.le_refl _
  | succ n ih => rw [cnt]; split <;> omega
theorem cnt_pos {Q : Nat → Bool} : ∀ {n i : Nat}, i < n → Q i = true → 1 ≤ cnt Q n := by
  intro n
  induction n with
  | zero => intro i h; exact absurd h (by omega)
  | succ n ih =>
    intro i h hq
    by_cases c : i = n
    · subst c; rw [cnt_s hq]; omega
    · have := ih (i := i) (by omega) hq
      rw [cnt]; omega
theorem cnt_ex {Q : Nat → Bool} : ∀ {n : Nat}, 1 ≤ cnt Q n → ∃ i, i < n ∧ Q i = true := by
  intro n
  induction n with
  | zero => intro h; exact absurd h (by rw [cnt]; omega)
  | succ n ih =>
    intro h
    by_cases c : Q n = true
    · exact ⟨n, by omega, c⟩
    · rw [cnt_n c] at h
      obtain ⟨i, h1, h2⟩ := ih h
      exact ⟨i, by omega, h2⟩
theorem cnt_and_le (A B : Nat → Bool) : ∀ n : Nat, cnt (fun i => A i && B i) n ≤ cnt A n := by
  intro n
  induction n with
  | zero => exact Nat.le_refl _
  | succ n ih =>
    rw [cnt, cnt]
    by_cases c : A n = true
    · rw [if_pos c]; split <;> omega
    · rw [if_neg c, if_neg (by simp [c])]; omega
theorem cnt_all {A B : Nat → Bool} : ∀ {n : Nat}, cnt (fun i => A i && B i) n = cnt A n ↔ ∀ i, i < n → A i = true → B i = true := by
  intro n
  induction n with
  | zero => exact ⟨fun _ i h => absurd h (by omega), fun _ => rfl⟩
  | succ n ih =>
    have hle := cnt_and_le A B n
    rw [cnt, cnt]
    by_cases c : A n = true
    · rw [if_pos c]
      by_cases d : B n = true
      · rw [if_pos (by simp [c, d])]
        constructor
        · intro h i hi ha
          by_cases e : i = n
          · subst e; exact d
          · exact ih.mp (by omega) i (by omega) ha
        · intro h
          have := ih.mpr (fun i hi ha => h i (by omega) ha)
          omega
      · rw [if_neg (by simp [d])]
        constructor
        · intro h; exfalso; omega
        · intro h; exact absurd (h n (by omega) c) d
    · rw [if_neg c, if_neg (by simp [c])]
      constructor
      · intro h i hi ha
        by_cases e : i = n
        · subst e; exact absurd ha c
        · exact ih.mp (by omega) i (by omega) ha
      · intro h
        have := ih.mpr (fun i hi ha => h i (by omega) ha)
        omega
def mtB (D S : Nat → Int32) (s d : Int32) : Nat → Bool := fun i => decide (S i = s) && decide ((D i).toInt ≤ d.toInt)
def vOf (D M : Nat → Int32) (st : Int32) (i : Nat) : Int32 := if st = 0 then M i else jrem (M i + 4 * D i) 1440
def nBd (D M : Nat → Int32) : Prop := ∀ j, (0 ≤ (D j).toInt ∧ (D j).toInt ≤ 399) ∧ (0 ≤ (M j).toInt ∧ (M j).toInt ≤ 1439)
theorem vOf_b {D M : Nat → Int32} (h : nBd D M) (st : Int32) (i : Nat) : 0 ≤ (vOf D M st i).toInt ∧ (vOf D M st i).toInt < 1440 := by
  obtain ⟨h1, h2⟩ := h i
  unfold vOf
  by_cases c : st = 0
  · rw [if_pos c]; omega
  · rw [if_neg c]
    have e1 := mlY 4 (D i) 4 (by decide) (by omega) (by omega)
    have e2 := adX (M i) (4 * D i) (by omega) (by omega)
    have z : (1440 : Int32).toInt = 1440 := by decide
    have m := rm_ (M i + 4 * D i) 1440 (by decide)
    have := m.2.2.1 (by omega)
    omega
theorem mtB_t {D S : Nat → Int32} {s d : Int32} {i : Nat} (h1 : S i = s) (h2 : ¬ d < D i) : mtB D S s d i = true := by
  have := nltI h2
  simp [mtB, h1, this]
theorem mtB_f1 {D S : Nat → Int32} {s d : Int32} {i : Nat} (h1 : ¬ S i = s) : ¬ mtB D S s d i = true := by simp [mtB, h1]
theorem mtB_f2 {D S : Nat → Int32} {s d : Int32} {i : Nat} (h2 : d < D i) : ¬ mtB D S s d i = true := by
  have := ltI h2
  simp [mtB]
  intro _; omega
/-- what gather leaves -/
def gaP (D M S : Nat → Int32) (s d st : Int32) (g : Nat → Int32) (f n : Nat) : Prop := ∀ Q : Int32 → Bool, cnt (fun k => Q (g k)) f = cnt (fun i => mtB D S s d i && Q (vOf D M st i)) n
theorem gaP_skip {D M S : Nat → Int32} {s d st : Int32} {g : Nat → Int32} {f n : Nat} (h : gaP D M S s d st g f n) (hm : ¬ mtB D S s d n = true) : gaP D M S s d st g f (n + 1) := by
  intro Q
  rw [h Q, cnt_n (by simp [hm])]
theorem gaP_put {D M S : Nat → Int32} {s d st v : Int32} {g : Nat → Int32} {f n : Nat} (h : gaP D M S s d st g f n) (hm : mtB D S s d n = true) (hv : v = vOf D M st n) : gaP D M S s d st (upd g f v) (f + 1) (n + 1) := by
  intro Q
  have e : cnt (fun k => Q (upd g f v k)) f = cnt (fun k => Q (g k)) f := cnt_congr (fun k hk => by
    show Q (upd g f v k) = Q (g k)
    unfold upd
    rw [if_neg (by omega)])
  have e2 : upd g f v f = v := if_pos rfl
  by_cases c : Q v = true
  · rw [cnt_s (by show Q (upd g f v f) = true; rw [e2]; exact c), cnt_s (by show (mtB D S s d n && Q (vOf D M st n)) = true; rw [← hv, hm, c]; rfl), e, h Q]
  · rw [cnt_n (by show ¬ Q (upd g f v f) = true; rw [e2]; exact c), cnt_n (by show ¬ (mtB D S s d n && Q (vOf D M st n)) = true; rw [← hv]; simp [c]), e, h Q]
theorem gather_L {no s d st : Int32} {D M S : Nat → Int32} (h1 : 0 ≤ no.toInt) (h2 : no.toInt ≤ 40) :
    ∀ (n : Nat) (f x : Int32) (g : Nat → Int32), 0 ≤ x.toInt → x.toInt ≤ no.toInt → 0 ≤ f.toInt → f.toInt ≤ x.toInt → gaP D M S s d st g f.toNatClampNeg x.toNatClampNeg → 41 - x.toInt < (n : Int) → Sf (f_X3_gather_L6 no D M S s d st n f x g) (fun y => 0 ≤ y.1.toInt ∧ y.1.toInt ≤ no.toInt ∧ gaP D M S s d st y.2 y.1.toNatClampNeg no.toNatClampNeg) := by
  intro n
  induction n with
  | zero => intro f x g a1 a2 a3 a4 a5 hm; exact absurd hm (by omega)
  | succ n ih =>
    intro f x g a1 a2 a3 a4 a5 hme
    rw [f_X3_gather_L6]
    have tn := tN no h1
    have tx := tN x a1
    have tf := tN f a3
    refine Sf_ite (fun c => ?_) (fun c => ?_)
    · have c := leI c
      have e : x.toNatClampNeg = no.toNatClampNeg := by omega
      rw [e] at a5
      exact Sf_some ⟨a3, show f.toInt ≤ no.toInt by omega, a5⟩
    · have c := nleI c
      have e1 := adN x 1 1 (by decide) (by omega) (by omega)
      have e2 := adN f 1 1 (by decide) (by omega) (by omega)
      have tx1 : (x + 1).toNatClampNeg = x.toNatClampNeg + 1 := by have := tN (x + 1) (by omega); omega
      have tf1 : (f + 1).toNatClampNeg = f.toNatClampNeg + 1 := by have := tN (f + 1) (by omega); omega
      refine Sf_rdI (by omega) (by omega) (fun v hv => ?_)
      refine Sf_ite (fun c2 => ?_) (fun c2 => ?_)
      · rw [hv] at c2
        refine Sf_rdI (by omega) (by omega) (fun w hw => ?_)
        refine Sf_ite (fun c3 => ?_) (fun c3 => ?_)
        · rw [hw] at c3
          refine Sf_nmI (fun x2 hx2 => ?_)
          subst hx2
          refine ih f (x + 1) g (by omega) (by omega) a3 (by omega) ?_ (by omega)
          rw [tx1]
          exact gaP_skip a5 (mtB_f2 c3)
        · rw [hw] at c3
          refine Sf_ite (fun c4 => ?_) (fun c4 => ?_)
          · refine Sf_rdI (by omega) (by omega) (fun u hu => ?_)
            refine Sf_wrI (by omega) (by omega) (fun g2 hg => ?_)
            refine Sf_nmI (fun f2 hf2 => Sf_nmI (fun x2 hx2 => ?_))
            subst hf2; subst hx2
            refine ih (f + 1) (x + 1) g2 (by omega) (by omega) (by omega) (by omega) ?_ (by omega)
            rw [tx1, tf1, hg]
            exact gaP_put a5 (mtB_t c2 c3) (by rw [hu]; unfold vOf; rw [if_pos c4])
          · refine Sf_rdI (by omega) (by omega) (fun u hu => ?_)
            refine Sf_rdI (by omega) (by omega) (fun t ht => ?_)
            rw [f_X11_starMinute, cb1_o]
            refine Sf_wrI (by omega) (by omega) (fun g2 hg => ?_)
            refine Sf_nmI (fun f2 hf2 => Sf_nmI (fun x2 hx2 => ?_))
            subst hf2; subst hx2
            refine ih (f + 1) (x + 1) g2 (by omega) (by omega) (by omega) (by omega) ?_ (by omega)
            rw [tx1, tf1, hg]
            exact gaP_put a5 (mtB_t c2 c3) (by rw [hu, ht]; unfold vOf; rw [if_neg c4])
      · rw [hv] at c2
        refine Sf_nmI (fun x2 hx2 => ?_)
        subst hx2
        refine ih f (x + 1) g (by omega) (by omega) a3 (by omega) ?_ (by omega)
        rw [tx1]
        exact gaP_skip a5 (mtB_f1 c2)
theorem gather_e {no s d st : Int32} {D M S g : Nat → Int32} (h1 : 0 ≤ no.toInt) (h2 : no.toInt ≤ 40) : Sf (f_X3_gather no D g M S s d st) (fun y => 0 ≤ y.1.toInt ∧ y.1.toInt ≤ no.toInt ∧ gaP D M S s d st y.2 y.1.toNatClampNeg no.toNatClampNeg) := by
  have hFU : (100000 : Int) ≤ (FU : Int) := Int.ofNat_le.mpr FU_ge
  have z : (0 : Int32).toInt = 0 := by decide
  have zn : (0 : Int32).toNatClampNeg = 0 := by decide
  rw [f_X3_gather]
  refine gather_L h1 h2 FU 0 0 g (by omega) (by omega) (by omega) (by omega) ?_ (by omega)
  rw [zn]
  intro Q
  rfl
theorem gaP_n {D M S : Nat → Int32} {s d st : Int32} {g : Nat → Int32} {f n : Nat} (h : gaP D M S s d st g f n) : f = cnt (mtB D S s d) n := by
  have h1 := h (fun _ => true)
  have e1 : ∀ f : Nat, cnt (fun _ => true) f = f := by
    intro f
    induction f with
    | zero => rfl
    | succ f ih => rw [cnt_s rfl, ih]
  rw [e1] at h1
  rw [h1]
  exact cnt_congr (fun k _ => by simp)
theorem gaP_to {D M S : Nat → Int32} {s d st : Int32} {g : Nat → Int32} {f n : Nat} (h : gaP D M S s d st g f n) {k : Nat} (hk : k < f) : ∃ i, i < n ∧ mtB D S s d i = true ∧ vOf D M st i = g k := by
  have h1 := h (fun v => decide (v = g k))
  have h2 : 1 ≤ cnt (fun j => decide (g j = g k)) f := cnt_pos hk (by simp)
  obtain ⟨i, h3, h4⟩ := cnt_ex (by rw [← h1]; exact h2)
  simp at h4
  exact ⟨i, h3, h4.1, h4.2⟩
theorem gaP_of {D M S : Nat → Int32} {s d st : Int32} {g : Nat → Int32} {f n : Nat} (h : gaP D M S s d st g f n) {i : Nat} (hi : i < n) (hm : mtB D S s d i = true) : ∃ k, k < f ∧ g k = vOf D M st i := by
  have h1 := h (fun v => decide (v = vOf D M st i))
  have h2 : 1 ≤ cnt (fun j => mtB D S s d j && decide (vOf D M st j = vOf D M st i)) n := cnt_pos hi (by simp [hm])
  obtain ⟨k, h3, h4⟩ := cnt_ex (by rw [h1]; exact h2)
  simp at h4
  exact ⟨k, h3, h4⟩
/-- ONE -/
def OneP (D M S : Nat → Int32) (s d st w : Int32) (n : Nat) : Prop := ∃ i, i < n ∧ mtB D S s d i = true ∧ ∀ j, j < n → mtB D S s d j = true → arcA (vOf D M st j).toInt (vOf D M st i).toInt 1440 ≤ w.toInt
theorem arcE_one {D M S : Nat → Int32} {s d st w r : Int32} {g : Nat → Int32} {n : Nat} (h : gaP D M S s d st g r.toNatClampNeg n) (h0 : 0 ≤ r.toInt) : arcE g r 1440 w ↔ OneP D M S s d st w n := by
  have tr := tN r h0
  have z : (1440 : Int32).toInt = 1440 := by decide
  unfold arcE arcQ OneP
  rw [z]
  constructor
  · rintro ⟨k, h1, h2⟩
    obtain ⟨i, h3, h4, h5⟩ := gaP_to h (k := k) (by omega)
    refine ⟨i, h3, h4, fun j hj hm => ?_⟩
    obtain ⟨k2, h6, h7⟩ := gaP_of h hj hm
    rw [h5, ← h7]
    exact h2 k2 (by omega)
  · rintro ⟨i, h1, h2, h3⟩
    obtain ⟨k, h6, h7⟩ := gaP_of h h1 h2
    refine ⟨k, by omega, fun k2 hk2 => ?_⟩
    obtain ⟨j, h8, h9, h10⟩ := gaP_to h (k := k2) (by omega)
    rw [h7, ← h10]
    exact h3 j h8 h9
theorem gaP_b {D M S : Nat → Int32} {s d st r : Int32} {g : Nat → Int32} {n : Nat} (h : gaP D M S s d st g r.toNatClampNeg n) (h0 : 0 ≤ r.toInt) (hb : nBd D M) : ∀ k : Nat, (k : Int) < r.toInt → 0 ≤ (g k).toInt ∧ (g k).toInt < (1440 : Int32).toInt := by
  intro k hk
  have tr := tN r h0
  have z : (1440 : Int32).toInt = 1440 := by decide
  obtain ⟨i, h3, h4, h5⟩ := gaP_to h (k := k) (by omega)
  rw [← h5, z]
  exact vOf_b hb st i
def bitP (r : Int32) (P Q : Prop) : Prop := (r = 3 ∧ P ∧ Q) ∨ (r = 1 ∧ P ∧ ¬ Q) ∨ (r = 2 ∧ ¬ P ∧ Q) ∨ (r = 0 ∧ ¬ P ∧ ¬ Q)
theorem bitP_eq {r q : Int32} {P Q : Prop} (h : bitP r P Q) (h2 : bitP q P Q) : r = q := by
  rcases h with ⟨a, b, c⟩ | ⟨a, b, c⟩ | ⟨a, b, c⟩ | ⟨a, b, c⟩ <;> rcases h2 with ⟨d, e, f⟩ | ⟨d, e, f⟩ | ⟨d, e, f⟩ | ⟨d, e, f⟩ <;> first | (rw [a, d]; done) | exact absurd b e | exact absurd e b | exact absurd c f | exact absurd f c
def onQ (D M S : Nat → Int32) (s d w : Int32) (n : Nat) (r : Int32) : Prop := (2 ≤ cnt (mtB D S s d) n ∧ bitP r (OneP D M S s d 1 w n) (OneP D M S s d 0 w n)) ∨ (cnt (mtB D S s d) n < 2 ∧ r = -1)
theorem oneBy_e {no s w d : Int32} {D M S g : Nat → Int32} (h1 : 0 ≤ no.toInt) (h2 : no.toInt ≤ 40) (hb : nBd D M) : Sf (f_X3_oneBy no D g M S s w d) (fun y => onQ D M S s d w no.toNatClampNeg y.1) := by
  have z2 : (2 : Int32).toInt = 2 := by decide
  rw [f_X3_oneBy]
  refine Sf_cb2 (gather_e h1 h2) (fun r g1 hg => ?_)
  obtain ⟨a1, a2, a3⟩ := hg
  have a1 : 0 ≤ r.toInt := a1
  have a2 : r.toInt ≤ no.toInt := a2
  have a3 : gaP D M S s d 1 g1 r.toNatClampNeg no.toNatClampNeg := a3
  have hn := gaP_n a3
  have tr := tN r a1
  have z1440 : (1440 : Int32).toInt = 1440 := by decide
  refine Sf_ite (fun c => ?_) (fun c => ?_)
  · have c := leI c
    have J : ∀ t : Int32, isB t (OneP D M S s d 1 w no.toNatClampNeg) → Sf (f_X3_oneBy_J38 no D M S s w d r g1 t) (fun y => onQ D M S s d w no.toNatClampNeg y.1) := by
      intro t ht
      rw [f_X3_oneBy_J38]
      refine Sf_cb2 (gather_e h1 h2) (fun r2 g2 hg2 => ?_)
      obtain ⟨b1, b2, b3⟩ := hg2
      have b1 : 0 ≤ r2.toInt := b1
      have b3 : gaP D M S s d 0 g2 r2.toNatClampNeg no.toNatClampNeg := b3
      have hn2 := gaP_n b3
      have er : r2 = r := by
        have := tN r2 b1
        exact i32_eq (by omega)
      rw [er] at b3
      refine Sf_cb1 (arc_e (by omega) (by omega) (by omega) (gaP_b b3 a1 hb)) (fun q hq => ?_)
      have hi := arcE_one (w := w) b3 a1
      refine Sf_ite (fun c2 => Sf_some (Or.inl ⟨by omega, ?_⟩)) (fun c2 => Sf_some (Or.inl ⟨by omega, ?_⟩))
      · have q0 : ¬ OneP D M S s d 0 w no.toNatClampNeg := fun w => isB_0 hq c2 (hi.mpr w)
        rcases ht with ⟨t1, t2⟩ | ⟨t1, t2⟩
        · exact Or.inr (Or.inl ⟨t1, t2, q0⟩)
        · exact Or.inr (Or.inr (Or.inr ⟨t1, t2, q0⟩))
      · have q1 := hi.mp (isB_1 hq c2)
        rcases ht with ⟨t1, t2⟩ | ⟨t1, t2⟩
        · rw [t1]; exact Or.inl ⟨show (1 ||| 2 : Int32) = 3 by decide, t2, q1⟩
        · rw [t1]; exact Or.inr (Or.inr (Or.inl ⟨show (0 ||| 2 : Int32) = 2 by decide, t2, q1⟩))
    refine Sf_cb1 (arc_e (by omega) (by omega) (by omega) (gaP_b a3 a1 hb)) (fun q hq => ?_)
    have hi := arcE_one (w := w) a3 a1
    exact Sf_ite (fun c2 => J 0 (Or.inr ⟨rfl, fun w => isB_0 hq c2 (hi.mpr w)⟩)) (fun c2 => J 1 (Or.inl ⟨rfl, hi.mp (isB_1 hq c2)⟩))
  · have c := nleI c
    exact Sf_some (Or.inr ⟨by omega, rfl⟩)
/-! the reference -/
theorem minuteBy_e {D M : Nat → Int32} {i st : Int32} (h1 : 0 ≤ i.toInt) (h2 : i.toInt < 40) : f_X12_minuteBy D M i st = some (vOf D M st i.toNatClampNeg) := by
  have jl : jin i 40 = true := jin_of h1 (by omega)
  rw [f_X12_minuteBy]
  unfold vOf
  by_cases c : st = 0
  · rw [if_pos c, if_pos c, rdI_o jl]
  · rw [if_neg c, if_neg c, rdI_o jl, rdI_o jl, f_X12_starAt, cb1_o]
theorem manyOf_L {no s d : Int32} {D S : Nat → Int32} (h1 : 0 ≤ no.toInt) (h2 : no.toInt ≤ 40) :
    ∀ (n : Nat) (c x : Int32), 0 ≤ x.toInt → x.toInt ≤ no.toInt → 0 ≤ c.toInt → c.toInt = (cnt (mtB D S s d) x.toNatClampNeg : Int) → 41 - x.toInt < (n : Int) → Sf (f_X12_manyOf_L5 no D S s d n c x) (fun r => r.toInt = (cnt (mtB D S s d) no.toNatClampNeg : Int)) := by
  intro n
  induction n with
  | zero => intro c x a1 a2 a3 a4 hm; exact absurd hm (by omega)
  | succ n ih =>
    intro c x a1 a2 a3 a4 hme
    rw [f_X12_manyOf_L5]
    have tn := tN no h1
    have tx := tN x a1
    have hle := cnt_le (mtB D S s d) x.toNatClampNeg
    refine Sf_ite (fun g => ?_) (fun g => ?_)
    · have g := leI g
      have e : x.toNatClampNeg = no.toNatClampNeg := by omega
      rw [e] at a4
      exact Sf_some a4
    · have g := nleI g
      have e1 := adN x 1 1 (by decide) (by omega) (by omega)
      have e2 := adN c 1 1 (by decide) (by omega) (by omega)
      have e0 := adN c 0 0 (by decide) (by omega) (by omega)
      have tx1 : (x + 1).toNatClampNeg = x.toNatClampNeg + 1 := by have := tN (x + 1) (by omega); omega
      refine Sf_rdI (by omega) (by omega) (fun v hv => ?_)
      refine Sf_ite (fun c2 => ?_) (fun c2 => ?_)
      · rw [hv] at c2
        refine Sf_rdI (by omega) (by omega) (fun w hw => ?_)
        refine Sf_ite (fun c3 => ?_) (fun c3 => ?_)
        · rw [hw] at c3
          refine Sf_nmI (fun f2 hf2 => Sf_nmI (fun x2 hx2 => ?_))
          subst hf2; subst hx2
          refine ih (c + 0) (x + 1) (by omega) (by omega) (by omega) ?_ (by omega)
          rw [tx1, cnt_n (mtB_f2 c3)]; omega
        · rw [hw] at c3
          refine Sf_nmI (fun f2 hf2 => Sf_nmI (fun x2 hx2 => ?_))
          subst hf2; subst hx2
          refine ih (c + 1) (x + 1) (by omega) (by omega) (by omega) ?_ (by omega)
          rw [tx1, cnt_s (mtB_t c2 c3)]; omega
      · rw [hv] at c2
        refine Sf_nmI (fun f2 hf2 => Sf_nmI (fun x2 hx2 => ?_))
        subst hf2; subst hx2
        refine ih (c + 0) (x + 1) (by omega) (by omega) (by omega) ?_ (by omega)
        rw [tx1, cnt_n (mtB_f1 c2)]; omega
theorem manyOf_e {no s d : Int32} {D S : Nat → Int32} (h1 : 0 ≤ no.toInt) (h2 : no.toInt ≤ 40) : Sf (f_X12_manyOf no D S s d) (fun r => r.toInt = (cnt (mtB D S s d) no.toNatClampNeg : Int)) := by
  have hFU : (100000 : Int) ≤ (FU : Int) := Int.ofNat_le.mpr FU_ge
  have z : (0 : Int32).toInt = 0 := by decide
  have zn : (0 : Int32).toNatClampNeg = 0 := by decide
  rw [f_X12_manyOf]
  refine manyOf_L h1 h2 FU 0 0 (by omega) (by omega) (by omega) ?_ (by omega)
  rw [zn]; rfl
def arB (D M : Nat → Int32) (st b w : Int32) : Nat → Bool := fun i => decide (arcA (vOf D M st i).toInt b.toInt 1440 ≤ w.toInt)
theorem onArc_L {no s d st b w : Int32} {D M S : Nat → Int32} (h1 : 0 ≤ no.toInt) (h2 : no.toInt ≤ 40) (hB : nBd D M) (hb : 0 ≤ b.toInt ∧ b.toInt < 1440) :
    ∀ (n : Nat) (c x : Int32), 0 ≤ x.toInt → x.toInt ≤ no.toInt → 0 ≤ c.toInt → c.toInt = (cnt (fun i => mtB D S s d i && arB D M st b w i) x.toNatClampNeg : Int) → 41 - x.toInt < (n : Int) → Sf (f_X12_onArc_L6 no D M S s d st b w n c x) (fun r => r.toInt = (cnt (fun i => mtB D S s d i && arB D M st b w i) no.toNatClampNeg : Int)) := by
  intro n
  induction n with
  | zero => intro c x a1 a2 a3 a4 hm; exact absurd hm (by omega)
  | succ n ih =>
    intro c x a1 a2 a3 a4 hme
    rw [f_X12_onArc_L6]
    have tn := tN no h1
    have tx := tN x a1
    have hle := cnt_le (fun i => mtB D S s d i && arB D M st b w i) x.toNatClampNeg
    refine Sf_ite (fun g => ?_) (fun g => ?_)
    · have g := leI g
      have e : x.toNatClampNeg = no.toNatClampNeg := by omega
      rw [e] at a4
      exact Sf_some a4
    · have g := nleI g
      have e1 := adN x 1 1 (by decide) (by omega) (by omega)
      have e2 := adN c 1 1 (by decide) (by omega) (by omega)
      have e0 := adN c 0 0 (by decide) (by omega) (by omega)
      have tx1 : (x + 1).toNatClampNeg = x.toNatClampNeg + 1 := by have := tN (x + 1) (by omega); omega
      refine Sf_rdI (by omega) (by omega) (fun v hv => ?_)
      refine Sf_ite (fun c2 => ?_) (fun c2 => ?_)
      · rw [hv] at c2
        refine Sf_rdI (by omega) (by omega) (fun u hu => ?_)
        refine Sf_ite (fun c3 => ?_) (fun c3 => ?_)
        · rw [hu] at c3
          refine Sf_nmI (fun x2 hx2 => ?_)
          subst hx2
          refine ih c (x + 1) (by omega) (by omega) (by omega) ?_ (by omega)
          rw [tx1, cnt_n (by simp [mtB_f2 c3])]; omega
        · rw [hu] at c3
          rw [minuteBy_e a1 (by omega), cb1_o]
          have hV := vOf_b hB st x.toNatClampNeg
          have z : (1440 : Int32).toInt = 1440 := by decide
          have es := sbX (vOf D M st x.toNatClampNeg) b (by omega) (by omega)
          have ea := adX (vOf D M st x.toNatClampNeg - b) 1440 (by omega) (by omega)
          have er : (jrem (vOf D M st x.toNatClampNeg - b + 1440) 1440).toInt = arcA (vOf D M st x.toNatClampNeg).toInt b.toInt 1440 := by
            rw [jrem_nn _ _ (by omega) (by omega), ea, es, z]
            exact arc_m hV hb
          refine Sf_ite (fun c4 => ?_) (fun c4 => ?_)
          · have c4 := ltI c4
            rw [er] at c4
            refine Sf_nmI (fun f2 hf2 => Sf_nmI (fun x2 hx2 => ?_))
            subst hf2; subst hx2
            refine ih (c + 0) (x + 1) (by omega) (by omega) (by omega) ?_ (by omega)
            rw [tx1, cnt_n (by simp [arB]; intro _; omega)]; omega
          · have c4 := nltI c4
            rw [er] at c4
            refine Sf_nmI (fun f2 hf2 => Sf_nmI (fun x2 hx2 => ?_))
            subst hf2; subst hx2
            refine ih (c + 1) (x + 1) (by omega) (by omega) (by omega) ?_ (by omega)
            rw [tx1, cnt_s (by simp [arB, mtB_t c2 c3]; omega)]; omega
      · rw [hv] at c2
        refine Sf_nmI (fun x2 hx2 => ?_)
        subst hx2
        refine ih c (x + 1) (by omega) (by omega) (by omega) ?_ (by omega)
        rw [tx1, cnt_n (by simp [mtB_f1 c2])]; omega
theorem onArc_e {no s d st b w : Int32} {D M S : Nat → Int32} (h1 : 0 ≤ no.toInt) (h2 : no.toInt ≤ 40) (hB : nBd D M) (hb : 0 ≤ b.toInt ∧ b.toInt < 1440) : Sf (f_X12_onArc no D M S s d st b w) (fun r => r.toInt = (cnt (fun i => mtB D S s d i && arB D M st b w i) no.toNatClampNeg : Int)) := by
  have hFU : (100000 : Int) ≤ (FU : Int) := Int.ofNat_le.mpr FU_ge
  have z : (0 : Int32).toInt = 0 := by decide
  have zn : (0 : Int32).toNatClampNeg = 0 := by decide
  rw [f_X12_onArc]
  refine onArc_L h1 h2 hB hb FU 0 0 (by omega) (by omega) (by omega) ?_ (by omega)
  rw [zn]; rfl
theorem isOne_L {no s d st w q : Int32} {D M S : Nat → Int32} (h1 : 0 ≤ no.toInt) (h2 : no.toInt ≤ 40) (hB : nBd D M) (hq : q.toInt = (cnt (mtB D S s d) no.toNatClampNeg : Int)) :
    ∀ (n : Nat) (x : Int32), 0 ≤ x.toInt → x.toInt ≤ no.toInt → (∀ i : Nat, (i : Int) < x.toInt → ¬ (mtB D S s d i = true ∧ ∀ j, j < no.toNatClampNeg → mtB D S s d j = true → arcA (vOf D M st j).toInt (vOf D M st i).toInt 1440 ≤ w.toInt)) → 41 - x.toInt < (n : Int) → Sf (f_X12_isOne_L11 no D M S s d st w q n x) (fun r => isB r (OneP D M S s d st w no.toNatClampNeg)) := by
  intro n
  induction n with
  | zero => intro x a1 a2 a3 hm; exact absurd hm (by omega)
  | succ n ih =>
    intro x a1 a2 a3 hme
    rw [f_X12_isOne_L11]
    have tn := tN no h1
    have tx := tN x a1
    refine Sf_ite (fun g => ?_) (fun g => ?_)
    · have g := leI g
      refine Sf_some (Or.inr ⟨rfl, fun w => ?_⟩)
      obtain ⟨i, b1, b2, b3⟩ := w
      exact a3 i (by omega) ⟨b2, b3⟩
    · have g := nleI g
      have e1 := adN x 1 1 (by decide) (by omega) (by omega)
      refine Sf_rdI (by omega) (by omega) (fun v hv => ?_)
      refine Sf_ite (fun c2 => ?_) (fun c2 => ?_)
      · rw [hv] at c2
        refine Sf_rdI (by omega) (by omega) (fun u hu => ?_)
        refine Sf_ite (fun c3 => ?_) (fun c3 => ?_)
        · rw [hu] at c3
          refine Sf_nmI (fun x2 hx2 => ?_)
          subst hx2
          exact ih (x + 1) (by omega) (by omega) (all_step a3 a1 e1 (fun w => mtB_f2 c3 w.1)) (by omega)
        · rw [hu] at c3
          rw [minuteBy_e a1 (by omega), cb1_o]
          refine Sf_cb1 (onArc_e h1 h2 hB (vOf_b hB st _)) (fun r hr => ?_)
          have hr : r.toInt = (cnt (fun i => mtB D S s d i && arB D M st (vOf D M st x.toNatClampNeg) w i) no.toNatClampNeg : Int) := hr
          have hall := cnt_all (A := mtB D S s d) (B := arB D M st (vOf D M st x.toNatClampNeg) w) (n := no.toNatClampNeg)
          refine Sf_ite (fun c4 => ?_) (fun c4 => ?_)
          · have c4 := eqI c4
            refine Sf_some (Or.inl ⟨rfl, x.toNatClampNeg, by omega, mtB_t c2 c3, fun j hj hm => ?_⟩)
            have := hall.mp (by omega) j hj hm
            simpa [arB] using this
          · have c4 := neI c4
            refine Sf_nmI (fun x2 hx2 => ?_)
            subst hx2
            refine ih (x + 1) (by omega) (by omega) (all_step a3 a1 e1 (fun w => c4 ?_)) (by omega)
            have := hall.mpr (fun j hj hm => by simpa [arB] using w.2 j hj hm)
            omega
      · rw [hv] at c2
        refine Sf_nmI (fun x2 hx2 => ?_)
        subst hx2
        exact ih (x + 1) (by omega) (by omega) (all_step a3 a1 e1 (fun w => mtB_f1 c2 w.1)) (by omega)
theorem isOne_e {no s d st w : Int32} {D M S : Nat → Int32} (h1 : 0 ≤ no.toInt) (h2 : no.toInt ≤ 40) (hB : nBd D M) : Sf (f_X12_isOne no D M S s d st w) (fun r => isB r (OneP D M S s d st w no.toNatClampNeg)) := by
  have hFU : (100000 : Int) ≤ (FU : Int) := Int.ofNat_le.mpr FU_ge
  have z : (0 : Int32).toInt = 0 := by decide
  rw [f_X12_isOne]
  refine Sf_cb1 (manyOf_e h1 h2) (fun q hq => ?_)
  exact isOne_L h1 h2 hB hq FU 0 (by omega) (by omega) (fun i hi => absurd hi (by omega)) (by omega)
theorem oneBits_e {no s d w : Int32} {D M S : Nat → Int32} (h1 : 0 ≤ no.toInt) (h2 : no.toInt ≤ 40) (hB : nBd D M) : Sf (f_X12_oneBits no D M S s d w) (fun r => bitP r (OneP D M S s d 1 w no.toNatClampNeg) (OneP D M S s d 0 w no.toNatClampNeg)) := by
  have J : ∀ t : Int32, isB t (OneP D M S s d 1 w no.toNatClampNeg) → Sf (f_X12_oneBits_J16 no D M S s d w t) (fun r => bitP r (OneP D M S s d 1 w no.toNatClampNeg) (OneP D M S s d 0 w no.toNatClampNeg)) := by
    intro t ht
    rw [f_X12_oneBits_J16]
    refine Sf_cb1 (isOne_e h1 h2 hB) (fun q hq => ?_)
    refine Sf_ite (fun c => Sf_some ?_) (fun c => Sf_some ?_)
    · have q0 := isB_0 hq c
      rcases ht with ⟨t1, t2⟩ | ⟨t1, t2⟩
      · rw [t1]; exact Or.inr (Or.inl ⟨by decide, t2, q0⟩)
      · rw [t1]; exact Or.inr (Or.inr (Or.inr ⟨by decide, t2, q0⟩))
    · have q1 := isB_1 hq c
      rcases ht with ⟨t1, t2⟩ | ⟨t1, t2⟩
      · rw [t1]; exact Or.inl ⟨by decide, t2, q1⟩
      · rw [t1]; exact Or.inr (Or.inr (Or.inl ⟨by decide, t2, q1⟩))
  rw [f_X12_oneBits]
  refine Sf_cb1 (isOne_e h1 h2 hB) (fun q hq => ?_)
  exact Sf_ite (fun c => J 0 (Or.inr ⟨rfl, isB_0 hq c⟩)) (fun c => J 1 (Or.inl ⟨rfl, isB_1 hq c⟩))
