/-! arcs; blips -/
def isB (r : Int32) (P : Prop) : Prop := (r = 1 ∧ P) ∨ (r = 0 ∧ ¬ P)
theorem isB_eq {r q : Int32} {P Q : Prop} (h : isB r P) (h2 : isB q Q) (hpq : P ↔ Q) : r = q := by
  rcases h with ⟨a1, a2⟩ | ⟨a1, a2⟩ <;> rcases h2 with ⟨b1, b2⟩ | ⟨b1, b2⟩
  · rw [a1, b1]
  · exact absurd (hpq.mp a2) b2
  · exact absurd (hpq.mpr b2) a2
  · rw [a1, b1]
theorem isB_0 {r : Int32} {P : Prop} (h : isB r P) (e : r = 0) : ¬ P := by
  rcases h with ⟨a1, a2⟩ | ⟨a1, a2⟩
  · rw [e] at a1; exact absurd a1 (by decide)
  · exact a2
theorem isB_1 {r : Int32} {P : Prop} (h : isB r P) (e : ¬ r = 0) : P := by
  rcases h with ⟨a1, a2⟩ | ⟨a1, a2⟩
  · exact a2
  · exact absurd a1 e
theorem isB_mk {r : Int32} {P : Prop} (h : (r.toInt = 1 ∧ P) ∨ (r.toInt = 0 ∧ ¬ P)) : isB r P := by
  rcases h with ⟨a1, a2⟩ | ⟨a1, a2⟩
  · exact Or.inl ⟨i32_eq (a1.trans (by decide)), a2⟩
  · exact Or.inr ⟨i32_eq (a1.trans (by decide)), a2⟩
theorem all_step {P : Nat → Prop} {x x' : Int32} (h : ∀ k : Nat, (k : Int) < x.toInt → P k) (h0 : 0 ≤ x.toInt) (hx : x'.toInt = x.toInt + 1) (hn : P x.toNatClampNeg) : ∀ k : Nat, (k : Int) < x'.toInt → P k := by
  intro k hk
  have tx := tN x h0
  by_cases c : k = x.toNatClampNeg
  · rw [c]; exact hn
  · exact h k (by omega)
theorem all_upd {P : Nat → Int32 → Prop} {f : Nat → Int32} {x x' v : Int32} (h : ∀ k : Nat, (k : Int) < x.toInt → P k (f k)) (h0 : 0 ≤ x.toInt) (hx : x'.toInt = x.toInt + 1) (hn : P x.toNatClampNeg v) : ∀ k : Nat, (k : Int) < x'.toInt → P k (upd f x.toNatClampNeg v k) := by
  intro k hk
  have tx := tN x h0
  unfold upd
  by_cases c : k = x.toNatClampNeg
  · rw [if_pos c, c]; exact hn
  · rw [if_neg c]; exact h k (by omega)
def arcA (v b m : Int) : Int := if v - b < 0 then v - b + m else v - b
def arcQ (s : Nat → Int32) (p3 p1 p4 p5 : Int32) : Prop := ∀ k : Nat, (k : Int) < p3.toInt → arcA (s k).toInt p1.toInt p4.toInt ≤ p5.toInt
def arcE (s : Nat → Int32) (p2 p3 p4 : Int32) : Prop := ∃ i : Nat, (i : Int) < p2.toInt ∧ arcQ s p2 (s i) p3 p4
theorem arcFrom_L {nn : Nat} {s : Nat → Int32} {p1 p3 p4 p5 : Int32} (hn : p3.toInt ≤ nn) (hp : p3.toInt ≤ 40) (h4 : p4.toInt ≤ 1000000) (hb : ∀ k : Nat, (k : Int) < p3.toInt → 0 ≤ (s k).toInt ∧ (s k).toInt < p4.toInt) (h1 : 0 ≤ p1.toInt ∧ p1.toInt < p4.toInt) :
    ∀ (n : Nat) (x : Int32), 0 ≤ x.toInt → x.toInt ≤ 41 → (∀ k : Nat, (k : Int) < x.toInt → arcA (s k).toInt p1.toInt p4.toInt ≤ p5.toInt) → 42 - x.toInt < (n : Int) → Sf (f_X11_lieOnArcFrom_L3 nn s p1 p3 p4 p5 n x) (fun r => isB r (arcQ s p3 p1 p4 p5)) := by
  intro n
  induction n with
  | zero => intro x h0 h1 h2 hm; exact absurd hm (by omega)
  | succ n ih =>
    intro x h0 hx h2 hme
    rw [f_X11_lieOnArcFrom_L3]
    refine Sf_ite (fun g => ?_) (fun g => ?_)
    · have g := leI g
      exact Sf_some (Or.inl ⟨rfl, fun k hk => h2 k (by omega)⟩)
    · have g := nleI g
      have tx := tN x h0
      refine Sf_rdI (by omega) (by omega) (fun v hv => ?_)
      have hb1 := hb x.toNatClampNeg (by omega)
      rw [← hv] at hb1
      refine Sf_nmI (fun w hw => ?_)
      have ew : w.toInt = v.toInt - p1.toInt := (eqI hw).trans (sbX v p1 (by omega) (by omega))
      have e1 := adN x 1 1 (by decide) (by omega) (by omega)
      have z : (0 : Int32).toInt = 0 := by decide
      have J : ∀ t : Int32, t.toInt = arcA v.toInt p1.toInt p4.toInt → Sf (f_X11_lieOnArcFrom_J31 p5 x (f_X11_lieOnArcFrom_L3 nn s p1 p3 p4 p5 n) t) (fun r => isB r (arcQ s p3 p1 p4 p5)) := by
        intro t ht
        rw [f_X11_lieOnArcFrom_J31]
        refine Sf_ite (fun g2 => ?_) (fun g2 => ?_)
        · have g2 := leI g2
          exact ih (x + 1) (by omega) (by omega) (all_step h2 h0 e1 (by rw [← hv, ← ht]; exact g2)) (by omega)
        · have g2 := nleI g2
          refine Sf_some (Or.inr ⟨rfl, fun w => ?_⟩)
          have := w x.toNatClampNeg (by omega)
          rw [← hv, ← ht] at this
          omega
      refine Sf_ite (fun g3 => J w ?_) (fun g3 => J (w + p4) ?_)
      · have g3 := leI g3
        unfold arcA; rw [if_neg (by omega)]; exact ew
      · have g3 := nleI g3
        rw [adX w p4 (by omega) (by omega), ew]; unfold arcA; rw [if_pos (by omega)]
theorem arcFrom_e {nn : Nat} {s : Nat → Int32} {p1 p3 p4 p5 : Int32} (hn : p3.toInt ≤ nn) (hp : p3.toInt ≤ 40) (h4 : p4.toInt ≤ 1000000) (hb : ∀ k : Nat, (k : Int) < p3.toInt → 0 ≤ (s k).toInt ∧ (s k).toInt < p4.toInt) (h1 : 0 ≤ p1.toInt ∧ p1.toInt < p4.toInt) : Sf (f_X11_lieOnArcFrom nn s p1 p3 p4 p5) (fun r => isB r (arcQ s p3 p1 p4 p5)) := by
  have hFU : (100000 : Int) ≤ (FU : Int) := Int.ofNat_le.mpr FU_ge
  have z : (0 : Int32).toInt = 0 := by decide
  rw [f_X11_lieOnArcFrom]
  exact arcFrom_L hn hp h4 hb h1 FU 0 (by omega) (by omega) (fun k hk => absurd hk (by omega)) (by omega)
theorem arc_L {nn : Nat} {s : Nat → Int32} {p2 p3 p4 : Int32} (hn : p2.toInt ≤ nn) (hp : p2.toInt ≤ 40) (h4 : p3.toInt ≤ 1000000) (hb : ∀ k : Nat, (k : Int) < p2.toInt → 0 ≤ (s k).toInt ∧ (s k).toInt < p3.toInt) :
    ∀ (n : Nat) (x : Int32), 0 ≤ x.toInt → x.toInt ≤ 41 → (∀ k : Nat, (k : Int) < x.toInt → ¬ arcQ s p2 (s k) p3 p4) → 42 - x.toInt < (n : Int) → Sf (f_X11_lieOnArc_L3 nn s p2 p3 p4 n x) (fun r => isB r (arcE s p2 p3 p4)) := by
  intro n
  induction n with
  | zero => intro x h0 h1 h2 hm; exact absurd hm (by omega)
  | succ n ih =>
    intro x h0 hx h2 hme
    rw [f_X11_lieOnArc_L3]
    refine Sf_ite (fun g => ?_) (fun g => ?_)
    · have g := leI g
      refine Sf_some (Or.inr ⟨rfl, fun w => ?_⟩)
      obtain ⟨i, h3, h5⟩ := w
      exact h2 i (by omega) h5
    · have g := nleI g
      have tx := tN x h0
      refine Sf_rdI (by omega) (by omega) (fun v hv => ?_)
      have hb1 := hb x.toNatClampNeg (by omega)
      rw [← hv] at hb1
      have e1 := adN x 1 1 (by decide) (by omega) (by omega)
      refine Sf_cb1 (arcFrom_e hn hp h4 hb hb1) (fun r hr => ?_)
      refine Sf_ite (fun g2 => ?_) (fun g2 => ?_)
      · refine Sf_nmI (fun w hw => ?_)
        subst hw
        exact ih (x + 1) (by omega) (by omega) (all_step h2 h0 e1 (by rw [← hv]; exact isB_0 hr g2)) (by omega)
      · exact Sf_some (Or.inl ⟨rfl, x.toNatClampNeg, by omega, by rw [← hv]; exact isB_1 hr g2⟩)
theorem arc_e {nn : Nat} {s : Nat → Int32} {p2 p3 p4 : Int32} (hn : p2.toInt ≤ nn) (hp : p2.toInt ≤ 40) (h4 : p3.toInt ≤ 1000000) (hb : ∀ k : Nat, (k : Int) < p2.toInt → 0 ≤ (s k).toInt ∧ (s k).toInt < p3.toInt) : Sf (f_X11_lieOnArc nn s p2 p3 p4) (fun r => isB r (arcE s p2 p3 p4)) := by
  have hFU : (100000 : Int) ≤ (FU : Int) := Int.ofNat_le.mpr FU_ge
  have z : (0 : Int32).toInt = 0 := by decide
  rw [f_X11_lieOnArc]
  exact arc_L hn hp h4 hb FU 0 (by omega) (by omega) (fun k hk => absurd hk (by omega)) (by omega)
theorem jrem_nn (x y : Int32) (hx : 0 ≤ x.toInt) (hy : 0 < y.toInt) : (jrem x y).toInt = x.toInt % y.toInt := by
  have hd := dv_ x y y.toInt hy rfl
  have h1 := ub x.toInt y.toInt hy
  have hr := rgI y
  unfold jrem
  have e : (x - x / y * y).toInt = x.toInt - x.toInt.tdiv y.toInt * y.toInt := by
    rw [Int32.toInt_sub, Int32.toInt_mul, hd, Int.sub_bmod_bmod]
    exact Int.bmod_eq_of_le (by omega) (by omega)
  rw [e, Int.tdiv_eq_ediv_of_nonneg hx, Int.emod_def, Int.mul_comm]
/-- the reference's way round -/
theorem arc_m {v b m : Int} (h1 : 0 ≤ v ∧ v < m) (h2 : 0 ≤ b ∧ b < m) : (v - b + m) % m = arcA v b m := by
  unfold arcA
  by_cases c : v - b < 0
  · rw [if_pos c]; exact Int.emod_eq_of_lt (by omega) (by omega)
  · rw [if_neg c, Int.add_emod_right]; exact Int.emod_eq_of_lt (by omega) (by omega)
def FitP (T : Nat → Int32) (many : Int32) (p e : Int) : Prop := ∃ i : Nat, (i : Int) < many.toInt ∧ ∀ k : Nat, (k : Int) < many.toInt → arcA ((T k).toInt % p) ((T i).toInt % p) p ≤ 2 * e
theorem fitTo_L {many p : Int32} {T : Nat → Int32} {K : (Nat → Int32) → Option (Int32 × (Nat → Int32))} {P : Int32 × (Nat → Int32) → Prop} (hm : 0 ≤ many.toInt) (hm2 : many.toInt ≤ 40) (hp : 1 ≤ p.toInt) (hK : ∀ g : Nat → Int32, (∀ k : Nat, (k : Int) < many.toInt → g k = jrem (T k) p) → Sf (K g) P) :
    ∀ (n : Nat) (x : Int32) (g : Nat → Int32), 0 ≤ x.toInt → x.toInt ≤ 40 → (∀ k : Nat, (k : Int) < x.toInt → g k = jrem (T k) p) → 41 - x.toInt < (n : Int) → Sf (f_X0_fitTo_L9 many T p K n x g) P := by
  intro n
  induction n with
  | zero => intro x g h0 h1 h2 hm; exact absurd hm (by omega)
  | succ n ih =>
    intro x g h0 hx h2 hme
    rw [f_X0_fitTo_L9]
    refine Sf_ite (fun c => ?_) (fun c => ?_)
    · have c := leI c
      exact hK g (fun k hk => h2 k (by omega))
    · have c := nleI c
      have e1 := adN x 1 1 (by decide) (by omega) (by omega)
      refine Sf_rdI (by omega) (by omega) (fun v hv => ?_)
      refine Sf_dvI (by omega) ?_
      refine Sf_nmI (fun w hw => ?_)
      refine Sf_wrI (by omega) (by omega) (fun g2 hg => ?_)
      refine Sf_nmI (fun w2 hw2 => ?_)
      subst hw2
      refine ih (x + 1) g2 (by omega) (by omega) ?_ (by omega)
      rw [hg]
      exact all_upd (P := fun k z => z = jrem (T k) p) h2 h0 e1 (by rw [hw, hv])
theorem fitTo_e {many p e : Int32} {rs T : Nat → Int32} (hm : 0 ≤ many.toInt) (hm2 : many.toInt ≤ 40) (hp : 1 ≤ p.toInt) (hp2 : p.toInt ≤ 1000000) (he : 0 ≤ e.toInt) (he2 : e.toInt ≤ 1000) (hb : ∀ j, 0 ≤ (T j).toInt ∧ (T j).toInt ≤ 1000000000) : Sf (f_X0_fitTo many rs T p e) (fun y => isB y.1 (FitP T many p.toInt e.toInt)) := by
  have hFU : (100000 : Int) ≤ (FU : Int) := Int.ofNat_le.mpr FU_ge
  have z : (0 : Int32).toInt = 0 := by decide
  have o : (1 : Int32).toInt = 1 := by decide
  rw [f_X0_fitTo]
  refine Sf_ite (fun c => ?_) (fun c => absurd (nleI c) (by omega))
  refine fitTo_L hm hm2 hp (fun g hg => ?_) FU 0 rs (by omega) (by omega) (fun k hk => absurd hk (by omega)) (by omega)
  rw [f_X0_fitTo_J37]
  have e2 := mlY 2 e 2 (by decide) (by omega) (by omega)
  have hv : ∀ k : Nat, (k : Int) < many.toInt → (g k).toInt = (T k).toInt % p.toInt := fun k hk => by rw [hg k hk]; exact jrem_nn _ _ (hb k).1 (by omega)
  refine Sf_cb1 (arc_e (p2 := many) (by omega) hm2 hp2 (fun k hk => ?_)) (fun r hr => ?_)
  · rw [hv k hk]
    exact ⟨Int.emod_nonneg _ (by omega), Int.emod_lt_of_pos _ (by omega)⟩
  · have hq : isB r (FitP T many p.toInt e.toInt) := by
      have hiff : arcE g many p (2 * e) ↔ FitP T many p.toInt e.toInt := by
        unfold arcE FitP arcQ
        constructor
        · rintro ⟨i, h1, h2⟩
          refine ⟨i, h1, fun k hk => ?_⟩
          have := h2 k hk
          rw [hv k hk, hv i h1, e2] at this
          exact this
        · rintro ⟨i, h1, h2⟩
          refine ⟨i, h1, fun k hk => ?_⟩
          rw [hv k hk, hv i h1, e2]
          exact h2 k hk
      rcases hr with ⟨a1, a2⟩ | ⟨a1, a2⟩
      · exact Or.inl ⟨a1, hiff.mp a2⟩
      · exact Or.inr ⟨a1, fun w => a2 (hiff.mpr w)⟩
    refine Sf_bo ?_ (Sf_some hq)
    rcases hr with ⟨a1, a2⟩ | ⟨a1, a2⟩
    · rw [a1]; exact Or.inr rfl
    · rw [a1]; exact Or.inl rfl
theorem isFit_L16 {many p e i : Int32} {T : Nat → Int32} {K : Int32 → Option Int32} {P : Int32 → Prop} (hm : 0 ≤ many.toInt) (hm2 : many.toInt ≤ 40) (hp : 1 ≤ p.toInt) (hp2 : p.toInt ≤ 1000000) (he : 0 ≤ e.toInt) (he2 : e.toInt ≤ 1000) (hb : ∀ j, 0 ≤ (T j).toInt ∧ (T j).toInt ≤ 1000000000) (hi : 0 ≤ i.toInt) (hi2 : i.toInt < many.toInt)
    (hK : ∀ c : Int32, (c.toInt = many.toInt ↔ ∀ k : Nat, (k : Int) < many.toInt → arcA ((T k).toInt % p.toInt) ((T i.toNatClampNeg).toInt % p.toInt) p.toInt ≤ 2 * e.toInt) → Sf (K c) P) :
    ∀ (n : Nat) (c x : Int32), 0 ≤ x.toInt → x.toInt ≤ many.toInt → 0 ≤ c.toInt → c.toInt ≤ x.toInt → (c.toInt = x.toInt ↔ ∀ k : Nat, (k : Int) < x.toInt → arcA ((T k).toInt % p.toInt) ((T i.toNatClampNeg).toInt % p.toInt) p.toInt ≤ 2 * e.toInt) → 41 - x.toInt < (n : Int) → Sf (f_X12_isFit_L16 many T p e i K n c x) P := by
  intro n
  induction n with
  | zero => intro c x h0 h1 h2 h3 h4 hm; exact absurd hm (by omega)
  | succ n ih =>
    intro c x h0 hx h2 h3 h4 hme
    rw [f_X12_isFit_L16]
    refine Sf_ite (fun g => ?_) (fun g => ?_)
    · have g := leI g
      have ex : x.toInt = many.toInt := by omega
      rw [ex] at h4
      exact hK c h4
    · have g := nleI g
      have tx := tN x h0
      have e1 := adN x 1 1 (by decide) (by omega) (by omega)
      have e0 := adN c 0 0 (by decide) (by omega) (by omega)
      have ec := adN c 1 1 (by decide) (by omega) (by omega)
      have e2 := mlY 2 e 2 (by decide) (by omega) (by omega)
      refine Sf_rdI (by omega) (by omega) (fun v hv => ?_)
      refine Sf_dvI (by omega) ?_
      refine Sf_rdI (by omega) (by omega) (fun w hw => ?_)
      refine Sf_dvI (by omega) (Sf_dvI (by omega) ?_)
      have ev : (jrem v p).toInt = (T x.toNatClampNeg).toInt % p.toInt := by rw [hv]; exact jrem_nn _ _ (hb _).1 (by omega)
      have ew : (jrem w p).toInt = (T i.toNatClampNeg).toInt % p.toInt := by rw [hw]; exact jrem_nn _ _ (hb _).1 (by omega)
      have n1 := Int.emod_nonneg (T x.toNatClampNeg).toInt (show p.toInt ≠ 0 by omega)
      have n2 := Int.emod_lt_of_pos (T x.toNatClampNeg).toInt (show 0 < p.toInt by omega)
      have n3 := Int.emod_nonneg (T i.toNatClampNeg).toInt (show p.toInt ≠ 0 by omega)
      have n4 := Int.emod_lt_of_pos (T i.toNatClampNeg).toInt (show 0 < p.toInt by omega)
      have es := sbX (jrem v p) (jrem w p) (by omega) (by omega)
      have ea := adX (jrem v p - jrem w p) p (by omega) (by omega)
      have er : (jrem (jrem v p - jrem w p + p) p).toInt = arcA ((T x.toNatClampNeg).toInt % p.toInt) ((T i.toNatClampNeg).toInt % p.toInt) p.toInt := by
        rw [jrem_nn _ _ (by omega) (by omega), ea, es, ev, ew]
        exact arc_m ⟨n1, n2⟩ ⟨n3, n4⟩
      refine Sf_ite (fun g2 => ?_) (fun g2 => ?_)
      · have g2 := ltI g2
        rw [er, e2] at g2
        refine Sf_nmI (fun c2 hc2 => Sf_nmI (fun x2 hx2 => ?_))
        subst hc2; subst hx2
        refine ih (c + 0) (x + 1) (by omega) (by omega) (by omega) (by omega) ⟨fun w => absurd w (by omega), fun w => ?_⟩ (by omega)
        have := w x.toNatClampNeg (by omega)
        omega
      · have g2 := nltI g2
        rw [er, e2] at g2
        refine Sf_nmI (fun c2 hc2 => Sf_nmI (fun x2 hx2 => ?_))
        subst hc2; subst hx2
        refine ih (c + 1) (x + 1) (by omega) (by omega) (by omega) (by omega) ⟨fun w => ?_, fun w => ?_⟩ (by omega)
        · exact all_step (h4.mp (by omega)) h0 e1 g2
        · have := h4.mpr (fun k hk => w k (by omega))
          omega
theorem isFit_L2 {many p e : Int32} {T : Nat → Int32} (hm : 0 ≤ many.toInt) (hm2 : many.toInt ≤ 40) (hp : 1 ≤ p.toInt) (hp2 : p.toInt ≤ 1000000) (he : 0 ≤ e.toInt) (he2 : e.toInt ≤ 1000) (hb : ∀ j, 0 ≤ (T j).toInt ∧ (T j).toInt ≤ 1000000000) :
    ∀ (n : Nat) (x : Int32), 0 ≤ x.toInt → x.toInt ≤ many.toInt → (∀ i : Nat, (i : Int) < x.toInt → ¬ ∀ k : Nat, (k : Int) < many.toInt → arcA ((T k).toInt % p.toInt) ((T i).toInt % p.toInt) p.toInt ≤ 2 * e.toInt) → 41 - x.toInt < (n : Int) → Sf (f_X12_isFit_L2 many T p e n x) (fun r => isB r (FitP T many p.toInt e.toInt)) := by
  have hFU : (100000 : Int) ≤ (FU : Int) := Int.ofNat_le.mpr FU_ge
  have z : (0 : Int32).toInt = 0 := by decide
  intro n
  induction n with
  | zero => intro x h0 h1 h2 hm; exact absurd hm (by omega)
  | succ n ih =>
    intro x h0 hx h2 hme
    rw [f_X12_isFit_L2]
    refine Sf_ite (fun g => ?_) (fun g => ?_)
    · have g := leI g
      refine Sf_some (Or.inr ⟨rfl, fun w => ?_⟩)
      obtain ⟨i, h3, h5⟩ := w
      exact h2 i (by omega) h5
    · have g := nleI g
      have tx := tN x h0
      have e1 := adN x 1 1 (by decide) (by omega) (by omega)
      refine isFit_L16 hm hm2 hp hp2 he he2 hb h0 g (fun c hc => ?_) FU 0 0 (by omega) (by omega) (by omega) (by omega) ⟨fun _ k hk => absurd hk (by omega), fun _ => rfl⟩ (by omega)
      rw [f_X12_isFit_J69]
      refine Sf_ite (fun g2 => ?_) (fun g2 => ?_)
      · exact Sf_some (Or.inl ⟨rfl, x.toNatClampNeg, by omega, hc.mp (eqI g2)⟩)
      · refine Sf_nmI (fun w hw => ?_)
        subst hw
        exact ih (x + 1) (by omega) (by omega) (all_step h2 h0 e1 (fun w => neI g2 (hc.mpr w))) (by omega)
theorem isFit_e {many p e : Int32} {T : Nat → Int32} (hm : 0 ≤ many.toInt) (hm2 : many.toInt ≤ 40) (hp : 1 ≤ p.toInt) (hp2 : p.toInt ≤ 1000000) (he : 0 ≤ e.toInt) (he2 : e.toInt ≤ 1000) (hb : ∀ j, 0 ≤ (T j).toInt ∧ (T j).toInt ≤ 1000000000) : Sf (f_X12_isFit many T p e) (fun r => isB r (FitP T many p.toInt e.toInt)) := by
  have hFU : (100000 : Int) ≤ (FU : Int) := Int.ofNat_le.mpr FU_ge
  have z : (0 : Int32).toInt = 0 := by decide
  rw [f_X12_isFit]
  exact isFit_L2 hm hm2 hp hp2 he he2 hb FU 0 (by omega) (by omega) (fun k hk => absurd hk (by omega)) (by omega)
/-- both at once -/
theorem fit_2 {many p e : Int32} {T : Nat → Int32} (rs : Nat → Int32) (hm : 0 ≤ many.toInt) (hm2 : many.toInt ≤ 40) (hp : 1 ≤ p.toInt) (hp2 : p.toInt ≤ 1000000) (he : 0 ≤ e.toInt) (he2 : e.toInt ≤ 1000) (hb : ∀ j, 0 ≤ (T j).toInt ∧ (T j).toInt ≤ 1000000000) : ∃ (r : Int32) (rs' : Nat → Int32), f_X0_fitTo many rs T p e = some (r, rs') ∧ f_X12_isFit many T p e = some r := by
  obtain ⟨⟨r, rs'⟩, e1, h1⟩ := fitTo_e (rs := rs) hm hm2 hp hp2 he he2 hb
  obtain ⟨q, e2, h2⟩ := isFit_e hm hm2 hp hp2 he he2 hb
  have : r = q := isB_eq h1 h2 Iff.rfl
  exact ⟨r, rs', e1, by rw [e2, this]⟩
def scQ (c l g : Int32) : Prop := (c.toInt = 0 ∧ l.toInt = -1 ∧ g.toInt = -1) ∨ (1 ≤ c.toInt ∧ 1 ≤ l.toInt ∧ l.toInt ≤ g.toInt ∧ g.toInt ≤ 1000000 ∧ (c.toInt = 1 → l.toInt = g.toInt) ∧ (2 ≤ c.toInt → l.toInt < g.toInt))
theorem scan_2 {many to e : Int32} {T : Nat → Int32} (hm : 0 ≤ many.toInt) (hm2 : many.toInt ≤ 40) (ht : to.toInt ≤ 1000000) (he : 0 ≤ e.toInt) (he2 : e.toInt ≤ 1000) (hb : ∀ j, 0 ≤ (T j).toInt ∧ (T j).toInt ≤ 1000000000) :
    ∀ (n : Nat) (x c g l : Int32) (rs : Nat → Int32), 1 ≤ x.toInt → x.toInt ≤ to.toInt + 1 → c.toInt ≤ x.toInt → g.toInt < x.toInt → scQ c l g → to.toInt - x.toInt + 2 < (n : Int) →
    ∃ (c' l' g' : Int32) (rs' : Nat → Int32), f_X0_scan_L18 many T to e n x c g l rs = some (c', l', g', rs') ∧ f_X12_fitsAll_L18 many T to e n x l c g = some (c', l', g') ∧ scQ c' l' g' := by
  intro n
  induction n with
  | zero => intro x c g l rs h0 h1 h2 h3 h4 hm; exact absurd hm (by omega)
  | succ n ih =>
    intro x c g l rs h0 hx h2 h3 h4 hme
    rw [f_X0_scan_L18, f_X12_fitsAll_L18]
    by_cases c1 : to < x
    · rw [if_pos c1, if_pos c1]
      exact ⟨c, l, g, rs, rfl, rfl, h4⟩
    · have c2 := nltI c1
      rw [if_neg c1, if_neg c1]
      have e1 := adN x 1 1 (by decide) (by omega) (by omega)
      have z : (0 : Int32).toInt = 0 := by decide
      have zm : (-1 : Int32).toInt = -1 := by decide
      obtain ⟨r, rs', q1, q2⟩ := fit_2 (p := x) (e := e) (T := T) rs hm hm2 (by omega) (by omega) he he2 hb
      rw [q1, q2]
      show ∃ c' l' g' rs'', (if r = 0 then _ else _) = _ ∧ (if r = 0 then _ else _) = _ ∧ _
      by_cases c3 : r = 0
      · rw [if_pos c3, if_pos c3]
        exact ih (x + 1) c g l rs' (by omega) (by omega) (by omega) (by omega) h4 (by omega)
      · rw [if_neg c3, if_neg c3]
        have ec : (c + 1).toInt = c.toInt + 1 := adN c 1 1 (by decide) (by rcases h4 with h | h <;> omega) (by omega)
        show ∃ c' l' g' rs'', _ = _ ∧ (if l = -1 then _ else _) = _ ∧ _
        by_cases c4 : c = 0
        · have c5 : l = -1 := by
            have := eqI c4
            rcases h4 with h | h
            · exact i32_eq (by omega)
            · exfalso; omega
          rw [if_pos c4, if_pos c5]
          have := eqI c4
          exact ih (x + 1) (c + 1) x x rs' (by omega) (by omega) (by omega) (by omega) (Or.inr ⟨by omega, by omega, by omega, by omega, fun _ => rfl, fun w => by omega⟩) (by omega)
        · have c5 : ¬ l = -1 := fun w => by
            have h5 := eqI w
            have h6 := neI c4
            rcases h4 with h | h <;> omega
          rw [if_neg c4, if_neg c5]
          have h6 := neI c4
          have h7 := h4.resolve_left (fun w => by omega)
          exact ih (x + 1) (c + 1) x l rs' (by omega) (by omega) (by omega) (by omega) (Or.inr ⟨by omega, by omega, by omega, by omega, fun w => by omega, fun w => by omega⟩) (by omega)
theorem scan_e {many fr to e c0 l0 g0 c1 l1 g1 : Int32} {T : Nat → Int32} (rs : Nat → Int32) (hm : 0 ≤ many.toInt) (hm2 : many.toInt ≤ 40) (hf : 1 ≤ fr.toInt) (hf2 : fr.toInt ≤ to.toInt) (hf3 : to.toInt ≤ fr.toInt + 2000) (ht : to.toInt ≤ 1000000) (he : 0 ≤ e.toInt) (he2 : e.toInt ≤ 1000) (hb : ∀ j, 0 ≤ (T j).toInt ∧ (T j).toInt ≤ 1000000000) :
    ∃ (c l g : Int32) (rs' : Nat → Int32), f_X0_scan many c0 l0 g0 rs T fr to e = some (c, l, g, rs') ∧ f_X12_fitsAll many c1 l1 g1 T fr to e = some (c, l, g) ∧ scQ c l g := by
  have hFU : (100000 : Int) ≤ (FU : Int) := Int.ofNat_le.mpr FU_ge
  have z : (0 : Int32).toInt = 0 := by decide
  have zm : (-1 : Int32).toInt = -1 := by decide
  rw [f_X0_scan, f_X12_fitsAll]
  exact scan_2 hm hm2 ht he he2 hb FU fr 0 (-1) (-1) rs hf (by omega) (by omega) (by omega) (Or.inl ⟨z, zm, zm⟩) (by omega)
