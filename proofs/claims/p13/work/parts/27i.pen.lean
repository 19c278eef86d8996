section pens2
variable {ten : Nat → Int32} {p1 p2 p3 : Int32} {lf : Nat → Int32}
theorem pen_L227 {P : Int32 × (Nat → Int32) → Prop} {i : Int32} {K : Int32 → Option (Int32 × (Nat → Int32))} (hD : DN ten p2.toNatClampNeg lf (i.toNatClampNeg + 1) 40) (hi : 1 ≤ i.toInt) (hi2 : i.toInt ≤ 6) (hp2 : 1 ≤ p2.toInt) (hp3 : p2.toInt ≤ 10)
    (hK : ∀ x : Int32, 0 ≤ x.toInt → x.toInt < 40 → 0 ≤ (LA lf (i.toNatClampNeg - 1) (x.toNatClampNeg + p2.toNatClampNeg)).toInt → Sf (K x) P) : ∀ (n : Nat) (x : Int32), 0 ≤ x.toInt → x.toInt ≤ 40 → 0 ≤ (lf (53 * i.toNatClampNeg + x.toNatClampNeg)).toInt → 41 - x.toInt < (n : Int) →
    Sf (f_X12_pen_L227 ten p2 lf i K n x) P := by
  have z : (0 : Int32).toInt = 0 := by decide
  have o1 : (1 : Int32).toInt = 1 := by decide
  have ti := tN i (by omega)
  have tq := tN p2 (by omega)
  obtain ⟨k, hk⟩ : ∃ k, i.toNatClampNeg = k + 1 := ⟨i.toNatClampNeg - 1, by omega⟩
  intro n
  induction n with
  | zero => intro x h1 h2 h3 h4; exact absurd h4 (by omega)
  | succ n ih =>
    intro x h1 h2 h3 h4
    have tx := tN x h1
    have hT := hD (k + 1) x.toNatClampNeg (by omega) (Or.inl (by omega))
    rw [TB_succ] at hT
    rw [hk] at h3
    obtain ⟨hx, hc⟩ := hT.2 h3
    have e2 := sbX i 1 (by omega) (by omega)
    have te2 := tN (i - 1) (by omega)
    have e3 := adX x p2 (by omega) (by omega)
    have te3 := tN (x + p2) (by omega)
    have e4 := adX x 1 (by omega) (by omega)
    have te4 := tN (x + 1) (by omega)
    have e := idx_e (p := i) (x := x) 53 53 (by decide) (by omega) (by omega) (by omega) (by omega) h1 (by omega)
    have te := tN (53 * i + x) (by omega)
    have next : lf (53 * (k + 1) + x.toNatClampNeg) = lf (53 * (k + 1) + x.toNatClampNeg + 1) → Sf (f_X12_pen_L227 ten p2 lf i K n (x + 1)) P := by
      intro he
      refine ih (x + 1) (by omega) (by omega) ?_ (by omega)
      rw [hk, show (x + 1).toNatClampNeg = x.toNatClampNeg + 1 by omega, show 53 * (k + 1) + (x.toNatClampNeg + 1) = 53 * (k + 1) + x.toNatClampNeg + 1 by omega, ← he]
      exact h3
    have hL : f_X12_leastAt lf (i - 1) (x + p2) = some (LA lf k (x.toNatClampNeg + p2.toNatClampNeg)) := by
      rw [LA_e (by omega) (by omega) (by omega) (by omega), show (i - 1).toNatClampNeg = k by omega, show (x + p2).toNatClampNeg = x.toNatClampNeg + p2.toNatClampNeg by omega]
    rw [f_X12_pen_L227, hL, cb1_o]
    refine Sf_ite (fun h5 => ?_) (fun h5 => ?_)
    · have c5 := ltI h5
      rw [nmI_o]
      refine next (hc.resolve_right (fun w => ?_))
      have := w.1
      omega
    · have c5 := nltI h5
      rw [rdI_o (jin_of h1 (by omega)), cb1_o, rdI_o (jin_of (by omega) (by omega)), show (53 * i + x).toNatClampNeg = 53 * (k + 1) + x.toNatClampNeg by omega]
      refine Sf_ite (fun h6 => ?_) (fun h6 => ?_)
      · refine hK x h1 (by omega) ?_
        rw [show i.toNatClampNeg - 1 = k by omega]
        omega
      · rw [nmI_o]
        exact next (hc.resolve_right (fun w => h6 w.2))
theorem pen_L222 (hD : ∀ i : Nat, i ≤ p1.toNatClampNeg → ∀ j : Nat, j ≤ 40 → TB ten p2.toNatClampNeg lf i j) (hp : 1 ≤ p1.toInt) (hp' : p1.toInt ≤ 6) (hp2 : 1 ≤ p2.toInt) (hp3 : p2.toInt ≤ 10) : ∀ (n : Nat) (x i : Int32), 0 ≤ i.toInt → i.toInt ≤ p1.toInt → (1 ≤ i.toInt → 0 ≤ x.toInt ∧ x.toInt ≤ 40 ∧ 0 ≤ (lf (53 * i.toNatClampNeg + x.toNatClampNeg)).toInt) → i.toInt < (n : Int) →
    Sf (f_X12_pen_L222 ten p1 p2 p3 lf n x i) (fun _ => True) := by
  have z : (0 : Int32).toInt = 0 := by decide
  have o1 : (1 : Int32).toInt = 1 := by decide
  have := FUi
  have tp := tN p1 (by omega)
  have tq := tN p2 (by omega)
  intro n
  induction n with
  | zero => intro x i h1 h2 h3 h4; exact absurd h4 (by omega)
  | succ n ih =>
    intro x i h1 h2 h3 h4
    have ti := tN i h1
    rw [f_X12_pen_L222]
    refine Sf_ite (fun _ => Sf_some trivial) (fun h => ?_)
    have c := nleI h
    obtain ⟨g1, g2, g3⟩ := h3 (by omega)
    refine pen_L227 (fun i' j' hj hc => hD i' (by omega) j' hj) (by omega) (by omega) hp2 hp3 (fun y hy hy2 hL => ?_) FU x g1 g2 g3 (by omega)
    rw [f_X12_pen_J287]
    refine Sf_ite (fun _ => Sf_some trivial) (fun _ => ?_)
    have e := adX y p2 (by omega) (by omega)
    have te := tN (y + p2) (by omega)
    have ty := tN y hy
    rw [nmI_o]
    refine Sf_nmI (fun w hw => ?_)
    have ew := (eqI hw).trans (adN i (-1) (-1) (by decide) (by omega) (by omega))
    clear hw
    have tw := tN w (by omega)
    refine ih (y + p2) w (by omega) (by omega) (fun hw1 => ?_) (by omega)
    have ek : i.toNatClampNeg - 1 = w.toNatClampNeg := by omega
    rw [ek] at hL
    unfold LA at hL
    by_cases c4 : y.toNatClampNeg + p2.toNatClampNeg ≤ 40
    · rw [if_pos c4] at hL
      rw [show (y + p2).toNatClampNeg = y.toNatClampNeg + p2.toNatClampNeg by omega]
      exact ⟨by omega, by omega, hL⟩
    · rw [if_neg c4, if_neg (show ¬ w.toNatClampNeg = 0 by omega)] at hL
      exact absurd hL (by decide)
theorem s_X12_pen (hT : ∀ j, 0 ≤ (ten j).toInt ∧ (ten j).toInt ≤ 10) : Sf (f_X12_pen lf ten p1 p2 p3) (fun _ => True) := by
  have z : (0 : Int32).toInt = 0 := by decide
  have := FUi
  have l39 : (39 : Int32).toInt = 39 := by decide
  have o1 : (1 : Int32).toInt = 1 := by decide
  have a1 : (1 : Int64).toInt = 1 := by decide
  have a6 : (6 : Int64).toInt = 6 := by decide
  have a10 : (10 : Int64).toInt = 10 := by decide
  have zn : (0 : Int32).toNatClampNeg = 0 := by decide
  have J43 : 1 ≤ p1.toInt → p1.toInt ≤ 6 → 1 ≤ p2.toInt → p2.toInt ≤ 10 → Sf (f_X12_pen_J43 lf ten p1 p2 p3) (fun _ => True) := by
    intro b1 b2 b3 b4
    have tp := tN p1 (by omega)
    have tq := tN p2 (by omega)
    rw [f_X12_pen_J43]
    refine Sf_ite (fun h => ?_) (fun _ => Sf_some trivial)
    have c := leI h
    have e1 := sbX p1 1 (by omega) (by omega)
    have te1 := tN (p1 - 1) (by omega)
    have m1 : 0 ≤ (p1 - 1).toInt * p2.toInt := Int.mul_nonneg (by omega) (by omega)
    have m2 : (p1 - 1).toInt * p2.toInt ≤ 5 * 10 := Int.mul_le_mul (by omega) (by omega) (by omega) (by omega)
    have e2 : ((p1 - 1) * p2).toInt = (p1 - 1).toInt * p2.toInt := by
      rw [Int32.toInt_mul]; exact Int.bmod_eq_of_le (by omega) (by omega)
    refine pen_L58 b1 b2 b3 b4 hT (fun lf2 hd => ?_) FU 0 lf (by omega) (by omega) (fun i' j' hj hc => absurd hc (by omega)) (by omega)
    rw [f_X12_pen_J200]
    refine Sf_ite (fun _ => ?_) (fun _ => ?_)
    · have e3 := mlY 53 p1 53 (by decide) (by omega) (by omega)
      exact Sf_rdI (by omega) (by omega) (fun _ _ => Sf_some trivial)
    · have hD : ∀ i : Nat, i ≤ p1.toNatClampNeg → ∀ j : Nat, j ≤ 40 → TB ten p2.toNatClampNeg lf2 i j := fun i hi j hj => hd i j hj (Or.inl (by omega))
      refine pen_L222 hD b1 b2 b3 b4 FU 0 p1 (by omega) (by omega) (fun _ => ⟨by omega, by omega, ?_⟩) (by omega)
      obtain ⟨k, hk⟩ : ∃ k, p1.toNatClampNeg = k + 1 := ⟨p1.toNatClampNeg - 1, by omega⟩
      have hT2 := hD (k + 1) (by omega) 0 (by omega)
      rw [TB_succ] at hT2
      rw [zn, hk]
      refine (hT2.1 ?_).1
      rw [nd_mul]
      have ek : (p1 - 1).toNatClampNeg = k := by omega
      have em : ((k * p2.toNatClampNeg : Nat) : Int) = (p1 - 1).toInt * p2.toInt := by
        rw [Int.natCast_mul, tq, ← ek, te1]
      omega
  rw [f_X12_pen]
  refine Sf_cb1 (s_X12_lies (Int32.toInt64 p1) 1 6) (fun r hr => ?_)
  refine Sf_ite (fun _ => Sf_some trivial) (fun g => ?_)
  have g := neI g
  refine Sf_cb1 (s_X12_lies (Int32.toInt64 p2) 1 10) (fun r2 hr2 => ?_)
  refine Sf_ite (fun _ => Sf_some trivial) (fun g2 => ?_)
  have g2 := neI g2
  have t1 := t64 p1
  have t2 := t64 p2
  have hr := hr.2.resolve_right (fun w => by have := w.1; omega)
  have hr2 := hr2.2.resolve_right (fun w => by have := w.1; omega)
  have G := J43 (by omega) (by omega) (by omega) (by omega)
  refine Sf_ite (fun _ => G) (fun _ => ?_)
  refine Sf_cb1 (s_X12_lies _ _ _) (fun _ _ => ?_)
  exact Sf_ite (fun _ => Sf_some trivial) (fun _ => G)
end pens2
