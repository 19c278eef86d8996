/-! THE BOUND -/
theorem mlG (x y : Int32) (h1 : -2147483648 ≤ x.toInt * y.toInt) (h2 : x.toInt * y.toInt ≤ 2147483647) : (x * y).toInt = x.toInt * y.toInt := by
  rw [Int32.toInt_mul]; exact Int.bmod_eq_of_le (by omega) (by omega)
theorem mulb {A w : Int} (h1 : 0 ≤ A) (h2 : A ≤ 2000) (h3 : -1000 ≤ w) (h4 : w ≤ 1000) : -2000000 ≤ A * w ∧ A * w ≤ 2000000 := by
  by_cases c : 0 ≤ w
  · have a := Int.mul_nonneg h1 c
    have b := Int.mul_le_mul h2 h4 c (by omega)
    omega
  · have a := Int.mul_nonneg h1 (show 0 ≤ -w by omega)
    have b := Int.mul_le_mul h2 (show -w ≤ 1000 by omega) (show 0 ≤ -w by omega) (by omega)
    rw [Int.mul_neg] at a b
    omega
theorem okI {A w f e s found : Int} (hA : 0 ≤ A) (hs : s = if w < 0 then -w else w) (hf : found = if w < 0 then -f else f) : (-e ≤ (A * w).tdiv 1000 - f ∧ (A * w).tdiv 1000 - f ≤ e) ↔ (found - e ≤ A * s / 1000 ∧ A * s / 1000 ≤ found + e) := by
  by_cases c : w < 0
  · rw [if_pos c] at hs hf
    have h0 : 0 ≤ A * s := Int.mul_nonneg hA (by omega)
    have e1 : A * w = -(A * s) := by rw [hs, Int.mul_neg, Int.neg_neg]
    rw [e1, Int.neg_tdiv, Int.tdiv_eq_ediv_of_nonneg h0]
    omega
  · rw [if_neg c] at hs hf
    have h0 : 0 ≤ A * s := Int.mul_nonneg hA (by omega)
    have e1 : A * w = A * s := by rw [hs]
    rw [e1, Int.tdiv_eq_ediv_of_nonneg h0]
    omega
theorem hiI {A s high : Int} (hs : 0 < s) : A * s / 1000 ≤ high ↔ A ≤ ((high + 1) * 1000 - 1) / s := by
  have h1 : A * s / 1000 < high + 1 ↔ A * s < (high + 1) * 1000 := Int.ediv_lt_iff_lt_mul (by omega)
  have h2 : A ≤ ((high + 1) * 1000 - 1) / s ↔ A * s ≤ (high + 1) * 1000 - 1 := Int.le_ediv_iff_mul_le hs
  rw [h2]
  omega
theorem loI {A s low : Int} (hs : 0 < s) : low ≤ A * s / 1000 ↔ (low * 1000 + s - 1) / s ≤ A := by
  have h1 : low ≤ A * s / 1000 ↔ low * 1000 ≤ A * s := Int.le_ediv_iff_mul_le (by omega)
  have h2 : (low * 1000 + s - 1) / s < A + 1 ↔ low * 1000 + s - 1 < (A + 1) * s := Int.ediv_lt_iff_lt_mul hs
  have h3 : (A + 1) * s = A * s + s := by rw [Int.add_mul, Int.one_mul]
  rw [h3] at h2
  rw [h1]
  omega
theorem dvG (x y : Int32) (hx : 0 ≤ x.toInt) (hy : 0 < y.toInt) : (x / y).toInt = x.toInt / y.toInt := by
  rw [dv_ x y y.toInt hy rfl, Int.tdiv_eq_ediv_of_nonneg hx]
noncomputable def wvI (D : Nat → Int32) (y b : Int32) (k : Nat) : Int32 := (f_X12_waveOf (jrem (D k + b) y) y).getD 0
theorem wave_b {k y : Int32} (h1 : 0 ≤ k.toInt) (h2 : k.toInt < y.toInt) (h3 : 4 ≤ y.toInt) (h4 : y.toInt ≤ 400) : Sf (f_X12_waveOf k y) (fun w => -1000 ≤ w.toInt ∧ w.toInt ≤ 1000) := by
  rw [f_X12_waveOf]
  refine Sf_dvI (by omega) (Sf_nmI (fun q hq => ?_))
  have e1 := mlY 4000 k 4000 (by decide) (by omega) (by omega)
  have e4 := mlY 4 k 4 (by decide) (by omega) (by omega)
  have e3 := mlY 3 y 3 (by decide) (by omega) (by omega)
  have eq : q.toInt = 4000 * k.toInt / y.toInt := by rw [hq, dvG _ _ (by omega) (by omega), e1]
  have u : ∀ c : Int, 4000 * k.toInt / y.toInt < c ↔ 4000 * k.toInt < c * y.toInt := fun c => Int.ediv_lt_iff_lt_mul (by omega)
  have l : ∀ c : Int, c ≤ 4000 * k.toInt / y.toInt ↔ c * y.toInt ≤ 4000 * k.toInt := fun c => Int.le_ediv_iff_mul_le (by omega)
  have u1 := u 1000
  have u3 := u 3001
  have u4 := u 4000
  have l0 := l 0
  have l1 := l 1000
  have l3 := l 3000
  have z2 : (2000 : Int32).toInt = 2000 := by decide
  refine Sf_ite (fun g => Sf_ite (fun g2 => Sf_some ?_) (fun g2 => Sf_some ?_)) (fun g => Sf_some ?_)
  · have g := leI g
    have g2 := leI g2
    have es := sbN q 4000 4000 (by decide) (by omega) (by omega)
    show -1000 ≤ (q - 4000).toInt ∧ (q - 4000).toInt ≤ 1000
    omega
  · have g := leI g
    have g2 := nleI g2
    have es := sbX 2000 q (by omega) (by omega)
    show -1000 ≤ (2000 - q).toInt ∧ (2000 - q).toInt ≤ 1000
    omega
  · have g := nleI g
    show -1000 ≤ q.toInt ∧ q.toInt ≤ 1000
    omega
theorem wvI_e {D : Nat → Int32} {y b : Int32} {k : Nat} (hd : 0 ≤ (D k).toInt ∧ (D k).toInt ≤ 399) (h3 : 4 ≤ y.toInt) (h4 : y.toInt ≤ 400) (hb : 0 ≤ b.toInt ∧ b.toInt < y.toInt) : f_X12_waveOf (jrem (D k + b) y) y = some (wvI D y b k) ∧ (-1000 ≤ (wvI D y b k).toInt ∧ (wvI D y b k).toInt ≤ 1000) := by
  have e1 := adX (D k) b (by omega) (by omega)
  have m := rm_ (D k + b) y (by omega)
  have m0 := m.2.2.1 (by omega)
  obtain ⟨w, e, hw⟩ := wave_b (k := jrem (D k + b) y) m0 m.2.1 h3 h4
  have : wvI D y b k = w := by unfold wvI; rw [e]; rfl
  rw [this]
  exact ⟨e, hw⟩
theorem waveAt_e {k y : Int32} (h : 1 ≤ y.toInt) : f_X2_waveAt k y = f_X12_waveOf k y := by
  have o : (1 : Int32).toInt = 1 := by decide
  rw [f_X2_waveAt, f_X12_waveOf, if_pos (Int32.le_iff_toInt_le.mpr (by omega))]
def okN (D F : Nat → Int32) (y e b : Int32) (A : Int) (k : Nat) : Prop := -e.toInt ≤ (A * (wvI D y b k).toInt).tdiv 1000 - (F k).toInt ∧ (A * (wvI D y b k).toInt).tdiv 1000 - (F k).toInt ≤ e.toInt
def okA (D F : Nat → Int32) (y e b : Int32) (n : Int) (A : Int) : Prop := ∀ k : Nat, (k : Int) < n → okN D F y e b A k
def hBd (D F : Nat → Int32) : Prop := ∀ j, (0 ≤ (D j).toInt ∧ (D j).toInt ≤ 399) ∧ (-100000 ≤ (F j).toInt ∧ (F j).toInt ≤ 100000)
def SzP (D F : Nat → Int32) (y e b : Int32) (n : Int) (r : Int32) : Prop := (r.toInt = -2 ∧ ∀ A : Int, 0 ≤ A → A ≤ 2000 → ¬ okA D F y e b n A) ∨ (0 ≤ r.toInt ∧ r.toInt ≤ 2000 ∧ okA D F y e b n r.toInt ∧ ∀ A : Int, r.toInt < A → A ≤ 2000 → ¬ okA D F y e b n A)
theorem okA_step {D F : Nat → Int32} {y e b x x' : Int32} {A : Int} (h0 : 0 ≤ x.toInt) (hx : x'.toInt = x.toInt + 1) : okA D F y e b x'.toInt A ↔ okA D F y e b x.toInt A ∧ okN D F y e b A x.toNatClampNeg := by
  have tx := tN x h0
  constructor
  · intro h
    exact ⟨fun k hk => h k (by omega), h _ (by omega)⟩
  · intro h
    exact all_step h.1 h0 hx h.2
theorem gsz_L {D F : Nat → Int32} {n y e b : Int32} (hn : 0 ≤ n.toInt) (hn2 : n.toInt ≤ 30) (h3 : 4 ≤ y.toInt) (h4 : y.toInt ≤ 400) (he : 0 ≤ e.toInt) (he2 : e.toInt ≤ 100000) (hb : 0 ≤ b.toInt ∧ b.toInt < y.toInt) (hB : hBd D F) :
    ∀ (m : Nat) (l g x : Int32), 0 ≤ x.toInt → x.toInt ≤ n.toInt → 0 ≤ l.toInt → 0 ≤ g.toInt → g.toInt ≤ 2000 → (∀ A : Int, 0 ≤ A → A ≤ 2000 → (okA D F y e b x.toInt A ↔ l.toInt ≤ A ∧ A ≤ g.toInt)) → 31 - x.toInt < (m : Int) → Sf (f_X2_greatestSize_L11 n D F y b e f_X2_greatestSize_J165 m l g x) (fun r => SzP D F y e b n.toInt r) := by
  intro m
  induction m with
  | zero => intro l g x a1 a2 a3 a4 a5 a6 hm; exact absurd hm (by omega)
  | succ m ih =>
    intro l g x a1 a2 a3 a4 a5 a6 hme
    rw [f_X2_greatestSize_L11]
    have z : (0 : Int32).toInt = 0 := by decide
    have tx := tN x a1
    refine Sf_ite (fun c => ?_) (fun c => Sf_ite (fun c2 => absurd (leI c2) (by omega)) (fun _ => ?_))
    · have c := leI c
      have ex : x.toInt = n.toInt := by omega
      rw [ex] at a6
      rw [f_X2_greatestSize_J165]
      refine Sf_ite (fun d => Sf_some (Or.inl ⟨show (-2 : Int32).toInt = -2 by decide, fun A A1 A2 w => ?_⟩)) (fun d => Sf_some (Or.inr ⟨a4, a5, ?_, fun A A1 A2 w => ?_⟩))
      · have d := ltI d
        have := (a6 A A1 A2).mp w
        omega
      · have d := nltI d
        exact (a6 g.toInt a4 a5).mpr ⟨d, Int.le_refl _⟩
      · have := (a6 A (by omega) A2).mp w
        omega
    · have c := nleI c
      have e1 := adN x 1 1 (by decide) (by omega) (by omega)
      have jl : jin x 30 = true := jin_of a1 (by omega)
      rw [rdI_o jl]
      obtain ⟨hw, hw2⟩ := wvI_e (D := D) (k := x.toNatClampNeg) (hB x.toNatClampNeg).1 h3 h4 hb
      have hF := (hB x.toNatClampNeg).2
      refine Sf_dvI (by omega) ?_
      rw [waveAt_e (by omega), hw, cb1_o]
      obtain ⟨w, hwe⟩ : ∃ w, w = wvI D y b x.toNatClampNeg := ⟨_, rfl⟩
      rw [← hwe] at hw2 ⊢
      rw [rdI_o jl, rdI_o jl]
      have J : ∀ t : Int32, t.toInt = (if w.toInt < 0 then -(F x.toNatClampNeg).toInt else (F x.toNatClampNeg).toInt) → Sf (f_X2_greatestSize_J64 e l g x w (f_X2_greatestSize_L11 n D F y b e f_X2_greatestSize_J165 m) t) (fun r => SzP D F y e b n.toInt r) := by
        intro t ht
        have htb : -100000 ≤ t.toInt ∧ t.toInt ≤ 100000 := by rw [ht]; split <;> omega
        rw [f_X2_greatestSize_J64]
        refine Sf_nmI (fun lo hlo => Sf_nmI (fun hi hhi => Sf_nmI (fun s hs => ?_)))
        have elo : lo.toInt = t.toInt - e.toInt := (eqI hlo).trans (sbX t e (by omega) (by omega))
        have ehi : hi.toInt = t.toInt + e.toInt := (eqI hhi).trans (adX t e (by omega) (by omega))
        have es : s.toInt = if w.toInt < 0 then -w.toInt else w.toInt := by
          rw [hs]
          unfold jabs
          by_cases c5 : (0 : Int32) ≤ w
          · have c6 := leI c5
            rw [if_pos c5, if_neg (by omega)]
          · have c6 := nleI c5
            have := sbX 0 w (by omega) (by omega)
            rw [if_neg c5, if_pos (by omega)]
            omega
        have hok : ∀ A : Int, 0 ≤ A → (okN D F y e b A x.toNatClampNeg ↔ (lo.toInt ≤ A * s.toInt / 1000 ∧ A * s.toInt / 1000 ≤ hi.toInt)) := by
          intro A hA
          unfold okN
          rw [← hwe, elo, ehi]
          exact okI hA es ht
        have hs0 : 0 ≤ s.toInt ∧ s.toInt ≤ 1000 := by rw [es]; split <;> omega
        have none : (∀ A : Int, 0 ≤ A → A ≤ 2000 → ¬ okN D F y e b A x.toNatClampNeg) → SzP D F y e b n.toInt (-2) := fun w => Or.inl ⟨by decide, fun A A1 A2 w2 => w A A1 A2 (w2 _ (by omega))⟩
        have J2 : 0 ≤ hi.toInt → (s.toInt = 0 → lo.toInt ≤ 0) → Sf (f_X2_greatestSize_J103 l g x lo hi s (f_X2_greatestSize_L11 n D F y b e f_X2_greatestSize_J165 m)) (fun r => SzP D F y e b n.toInt r) := by
          intro k1 k2
          rw [f_X2_greatestSize_J103]
          refine Sf_ite (fun c5 => ?_) (fun c5 => ?_)
          · have c5 := leI c5
            have s0 : s.toInt = 0 := by omega
            refine Sf_nmI (fun x2 hx2 => ?_)
            subst hx2
            refine ih l g (x + 1) (by omega) (by omega) a3 a4 a5 (fun A A1 A2 => ?_) (by omega)
            rw [okA_step a1 e1, a6 A A1 A2]
            have h5 := hok A A1
            rw [s0, Int.mul_zero] at h5
            have := k2 s0
            constructor
            · exact fun w => w.1
            · exact fun w => ⟨w, h5.mpr ⟨by omega, by omega⟩⟩
          · have c5 := nleI c5
            have s1 : 0 < s.toInt := by omega
            have eh1 := adN hi 1 1 (by decide) (by omega) (by omega)
            have eh2 := mlX (hi + 1) 1000 1000 (by decide) (by omega) (by omega)
            have eh3 := sbN ((hi + 1) * 1000) 1 1 (by decide) (by omega) (by omega)
            have eh4 : (((hi + 1) * 1000 - 1) / s).toInt = ((hi.toInt + 1) * 1000 - 1) / s.toInt := by rw [dvG _ _ (by omega) s1, eh3, eh2, eh1]
            have hq0 : 0 ≤ ((hi.toInt + 1) * 1000 - 1) / s.toInt := Int.ediv_nonneg (by omega) (by omega)
            refine Sf_dvI (by omega) (Sf_nmI (fun g2 hg2 => ?_))
            have jm := jmin_ g (((hi + 1) * 1000 - 1) / s)
            rw [← hg2, eh4] at jm
            refine Sf_ite (fun c6 => ?_) (fun c6 => ?_)
            · have c6 := ltI c6
              have el2 := mlX lo 1000 1000 (by decide) (by omega) (by omega)
              have el3 := adX (lo * 1000) s (by omega) (by omega)
              have el4 := sbN (lo * 1000 + s) 1 1 (by decide) (by omega) (by omega)
              have el5 : ((lo * 1000 + s - 1) / s).toInt = (lo.toInt * 1000 + s.toInt - 1) / s.toInt := by rw [dvG _ _ (by omega) s1, el4, el3, el2]
              refine Sf_dvI (by omega) (Sf_nmI (fun l2 hl2 => Sf_nmI (fun x2 hx2 => ?_)))
              subst hx2
              have jx := jmax_ l ((lo * 1000 + s - 1) / s)
              rw [← hl2, el5] at jx
              refine ih l2 g2 (x + 1) (by omega) (by omega) (by omega) (by omega) (by omega) (fun A A1 A2 => ?_) (by omega)
              rw [okA_step a1 e1, a6 A A1 A2, hok A A1, hiI s1, loI s1]
              omega
            · have c6 := nltI c6
              refine Sf_nmI (fun x2 hx2 => ?_)
              subst hx2
              refine ih l g2 (x + 1) (by omega) (by omega) a3 (by omega) (by omega) (fun A A1 A2 => ?_) (by omega)
              have hnn : 0 ≤ A * s.toInt / 1000 := Int.ediv_nonneg (Int.mul_nonneg A1 (by omega)) (by omega)
              rw [okA_step a1 e1, a6 A A1 A2, hok A A1, hiI s1]
              omega
        refine Sf_ite (fun c5 => Sf_some (none (fun A A1 A2 w => ?_))) (fun c5 => Sf_ite (fun c6 => Sf_ite (fun c7 => ?_) (fun c7 => Sf_some (none (fun A A1 A2 w => ?_)))) (fun c6 => ?_))
        · have c5 := ltI c5
          have hnn : 0 ≤ A * s.toInt / 1000 := Int.ediv_nonneg (Int.mul_nonneg A1 (by omega)) (by omega)
          have := (hok A A1).mp w
          omega
        · have c5 := nltI c5
          have c7 := leI c7
          exact J2 (by omega) (fun _ => by omega)
        · have c6 := eqI c6
          have c7 := nleI c7
          have h5 := (hok A A1).mp w
          rw [c6, z, Int.mul_zero] at h5
          omega
        · have c5 := nltI c5
          have c6 := neI c6
          exact J2 (by omega) (fun k => absurd (k.trans z.symm) c6)
      refine Sf_ite (fun c5 => J _ ?_) (fun c5 => J _ ?_)
      · have c5 := leI c5
        rw [if_neg (by omega)]
      · have c5 := nleI c5
        rw [if_pos (by omega), ngX _ (by omega)]
theorem gsz_e {D F : Nat → Int32} {n y e b : Int32} (hn : 0 ≤ n.toInt) (hn2 : n.toInt ≤ 30) (h3 : 4 ≤ y.toInt) (h4 : y.toInt ≤ 400) (he : 0 ≤ e.toInt) (he2 : e.toInt ≤ 100000) (hb : 0 ≤ b.toInt ∧ b.toInt < y.toInt) (hB : hBd D F) : Sf (f_X2_greatestSize n D F y b e) (fun r => SzP D F y e b n.toInt r) := by
  have hFU : (100000 : Int) ≤ (FU : Int) := Int.ofNat_le.mpr FU_ge
  have z : (0 : Int32).toInt = 0 := by decide
  have z2 : (2000 : Int32).toInt = 2000 := by decide
  rw [f_X2_greatestSize]
  refine gsz_L hn hn2 h3 h4 he he2 hb hB FU 0 2000 0 (by omega) (by omega) (by omega) (by omega) (by omega) (fun A A1 A2 => ⟨fun _ => by omega, fun _ k hk => absurd hk (by omega)⟩) (by omega)
/-- the greatest size over all beginnings below x -/
def BdP (D F : Nat → Int32) (y e : Int32) (n x : Int) (r : Int32) : Prop := (r.toInt = -2 ∧ ∀ b : Int32, 0 ≤ b.toInt → b.toInt < x → ∀ A : Int, 0 ≤ A → A ≤ 2000 → ¬ okA D F y e b n A) ∨ (0 ≤ r.toInt ∧ r.toInt ≤ 2000 ∧ (∃ b : Int32, 0 ≤ b.toInt ∧ b.toInt < x ∧ okA D F y e b n r.toInt) ∧ ∀ b : Int32, 0 ≤ b.toInt → b.toInt < x → ∀ A : Int, r.toInt < A → A ≤ 2000 → ¬ okA D F y e b n A)
theorem BdP_eq {D F : Nat → Int32} {y e : Int32} {n x : Int} {r q : Int32} (h : BdP D F y e n x r) (h2 : BdP D F y e n x q) : r = q := by
  rcases h with ⟨a1, a2⟩ | ⟨a1, a2, ⟨b, a3, a4, a5⟩, a6⟩ <;> rcases h2 with ⟨b1, b2⟩ | ⟨b1, b2, ⟨b', b3, b4, b5⟩, b6⟩
  · exact i32_eq (by omega)
  · exact absurd b5 (a2 b' b3 b4 _ b1 b2)
  · exact absurd a5 (b2 b a3 a4 _ a1 a2)
  · refine i32_eq ?_
    by_cases c : r.toInt < q.toInt
    · exact absurd b5 (a6 b' b3 b4 _ c b2)
    · by_cases d : q.toInt < r.toInt
      · exact absurd a5 (b6 b a3 a4 _ d a2)
      · omega
theorem orb_L {D F : Nat → Int32} {n y e : Int32} (hn : 0 ≤ n.toInt) (hn2 : n.toInt ≤ 30) (h3 : 4 ≤ y.toInt) (h4 : y.toInt ≤ 400) (he : 0 ≤ e.toInt) (he2 : e.toInt ≤ 100000) (hB : hBd D F) :
    ∀ (m : Nat) (r x : Int32), 0 ≤ x.toInt → x.toInt ≤ y.toInt → BdP D F y e n.toInt x.toInt r → 401 - x.toInt < (m : Int) → Sf (f_X2_greatestOrbit_L6 n D F y e m r x) (fun r => BdP D F y e n.toInt y.toInt r) := by
  intro m
  induction m with
  | zero => intro r x a1 a2 a3 hm; exact absurd hm (by omega)
  | succ m ih =>
    intro r x a1 a2 a3 hme
    rw [f_X2_greatestOrbit_L6]
    refine Sf_ite (fun c => ?_) (fun c => ?_)
    · have c := leI c
      have ex : x.toInt = y.toInt := by omega
      rw [ex] at a3
      exact Sf_some a3
    · have c := nleI c
      have e1 := adN x 1 1 (by decide) (by omega) (by omega)
      refine Sf_cb1 (gsz_e hn hn2 h3 h4 he he2 ⟨a1, c⟩ hB) (fun q hq => ?_)
      have hq : SzP D F y e x n.toInt q := hq
      refine Sf_nmI (fun r2 hr2 => Sf_nmI (fun x2 hx2 => ?_))
      subst hx2
      have jm := jmax_ r q
      rw [← hr2] at jm
      refine ih r2 (x + 1) (by omega) (by omega) ?_ (by omega)
      have bx : ∀ b : Int32, b.toInt < (x + 1).toInt → b.toInt < x.toInt ∨ b = x := fun b hb => by
        by_cases d : b.toInt < x.toInt
        · exact Or.inl d
        · exact Or.inr (i32_eq (by omega))
      have lower : ∀ A : Int, r2.toInt < A → 0 ≤ A → A ≤ 2000 → ∀ b : Int32, 0 ≤ b.toInt → b.toInt < (x + 1).toInt → ¬ okA D F y e b n.toInt A := by
        intro A k1 k2 k3 b k4 k5
        rcases bx b k5 with d | d
        · rcases a3 with h | h
          · exact h.2 b k4 d A k2 k3
          · exact h.2.2.2 b k4 d A (by omega) k3
        · rw [d]
          rcases hq with h | h
          · exact h.2 A k2 k3
          · exact h.2.2.2 A (by omega) k3
      by_cases d : r2.toInt < 0
      · refine Or.inl ⟨?_, fun b k4 k5 A k1 k2 => lower A (by omega) k1 k2 b k4 k5⟩
        rcases a3 with h | h <;> rcases hq with g | g <;> omega
      · refine Or.inr ⟨by omega, ?_, ?_, fun b k4 k5 A k1 k2 => lower A k1 (by omega) k2 b k4 k5⟩
        · rcases a3 with h | h <;> rcases hq with g | g <;> omega
        · by_cases f : r2.toInt = r.toInt
          · rcases a3 with h | h
            · exfalso; omega
            · obtain ⟨b, b1, b2, b3⟩ := h.2.2.1
              exact ⟨b, b1, by omega, by rw [f]; exact b3⟩
          · have f2 : r2.toInt = q.toInt := by omega
            rcases hq with g | g
            · exfalso; omega
            · exact ⟨x, a1, by omega, by rw [f2]; exact g.2.2.1⟩
theorem can_L {D F : Nat → Int32} {n y e a b : Int32} (hn : 0 ≤ n.toInt) (hn2 : n.toInt ≤ 30) (h3 : 4 ≤ y.toInt) (h4 : y.toInt ≤ 400) (he : 0 ≤ e.toInt) (he2 : e.toInt ≤ 100000) (ha : 0 ≤ a.toInt ∧ a.toInt ≤ 2000) (hb : 0 ≤ b.toInt ∧ b.toInt < y.toInt) (hB : hBd D F) :
    ∀ (m : Nat) (x : Int32), 0 ≤ x.toInt → x.toInt ≤ n.toInt → okA D F y e b x.toInt a.toInt → 31 - x.toInt < (m : Int) → Sf (f_X12_canGoAbout_L3 n F D y e a b m x) (fun r => isB r (okA D F y e b n.toInt a.toInt)) := by
  intro m
  induction m with
  | zero => intro x a1 a2 a3 hm; exact absurd hm (by omega)
  | succ m ih =>
    intro x a1 a2 a3 hme
    rw [f_X12_canGoAbout_L3]
    have tx := tN x a1
    refine Sf_ite (fun c => ?_) (fun c => ?_)
    · have c := leI c
      have ex : x.toInt = n.toInt := by omega
      rw [ex] at a3
      exact Sf_some (Or.inl ⟨rfl, a3⟩)
    · have c := nleI c
      have e1 := adN x 1 1 (by decide) (by omega) (by omega)
      have jl : jin x 30 = true := jin_of a1 (by omega)
      rw [rdI_o jl]
      obtain ⟨hw, hw2⟩ := wvI_e (D := D) (k := x.toNatClampNeg) (hB x.toNatClampNeg).1 h3 h4 hb
      have hF := (hB x.toNatClampNeg).2
      refine Sf_dvI (by omega) ?_
      rw [hw, cb1_o, rdI_o jl]
      have mb := mulb ha.1 ha.2 hw2.1 hw2.2
      have em := mlG a (wvI D y b x.toNatClampNeg) (by omega) (by omega)
      have ed := dv_ (a * wvI D y b x.toNatClampNeg) 1000 1000 (by omega) (by decide)
      have ub1 := ub (a.toInt * (wvI D y b x.toNatClampNeg).toInt) 1000 (by omega)
      rw [em] at ed
      obtain ⟨t, ht⟩ : ∃ t, t = (a.toInt * (wvI D y b x.toNatClampNeg).toInt).tdiv 1000 := ⟨_, rfl⟩
      rw [← ht] at ed ub1
      have es := sbX (a * wvI D y b x.toNatClampNeg / 1000) (F x.toNatClampNeg) (by omega) (by omega)
      have en := ngX e (by omega)
      refine Sf_cb1 (s_X12_lies _ _ _) (fun r hr => ?_)
      have hr := hr.2
      rw [t64, t64, t64, es, ed, en] at hr
      have hok : okN D F y e b a.toInt x.toNatClampNeg ↔ (-e.toInt ≤ t - (F x.toNatClampNeg).toInt ∧ t - (F x.toNatClampNeg).toInt ≤ e.toInt) := by unfold okN; rw [← ht]
      have z : (0 : Int32).toInt = 0 := by decide
      refine Sf_ite (fun d => Sf_some (Or.inr ⟨rfl, fun w => ?_⟩)) (fun d => Sf_nmI (fun x2 hx2 => ?_))
      · have d := eqI d
        have := hok.mp (w _ (by omega))
        omega
      · subst hx2
        have d := neI d
        exact ih (x + 1) (by omega) (by omega) ((okA_step a1 e1).mpr ⟨a3, hok.mpr (by omega)⟩) (by omega)
theorem can_e {D F : Nat → Int32} {n y e a b : Int32} (hn : 0 ≤ n.toInt) (hn2 : n.toInt ≤ 30) (h3 : 4 ≤ y.toInt) (h4 : y.toInt ≤ 400) (he : 0 ≤ e.toInt) (he2 : e.toInt ≤ 100000) (ha : 0 ≤ a.toInt ∧ a.toInt ≤ 2000) (hb : 0 ≤ b.toInt ∧ b.toInt < y.toInt) (hB : hBd D F) : Sf (f_X12_canGoAbout n F D y e a b) (fun r => isB r (okA D F y e b n.toInt a.toInt)) := by
  have hFU : (100000 : Int) ≤ (FU : Int) := Int.ofNat_le.mpr FU_ge
  have z : (0 : Int32).toInt = 0 := by decide
  rw [f_X12_canGoAbout]
  exact can_L hn hn2 h3 h4 he he2 ha hb hB FU 0 (by omega) (by omega) (fun k hk => absurd hk (by omega)) (by omega)
theorem bd_L34 {D F : Nat → Int32} {n y e a : Int32} {K : Int32 → Option Int32} (hn : 0 ≤ n.toInt) (hn2 : n.toInt ≤ 30) (h3 : 4 ≤ y.toInt) (h4 : y.toInt ≤ 400) (he : 0 ≤ e.toInt) (he2 : e.toInt ≤ 100000) (ha : 0 ≤ a.toInt ∧ a.toInt ≤ 2000) (hB : hBd D F)
    (hup : ∀ b : Int32, 0 ≤ b.toInt → b.toInt < y.toInt → ∀ A : Int, a.toInt < A → A ≤ 2000 → ¬ okA D F y e b n.toInt A)
    (hK : (∀ b : Int32, 0 ≤ b.toInt → b.toInt < y.toInt → ¬ okA D F y e b n.toInt a.toInt) → ∀ a' : Int32, a'.toInt = a.toInt - 1 → Sf (K a') (fun r => BdP D F y e n.toInt y.toInt r)) :
    ∀ (m : Nat) (x : Int32), 0 ≤ x.toInt → x.toInt ≤ y.toInt → (∀ b : Int32, 0 ≤ b.toInt → b.toInt < x.toInt → ¬ okA D F y e b n.toInt a.toInt) → 401 - x.toInt < (m : Int) → Sf (f_X12_bound_L34 n F D y e a K m x) (fun r => BdP D F y e n.toInt y.toInt r) := by
  intro m
  induction m with
  | zero => intro x a1 a2 a3 hm; exact absurd hm (by omega)
  | succ m ih =>
    intro x a1 a2 a3 hme
    rw [f_X12_bound_L34]
    refine Sf_ite (fun c => ?_) (fun c => ?_)
    · have c := leI c
      refine Sf_nmI (fun a2 ha2 => hK (fun b b1 b2 => a3 b b1 (by omega)) a2 ?_)
      exact (eqI ha2).trans (adN a (-1) (-1) (by decide) (by omega) (by omega))
    · have c := nleI c
      have e1 := adN x 1 1 (by decide) (by omega) (by omega)
      refine Sf_cb1 (can_e hn hn2 h3 h4 he he2 ha ⟨a1, c⟩ hB) (fun r hr => ?_)
      refine Sf_ite (fun d => Sf_nmI (fun x2 hx2 => ?_)) (fun d => Sf_some (Or.inr ⟨ha.1, ha.2, ⟨x, a1, c, isB_1 hr d⟩, hup⟩))
      subst hx2
      refine ih (x + 1) (by omega) (by omega) (fun b b1 b2 => ?_) (by omega)
      by_cases f : b.toInt < x.toInt
      · exact a3 b b1 f
      · have : b = x := i32_eq (by omega)
        rw [this]; exact isB_0 hr d
theorem bd_L27 {D F : Nat → Int32} {n y e : Int32} (hn : 0 ≤ n.toInt) (hn2 : n.toInt ≤ 30) (h3 : 4 ≤ y.toInt) (h4 : y.toInt ≤ 400) (he : 0 ≤ e.toInt) (he2 : e.toInt ≤ 100000) (hB : hBd D F) :
    ∀ (m : Nat) (a : Int32), -1 ≤ a.toInt → a.toInt ≤ 2000 → (∀ b : Int32, 0 ≤ b.toInt → b.toInt < y.toInt → ∀ A : Int, a.toInt < A → A ≤ 2000 → ¬ okA D F y e b n.toInt A) → a.toInt + 2 < (m : Int) → Sf (f_X12_bound_L27 n F D y e m a) (fun r => BdP D F y e n.toInt y.toInt r) := by
  have hFU : (100000 : Int) ≤ (FU : Int) := Int.ofNat_le.mpr FU_ge
  have z : (0 : Int32).toInt = 0 := by decide
  intro m
  induction m with
  | zero => intro a a1 a2 a3 hm; exact absurd hm (by omega)
  | succ m ih =>
    intro a a1 a2 a3 hme
    rw [f_X12_bound_L27]
    refine Sf_ite (fun c => Sf_some (Or.inl ⟨show (-2 : Int32).toInt = -2 by decide, fun b b1 b2 A A1 A2 => ?_⟩)) (fun c => ?_)
    · have c := ltI c
      exact a3 b b1 b2 A (by omega) A2
    · have c := nltI c
      refine bd_L34 hn hn2 h3 h4 he he2 ⟨by omega, a2⟩ hB a3 (fun hno a' ha' => ?_) FU 0 (by omega) (by omega) (fun b b1 b2 => absurd b2 (by omega)) (by omega)
      refine ih a' (by omega) (by omega) (fun b b1 b2 A A1 A2 => ?_) (by omega)
      by_cases f : A = a.toInt
      · rw [f]; exact hno b b1 b2
      · exact a3 b b1 b2 A (by omega) A2
theorem pe_25 {n y1 y2 rx rm : Int32} {D F : Nat → Int32} (ex : f_X11_bound n D F y1 y2 = some rx) (em : f_X12_bound n F D y1 y2 = some rm) (hn : 0 ≤ n.toInt) (hn2 : n.toInt ≤ 30) (hB : hBd D F) : rx = rm := by
  have hFU : (100000 : Int) ≤ (FU : Int) := Int.ofNat_le.mpr FU_ge
  have z : (0 : Int32).toInt = 0 := by decide
  have z4 : (4 : Int32).toInt = 4 := by decide
  have z400 : (400 : Int32).toInt = 400 := by decide
  have zm : (-2 : Int32).toInt = -2 := by decide
  have z2 : (2000 : Int32).toInt = 2000 := by decide
  obtain ⟨r, q1, q2, hr⟩ := within_2 (p := y1) 4 400 4 400 (by decide) (by decide)
  obtain ⟨b1, p1, h1⟩ := s_X11_isNightError y2
  obtain ⟨b2, p2, h2⟩ := s_X12_isError y2
  have h1 := h1.2
  have h2 := h2.2
  have hbb : b1 = b2 := i32_eq (by omega)
  rw [f_X11_bound, q1, cb1_o, p1] at ex
  rw [f_X12_bound, q2, cb1_o, p2, ← hbb] at em
  by_cases c : r = 0
  · rw [if_pos c] at ex em
    cases ex; cases em; rfl
  · rw [if_neg c, cb1_o] at ex em
    have hr := isB_1 hr c
    by_cases d : b1 = 0
    · rw [if_pos d] at ex em
      cases ex; cases em; rfl
    · rw [if_neg d] at ex em
      have d := neI d
      obtain ⟨u, k1, hu⟩ := orb_L hn hn2 (y := y1) (e := y2) (by omega) (by omega) (by omega) (by omega) hB FU (-2) 0 (by omega) (by omega) (Or.inl ⟨zm, fun b b1 b2 => absurd b2 (by omega)⟩) (by omega)
      obtain ⟨v, k2, hv⟩ := bd_L27 hn hn2 (y := y1) (e := y2) (by omega) (by omega) (by omega) (by omega) hB FU 2000 (by omega) (by omega) (fun b b1 b2 A A1 A2 => absurd A1 (by omega)) (by omega)
      rw [f_X2_greatestOrbit, k1, cb1_o] at ex
      rw [k2] at em
      cases ex; cases em
      exact BdP_eq hu hv
