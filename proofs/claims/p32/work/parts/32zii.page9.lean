/-! the class's side of marks: bits of the row, the greatest -/
def mBt (mk : Nat → Int32) (k : Nat) (M : Nat → Bool) : Prop := ∀ m, m < 1440 → tb (mk m) k = M m
theorem imk_e {mk : Nat → Int32} {k m : Nat} (hk : k < 4) (hm : m < 1440) : f_X4_isMarked mk (nI k) (nI m) = some (mI (tb (mk m) k)) := by
  have l0 : (0 : Int32).toInt = 0 := by decide
  obtain ⟨r, e, h⟩ := s_X11_isMinute (nI m)
  have h := h.2
  have tm : (nI m).toInt = (m : Int) := nI_toInt (by omega)
  rw [f_X4_isMarked, e, cb1_o, if_neg (fun w => by have := eqI w; omega), rdI_o (jin_n hm (by omega)), nI_clamp (by omega)]
  cases hb : tb (mk m) k with
  | true => rw [if_pos ((tb_sh hk).mpr hb)]; rfl
  | false => rw [if_neg (fun w => by rw [(tb_sh hk).mp w] at hb; cases hb)]; rfl
theorem imk_neg {mk : Nat → Int32} {p x : Int32} (hx : x.toInt < 0) : f_X4_isMarked mk p x = some 0 := by
  have l0 : (0 : Int32).toInt = 0 := by decide
  obtain ⟨r, e, h⟩ := s_X11_isMinute x
  have h := h.2
  rw [f_X4_isMarked, e, cb1_o, if_pos (i32_eq (by omega))]
theorem n_m1 (m : Nat) : nI (m + 1) - 1 = nI m := nI_pred m
theorem n_01 : (nI 0 - 1 : Int32).toInt = -1 := by decide +kernel
theorem n_02 : (nI 0 - 2 : Int32).toInt = -2 := by decide +kernel
theorem n_12 : (nI 1 - 2 : Int32).toInt = -1 := by decide +kernel
theorem n_m2 (m : Nat) : nI (m + 2) - 2 = nI m := by
  have := pk_sub (a := m + 2) (b := 2) (by omega)
  rw [show m + 2 - 2 = m by omega] at this
  exact this
theorem ibg_e {mk : Nat → Int32} {k m : Nat} {M : Nat → Bool} (hk : k < 4) (hm : m < 1440) (hM : mBt mk k M) : f_X4_beginsMark mk (nI k) (nI m) = some (mI (mBg M m)) := by
  rw [f_X4_beginsMark, imk_e hk hm, hM m hm, cb1_o]
  unfold mBg
  cases hb : M m with
  | false => rw [if_pos (mI_0.mpr rfl)]; rfl
  | true =>
    rw [if_neg (by decide)]
    cases m with
    | zero => rw [imk_neg (by rw [n_01]; decide), cb1_o, if_pos rfl]; rfl
    | succ m =>
      rw [n_m1, imk_e hk (by omega), hM m (by omega), cb1_o]
      show (if mI (M m) = 0 then some 1 else some 0) = some (mI (true && !M m))
      cases hc : M m with
      | false => rw [if_pos (mI_0.mpr rfl)]; rfl
      | true => rw [if_neg (by decide)]; rfl
theorem last_L {mk : Nat → Int32} {k a : Nat} {M : Nat → Bool} (hk : k < 4) (hM : mBt mk k M) : ∀ (r x n : Nat), x + r = 1439 → a ≤ x → (∀ i, a ≤ i → i ≤ x → M i = true) → Sf (f_X4_lastOf_L2 mk (nI k) (n + r + 1) (nI x)) (fun y => ∃ e, y = nI e ∧ isRn M a e 1440) := by
  intro r
  induction r with
  | zero =>
    intro x n h ha hr
    have hx : x = 1439 := by omega
    rw [Nat.add_zero, f_X4_lastOf_L2, nI_1, if_pos (show (1440 : Int32) ≤ nI (x + 1) by rw [hx]; decide +kernel)]
    exact Sf_some ⟨x, rfl, ha, by omega, hr, fun w => absurd w (by omega)⟩
  | succ r ih =>
    intro x n h ha hr
    rw [show n + (r + 1) + 1 = (n + r + 1) + 1 by omega, f_X4_lastOf_L2, nI_1, if_neg (show ¬ (1440 : Int32) ≤ nI (x + 1) from nI_ge (a := x + 1) (b := 1440) (by omega) (by decide)), imk_e hk (by omega), hM (x + 1) (by omega), cb1_o]
    refine Sf_ite (fun g => Sf_some ⟨x, rfl, ha, by omega, hr, fun _ => mI_0.mp g⟩) (fun g => ?_)
    rw [nmI_o]
    refine ih (x + 1) n (by omega) (by omega) (fun i i1 i2 => ?_)
    by_cases c : i = x + 1
    · rw [c]
      cases hb : M (x + 1) with
      | true => rfl
      | false => exact absurd (mI_0.mpr hb) g
    · exact hr i i1 (by omega)
theorem last_e {mk : Nat → Int32} {k a : Nat} {M : Nat → Bool} (hk : k < 4) (hM : mBt mk k M) (ha : a < 1440) (hb : M a = true) : Sf (f_X4_lastOf mk (nI k) (nI a)) (fun y => ∃ e, y = nI e ∧ isRn M a e 1440) := by
  obtain ⟨n, hn⟩ : ∃ n, FU = n + (1439 - a) + 1 := ⟨FU - (1439 - a) - 1, by have := FU_ge; omega⟩
  rw [f_X4_lastOf, hn]
  exact last_L hk hM (1439 - a) a n (by omega) (Nat.le_refl _) (fun i i1 i2 => by rw [show i = a by omega]; exact hb)
theorem gOf_L {he : Nat → Int32} {a b : Nat} (hb : b ≤ 1440) : ∀ (r x n : Nat) (v q : Int32), q.toInt = (b : Int) - 1 → x + r = b → a ≤ x → isMx he a x v → Sf (f_X4_greatestOf_L5 he q (n + r + 1) v (nI x)) (isMx he a b) := by
  intro r
  induction r with
  | zero =>
    intro x n v q hq h ha hv
    have hx : x = b := by omega
    subst hx
    have tx : (nI x).toInt = (x : Int) := nI_toInt (by omega)
    rw [Nat.add_zero, f_X4_greatestOf_L5, if_pos (Int32.lt_iff_toInt_lt.mpr (by omega))]
    exact Sf_some hv
  | succ r ih =>
    intro x n v q hq h ha hv
    have tx : (nI x).toInt = (x : Int) := nI_toInt (by omega)
    rw [show n + (r + 1) + 1 = (n + r + 1) + 1 by omega, f_X4_greatestOf_L5, if_neg (fun w => by have := ltI w; omega), if_neg (show ¬ (1440 : Int32) ≤ nI x from nI_ge (a := x) (b := 1440) (by omega) (by decide)), rdI_o (jin_n (by omega) (by omega)), nI_clamp (by omega), nmI_o, nmI_o, nI_1]
    exact ih (x + 1) n _ q hq (by omega) (by omega) (isMx_add hv ha)
theorem gOf_e {he : Nat → Int32} {a b : Nat} {q : Int32} (hb : b ≤ 1440) (ha : a ≤ b) (hq : q.toInt = (b : Int) - 1) : Sf (f_X4_greatestOf he (nI a) q) (isMx he a b) := by
  obtain ⟨n, hn⟩ : ∃ n, FU = n + (b - a) + 1 := ⟨FU - (b - a) - 1, by have := FU_ge; omega⟩
  rw [f_X4_greatestOf, hn]
  exact gOf_L hb (b - a) a n 0 q hq (by omega) (Nat.le_refl _) (isMx_nil (Nat.le_refl _))
theorem gBf_e {he : Nat → Int32} {m : Nat} {x : Int32} (hm : m < 1440) (hx : isMx he (m - 11) (m - 1) x) : Sf (f_X4_greatestBefore he (nI m) x) (isMx he (m - 10) m) := by
  have l0 : (0 : Int32).toInt = 0 := by decide
  have l1 : (1 : Int32).toInt = 1 := by decide
  have l10 : (10 : Int32).toInt = 10 := by decide
  have tm : (nI m).toInt = (m : Int) := nI_toInt (by omega)
  have s1 := sbX (nI m) 1 (by omega) (by omega)
  have s2 := sbX (nI m) 10 (by omega) (by omega)
  have s3 := sbX (nI m - 10) 1 (by omega) (by omega)
  obtain ⟨x1, x2, x3⟩ := hx
  have hJ : (0 < m → (he (m - 1)).toInt ≤ x.toInt) → Sf (f_X4_greatestBefore_J25 he (nI m) x) (isMx he (m - 10) m) := by
    intro hlt
    have keep : (∀ i, 11 ≤ m → i = m - 11 → (he i).toInt < x.toInt) → isMx he (m - 10) m x := by
      intro hg
      refine ⟨fun i i1 i2 => ?_, x2, ?_⟩
      · by_cases c : i = m - 1
        · rw [c]; exact hlt (by omega)
        · exact x1 i (by omega) (by omega)
      · rcases x3 with w | ⟨i, i1, i2, w⟩
        · exact Or.inl w
        · refine Or.inr ⟨i, ?_, by omega, w⟩
          by_cases c : m - 10 ≤ i
          · exact c
          · have := hg i (by omega) (by omega); omega
    rw [f_X4_greatestBefore_J25, nmI_o]
    refine Sf_ite (fun g => ?_) (fun g => ?_)
    · have g := ltI g
      rw [f_X4_greatestBefore_J51, if_neg (by decide)]
      exact Sf_some (keep (fun i h1 _ => absurd h1 (by omega)))
    · have g := nltI g
      have e11 : nI m - 10 - 1 = nI (m - 11) := i32_eq (by rw [nI_toInt (by omega)]; omega)
      rw [e11, rdI_o (jin_n (by omega) (by omega)), nI_clamp (by omega)]
      refine Sf_ite (fun c => ?_) (fun c => ?_)
      · rw [f_X4_greatestBefore_J51, if_pos rfl, nI_1, show m - 11 + 1 = m - 10 by omega]
        exact Sf_cb1 (gOf_e (b := m) (by omega) (by omega) (by omega)) (fun v hv => Sf_some hv)
      · have c := nleI c
        rw [f_X4_greatestBefore_J51, if_neg (by decide)]
        exact Sf_some (keep (fun i _ h2 => by rw [h2]; exact c))
  rw [f_X4_greatestBefore]
  refine Sf_ite (fun g => ?_) (fun g => ?_)
  · have g := leI g
    exact hJ (fun w => absurd w (by omega))
  · have g := nleI g
    have e1 : nI m - 1 = nI (m - 1) := i32_eq (by rw [nI_toInt (by omega)]; omega)
    rw [e1, rdI_o (jin_n (by omega) (by omega)), nI_clamp (by omega)]
    refine Sf_ite (fun c => ?_) (fun c => ?_)
    · have c := ltI c
      exact hJ (fun _ => by omega)
    · have c := nltI c
      rw [rdI_o (jin_n (by omega) (by omega)), nI_clamp (by omega)]
      refine Sf_some ⟨fun i i1 i2 => ?_, by omega, Or.inr ⟨m - 1, by omega, by omega, rfl⟩⟩
      by_cases d : i = m - 1
      · rw [d]; exact Int.le_refl _
      · have := x1 i (by omega) (by omega); omega
