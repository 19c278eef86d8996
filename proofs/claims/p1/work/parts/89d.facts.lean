theorem xp_L (y1 y2 y5 : Int32) (T : Nat) (hT : T < 400) (hj1 : jin y1 4 = true) (hj2 : jin y2 4 = true) (K143 : Int32 → Int32 → Int32 → (Nat → Int32) → (Nat → Int32) → (Nat → Int32) → (Nat → Int32) → (Nat → Int32) → Option (Int32 × Int32 × Int32 × (Nat → Int32) × (Nat → Int32) × (Nat → Int32) × (Nat → Int32) × (Nat → Int32))) : ∀ (n i : Nat) (pd rd : Int32) (le sh : Nat → Int32), i ≤ T + 1 → T + 1 - i < n → pd.toInt < i → ∃ u : Int32 × Int32 × (Nat → Int32) × (Nat → Int32) × (Nat → Int32) × (Nat → Int32) × (Nat → Int32), f_X11_passed_L74 0 (fun _ => none) (fun _ => none) y1 y2 (nI T) y5 K143 (f_X11_passed_J177 y5) n 0 (nI i) pd rd (fun _ => 0) (fun _ => 0) (fun _ => 0) le sh = some (if y5 = 0 then 0 else -1, u) := by
  intro n
  induction n with
  | zero => intro i pd rd le sh h1 h2; exact absurd h2 (by omega)
  | succ n ih =>
    intro i pd rd le sh h1 h2 h3
    rw [f_X11_passed_L74]
    by_cases hk : i = T + 1
    · subst hk
      rw [if_pos (nI_lt (by omega) (by omega)), f_X11_passed_J177]
      by_cases h5 : y5 = 0
      · rw [if_pos h5, if_pos h5]; exact ⟨_, rfl⟩
      · rw [if_neg h5, if_neg h5]; exact ⟨_, rfl⟩
    · have hne : ¬ pd = nI i := fun q => by rw [q, nI_toInt (by omega)] at h3; omega
      obtain ⟨g, e, -⟩ := lay_e rd pd (nI i) sh hne
      obtain ⟨rd2, le2, er⟩ := read_e 0 (nI i) y1 g le
      obtain ⟨rd3, le3, er3⟩ := read_e rd2 (nI i) y2 g le2
      rw [if_neg (nI_nlt (by omega) (by omega)), e, cb5_o, rdN_o hj1, er, cb3_o, rdN_o hj2, er3, cb3_o, passedMarks_e, cb1_o, if_pos (by decide), f_X11_passed_J164, nmI_o, nmI_o, a00, nI_1]
      exact ih (i + 1) _ _ _ _ (by omega) (by omega) (by rw [nI_toInt (by omega)]; omega)
theorem mp_L (y1 y2 : Int32) (T : Nat) (hT : T < 400) (h1r : 0 ≤ y1.toInt ∧ y1.toInt ≤ 3) (h2r : 0 ≤ y2.toInt ∧ y2.toInt ≤ 3) (fi gr la : Nat → Int32) (K : Int32 → Int32 → Int32 → Int32 → Int32 → Int32 → Int32 → Int32 → Int32 → Int32 → Int32 → Int32 → Int32 → Int32 → Int32 → (Nat → Int32) → (Nat → Int32) → (Nat → Int32) → (Nat → Int32) → (Nat → Int32) → (Nat → Int32) → Option (Int32 × Int32 × Int32 × Int32 × Int32 × Int32 × Int32 × Int32 × Int32 × Int32 × Int32 × Int32 × Int32 × Int32 × Int32 × Int32 × (Nat → Int32) × (Nat → Int32) × (Nat → Int32) × (Nat → Int32) × (Nat → Int32) × (Nat → Int32))) : ∀ (n i : Nat) (aA aB aD aF aG aH aL aM aN aS aT aU aX ph ps : Int32) (sh : Nat → Int32), i ≤ T + 1 → T + 1 - i < n → ∃ (cA cB cD cF cG cH cL cM cN cS cT cU cX ph2 ps2 : Int32) (sh2 : Nat → Int32), f_X12_passed_L72 0 (fun _ => 0) y1 y2 (nI T) K n (nI i) aA aB aD aF aG aH aL aM aN aS aT aU aX ph ps fi gr (fun _ => 0) la (fun _ => 0) sh = K cA cB cD cF cG cH cL cM cN cS cT cU cX ph2 ps2 fi gr (fun _ => 0) la (fun _ => 0) sh2 := by
  intro n
  induction n with
  | zero => intro i aA aB aD aF aG aH aL aM aN aS aT aU aX ph ps sh h1 h2; exact absurd h2 (by omega)
  | succ n ih =>
    intro i aA aB aD aF aG aH aL aM aN aS aT aU aX ph ps sh h1 h2
    rw [f_X12_passed_L72]
    by_cases hk : i = T + 1
    · subst hk
      rw [if_pos (nI_lt (by omega) (by omega))]
      exact ⟨_, _, _, _, _, _, _, _, _, _, _, _, _, _, _, _, rfl⟩
    · obtain ⟨ph2, ps2, g2, el⟩ := lays_e (nI i) ph ps sh
      obtain ⟨cA, cB, cD, cF, cG, cH, cL, cM, cN, cS, cT, cU, cX, eo⟩ := over_e aA aB aD aF aG aH aL aM aN aS aT aU aX y1 (nI i) 0 g2 fi gr la h1r (by decide)
      obtain ⟨eA, eB, eD, eF, eG, eH, eL, eM, eN, eS, eT, eU, eX, eo2⟩ := over_e cA cB cD cF cG cH cL cM cN cS cT cU cX y2 (nI i) 1 g2 fi gr la h2r (by decide)
      rw [if_neg (nI_nlt (by omega) (by omega)), el, cb4_o, cb17_e eo, cb17_e eo2, rdI_o (by decide), if_pos (by decide), nmI_o, nI_1]
      exact ih (i + 1) eA eB eD eF eG eH eL eM eN eS eT eU eX ph2 ps2 g2 (by omega) (by omega)
theorem pf_10 (y1 : Int32) (y2 : Int32) (y3 : Int32) (y4 : Int32) (y5 : Int32) : ∃ (r : Int32) (x_o_page_readers : Int32) (x_o_page_day : Int32) (x_o_page_heights : Nat → Int32) (x_o_page_highest : Nat → Int32) (x_o_page_marked : Nat → Int32) (x_o_page_shapes : Nat → Int32) (x_o_page_reckoner_letters : Nat → Int32) (m_o_atA : Int32) (m_o_atB : Int32) (m_o_atD : Int32) (m_o_atF : Int32) (m_o_atG : Int32) (m_o_atH : Int32) (m_o_atL : Int32) (m_o_atM : Int32) (m_o_atN : Int32) (m_o_atS : Int32) (m_o_atT : Int32) (m_o_atU : Int32) (m_o_atX : Int32) (m_o_paperHigh : Int32) (m_o_paperShape : Int32) (m_o_first : Nat → Int32) (m_o_greatest : Nat → Int32) (m_o_highAt : Nat → Int32) (m_o_last : Nat → Int32) (m_o_marked : Nat → Int32) (m_o_shapeAt : Nat → Int32), f_X11_passed 0 (-1) 0 (fun _ => none) (fun _ => 0) (fun _ => 0) (fun _ => 0) (fun _ => 0) (fun _ => none) (fun _ => 0) y1 y2 y3 y4 y5 = some (r, x_o_page_readers, x_o_page_day, x_o_page_heights, x_o_page_highest, x_o_page_marked, x_o_page_shapes, x_o_page_reckoner_letters) ∧ f_X12_passed 0 0 0 0 0 0 0 0 0 0 0 0 0 0 0 0 (fun _ => 0) (fun _ => 0) (fun _ => 0) (fun _ => 0) (fun _ => 0) (fun _ => 0) (fun _ => 0) y1 y2 y3 y4 y5 = some (r, m_o_atA, m_o_atB, m_o_atD, m_o_atF, m_o_atG, m_o_atH, m_o_atL, m_o_atM, m_o_atN, m_o_atS, m_o_atT, m_o_atU, m_o_atX, m_o_paperHigh, m_o_paperShape, m_o_first, m_o_greatest, m_o_highAt, m_o_last, m_o_marked, m_o_shapeAt) := by
  simp only [f_X11_passed, f_X12_passed, isDay_e, misDay_e, isReader_e, misReader_e, W_iff, L_iff, t64, cb1_o, bI_0, i32_0, i64_0, i32_1, i64_1, i32_2, i64_2, i32_3, i64_3, i32_4, i64_4, i32_5, i64_5, i32_6, i64_6, i32_9, i64_9, i32_10, i64_10, i32_20, i64_20, i32_23, i64_23, i32_30, i64_30, i32_35, i64_35, i32_39, i64_39, i32_40, i64_40, i32_60, i64_60, i32_120, i64_120, i32_127, i64_127, i32_180, i64_180, i32_399, i64_399, i32_400, i64_400, i32_700, i64_700, i32_999, i64_999, i32_1000, i64_1000, i32_1439, i64_1439, i32_1440, i64_1440, i32_2000, i64_2000, i32_1000000, i64_1000000, i32_1000000000, i64_1000000000, i32_100000, i64_100000, i32_n1, i64_n1, i32_n100000, i64_n100000]
  by_cases h1 : 0 ≤ y1.toInt ∧ y1.toInt ≤ 3
  · by_cases h2 : 0 ≤ y2.toInt ∧ y2.toInt ≤ 3
    · by_cases h3 : 0 ≤ y3.toInt ∧ y3.toInt ≤ 399
      · by_cases h4 : 0 ≤ y4.toInt ∧ y4.toInt ≤ 399
        · have e29 : (y3 + 29).toInt = y3.toInt + 29 := by rw [ad32] <;> rw [show (29 : Int32).toInt = 29 from by decide] <;> omega
          have esub : (y4 - y3).toInt = y4.toInt - y3.toInt := by rw [sb32] <;> omega
          rw [e29]
          by_cases h6 : 0 ≤ y5.toInt ∧ y5.toInt ≤ 2
          · simp only [h1, h2, h3, h4, h6, and_self, not_true, not_false_eq_true, if_false, if_true, f_X11_passed_J44, Int32.lt_iff_toInt_lt, esub, i32_30, show ¬ ((1 : Int32) = 0) from by decide]
            by_cases h5 : y3.toInt ≤ y4.toInt ∧ y4.toInt ≤ y3.toInt + 29
            · obtain ⟨F3, hF3, e3⟩ := nI_of (show ¬ y3 < 0 by rw [Int32.lt_iff_toInt_lt, i32_0]; omega)
              obtain ⟨T, hT, e4⟩ := nI_of (show ¬ y4 < 0 by rw [Int32.lt_iff_toInt_lt, i32_0]; omega)
              have b3 : y3.toInt = F3 := by rw [e3, nI_toInt hF3]
              have b4 : y4.toInt = T := by rw [e4, nI_toInt hT]
              obtain ⟨u, ex⟩ := xp_L y1 y2 y5 T (by omega) (jin_o h1.1 (by omega)) (jin_o h2.1 (by omega)) (f_X11_passed_J143 y5) FU F3 (-1) 0 (fun _ => 0) (fun _ => 0) (by omega) (by unfold FU; omega) (by rw [i32_n1]; omega)
              obtain ⟨cA, cB, cD, cF, cG, cH, cL, cM, cN, cS, cT, cU, cX, ph2, ps2, sh2, em⟩ := mp_L y1 y2 T (by omega) h1 h2 (fun _ => 0) (fun _ => 0) (fun _ => 0) (f_X12_passed_J164 y5) FU F3 0 0 0 0 0 0 0 0 0 0 0 0 0 0 0 (fun _ => 0) (by omega) (by unfold FU; omega)
              rw [← e3, ← e4] at ex em
              have emr : ∃ v : Int32 × Int32 × Int32 × Int32 × Int32 × Int32 × Int32 × Int32 × Int32 × Int32 × Int32 × Int32 × Int32 × Int32 × Int32 × (Nat → Int32) × (Nat → Int32) × (Nat → Int32) × (Nat → Int32) × (Nat → Int32) × (Nat → Int32), f_X12_passed_J164 y5 cA cB cD cF cG cH cL cM cN cS cT cU cX ph2 ps2 (fun _ => 0) (fun _ => 0) (fun _ => 0) (fun _ => 0) (fun _ => 0) sh2 = some (if y5 = 0 then 0 else -1, v) := by
                rw [f_X12_passed_J164]
                by_cases z0 : y5 = 0
                · rw [if_pos z0, if_pos z0]; exact ⟨_, rfl⟩
                · rw [if_neg z0, if_neg z0]
                  by_cases z1 : y5 = 1
                  · rw [if_pos z1]; exact ⟨_, rfl⟩
                  · rw [if_neg z1]; exact ⟨_, rfl⟩
              obtain ⟨v, ev⟩ := emr
              rw [if_neg (show ¬ y4.toInt < y3.toInt by omega), if_pos (show y4.toInt - y3.toInt < 30 by omega), if_neg (not_not_intro h5), ex, em, ev]
              exact ⟨_, u.1, u.2.1, u.2.2.1, u.2.2.2.1, u.2.2.2.2.1, u.2.2.2.2.2.1, u.2.2.2.2.2.2, v.1, v.2.1, v.2.2.1, v.2.2.2.1, v.2.2.2.2.1, v.2.2.2.2.2.1, v.2.2.2.2.2.2.1, v.2.2.2.2.2.2.2.1, v.2.2.2.2.2.2.2.2.1, v.2.2.2.2.2.2.2.2.2.1, v.2.2.2.2.2.2.2.2.2.2.1, v.2.2.2.2.2.2.2.2.2.2.2.1, v.2.2.2.2.2.2.2.2.2.2.2.2.1, v.2.2.2.2.2.2.2.2.2.2.2.2.2.1, v.2.2.2.2.2.2.2.2.2.2.2.2.2.2.1, v.2.2.2.2.2.2.2.2.2.2.2.2.2.2.2.1, v.2.2.2.2.2.2.2.2.2.2.2.2.2.2.2.2.1, v.2.2.2.2.2.2.2.2.2.2.2.2.2.2.2.2.2.1, v.2.2.2.2.2.2.2.2.2.2.2.2.2.2.2.2.2.2.1, v.2.2.2.2.2.2.2.2.2.2.2.2.2.2.2.2.2.2.2.1, v.2.2.2.2.2.2.2.2.2.2.2.2.2.2.2.2.2.2.2.2, rfl, rfl⟩
            · rw [if_pos h5]
              by_cases q1 : y4.toInt < y3.toInt
              · rw [if_pos q1]; exact ⟨_, _, _, _, _, _, _, _, _, _, _, _, _, _, _, _, _, _, _, _, _, _, _, _, _, _, _, _, _, rfl, rfl⟩
              · rw [if_neg q1, if_neg (show ¬ y4.toInt - y3.toInt < 30 by omega)]; exact ⟨_, _, _, _, _, _, _, _, _, _, _, _, _, _, _, _, _, _, _, _, _, _, _, _, _, _, _, _, _, rfl, rfl⟩
          · simp only [h1, h2, h3, h4, h6, and_self, not_true, not_false_eq_true, if_false, if_true, f_X11_passed_J44, ite_self]; exact ⟨_, _, _, _, _, _, _, _, _, _, _, _, _, _, _, _, _, _, _, _, _, _, _, _, _, _, _, _, _, rfl, rfl⟩
        · simp only [h1, h2, h3, h4, and_self, not_true, not_false_eq_true, if_false, if_true, f_X11_passed_J44]; exact ⟨_, _, _, _, _, _, _, _, _, _, _, _, _, _, _, _, _, _, _, _, _, _, _, _, _, _, _, _, _, rfl, rfl⟩
      · simp only [h1, h2, h3, and_self, not_true, not_false_eq_true, if_false, if_true, f_X11_passed_J44]; exact ⟨_, _, _, _, _, _, _, _, _, _, _, _, _, _, _, _, _, _, _, _, _, _, _, _, _, _, _, _, _, rfl, rfl⟩
    · simp only [h1, h2, and_self, not_true, not_false_eq_true, if_false, if_true, f_X11_passed_J44]; exact ⟨_, _, _, _, _, _, _, _, _, _, _, _, _, _, _, _, _, _, _, _, _, _, _, _, _, _, _, _, _, rfl, rfl⟩
  · simp only [h1, not_false_eq_true, if_true, f_X11_passed_J44]; exact ⟨_, _, _, _, _, _, _, _, _, _, _, _, _, _, _, _, _, _, _, _, _, _, _, _, _, _, _, _, _, rfl, rfl⟩
