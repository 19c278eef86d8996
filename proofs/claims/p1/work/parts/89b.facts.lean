theorem ad32 {a b : Int32} (h1 : -2147483648 ≤ a.toInt + b.toInt) (h2 : a.toInt + b.toInt ≤ 2147483647) : (a + b).toInt = a.toInt + b.toInt := by
  rw [Int32.toInt_add, Int.bmod_eq_of_le] <;> omega
theorem sb32 {a b : Int32} (h1 : -2147483648 ≤ a.toInt - b.toInt) (h2 : a.toInt - b.toInt ≤ 2147483647) : (a - b).toInt = a.toInt - b.toInt := by
  rw [Int32.toInt_sub, Int.bmod_eq_of_le] <;> omega
theorem lo32 (a : Int32) : -2147483648 ≤ a.toInt := by have := Int32.le_toInt a; omega
theorem hi32 (a : Int32) : a.toInt ≤ 2147483647 := by have := Int32.toInt_lt a; omega
theorem sbr (a c : Int32) (n k : Int) (hc : c.toInt = n) (hn : 0 ≤ n) (hn2 : n < 1000) (hk : 0 ≤ k) (hk2 : k < 1000) : (0 ≤ (a - c).toInt ∧ (a - c).toInt ≤ k) = (n ≤ a.toInt ∧ a.toInt ≤ n + k) := by
  have l := lo32 a
  have u := hi32 a
  by_cases h : -2147483648 ≤ a.toInt - n
  · rw [sb32 (by omega) (by omega), hc]
    exact propext ⟨fun q => by omega, fun q => by omega⟩
  · have e : (a - c).toInt = a.toInt - n + 4294967296 := by
      rw [Int32.toInt_sub, hc, Int.bmod_def]
      split <;> omega
    rw [e]
    exact propext ⟨fun q => by omega, fun q => by omega⟩
theorem put_e (len : Int32) (b : Nat → Int32) (w : Int32) (h : len = 0 ∨ len = 4 ∨ len = 8 ∨ len = 12 ∨ len = 16) : ∃ b2, f_X9_put len b w = some (len + 4, b2) := by
  obtain ⟨m, hm⟩ := FU_s 5 (by decide)
  rcases h with rfl | rfl | rfl | rfl | rfl
  all_goals
    rw [f_X9_put, hm]
    rw [f_X9_put_L3, if_neg (by decide), if_neg (by decide), nmI_o, wrI_o (by decide), nmI_o, nmI_o]
    rw [f_X9_put_L3, if_neg (by decide), if_neg (by decide), nmI_o, wrI_o (by decide), nmI_o, nmI_o]
    rw [f_X9_put_L3, if_neg (by decide), if_neg (by decide), nmI_o, wrI_o (by decide), nmI_o, nmI_o]
    rw [f_X9_put_L3, if_neg (by decide), if_neg (by decide), nmI_o, wrI_o (by decide), nmI_o, nmI_o]
    rw [f_X9_put_L3, if_pos (by decide)]
    exact ⟨_, rfl⟩
theorem push_e (len : Int32) (b : Nat → Int32) (w : Int32) (h : len = 0 ∨ len = 4 ∨ len = 8 ∨ len = 12 ∨ len = 16) : ∃ b2, f_X12_push len b w = some (len + 4, b2) := by
  obtain ⟨m, hm⟩ := FU_s 5 (by decide)
  rcases h with rfl | rfl | rfl | rfl | rfl
  all_goals
    rw [f_X12_push, hm]
    rw [f_X12_push_L3, if_neg (by decide), nmI_o, wrB_o (by decide), nmI_o, nmI_o]
    rw [f_X12_push_L3, if_neg (by decide), nmI_o, wrB_o (by decide), nmI_o, nmI_o]
    rw [f_X12_push_L3, if_neg (by decide), nmI_o, wrB_o (by decide), nmI_o, nmI_o]
    rw [f_X12_push_L3, if_neg (by decide), nmI_o, wrB_o (by decide), nmI_o, nmI_o]
    rw [f_X12_push_L3, if_pos (by decide)]
    exact ⟨_, rfl⟩
theorem pf_2 (y1 : Int32) (y2 : Int32) (y3 : Int32) (y4 : Int32) (y5 : Int32) : ∃ (r : Int32) (x_o_tape_length : Int32) (x_o_tape_bytes : Nat → Int32) (m_o_taped : Int32) (m_o_tape : Nat → Int32), f_X11_feed 0 (fun _ => 0) y1 y2 y3 y4 y5 = some (r, x_o_tape_length, x_o_tape_bytes) ∧ f_X12_feed 0 (fun _ => 0) y1 y2 y3 y4 y5 = some (r, m_o_taped, m_o_tape) := by
  obtain ⟨b1, h1⟩ := put_e 0 (fun _ => 0) y1 (by decide)
  obtain ⟨b2, h2⟩ := put_e (0 + 4) b1 y2 (by decide)
  obtain ⟨b3, h3⟩ := put_e (0 + 4 + 4) b2 y3 (by decide)
  obtain ⟨b4, h4⟩ := put_e (0 + 4 + 4 + 4) b3 y4 (by decide)
  obtain ⟨b5, h5⟩ := put_e (0 + 4 + 4 + 4 + 4) b4 y5 (by decide)
  obtain ⟨c1, g1⟩ := push_e 0 (fun _ => 0) y1 (by decide)
  obtain ⟨c2, g2⟩ := push_e (0 + 4) c1 y2 (by decide)
  obtain ⟨c3, g3⟩ := push_e (0 + 4 + 4) c2 y3 (by decide)
  obtain ⟨c4, g4⟩ := push_e (0 + 4 + 4 + 4) c3 y4 (by decide)
  obtain ⟨c5, g5⟩ := push_e (0 + 4 + 4 + 4 + 4) c4 y5 (by decide)
  refine ⟨0 + 4 + 4 + 4 + 4 + 4, 0 + 4 + 4 + 4 + 4 + 4, b5, 0 + 4 + 4 + 4 + 4 + 4, c5, ?_, ?_⟩
  · rw [f_X11_feed, if_pos (by decide), cb2_e h1, cb2_e h2, cb2_e h3, cb2_e h4, cb2_e h5]
  · rw [f_X12_feed, if_pos (by decide), cb2_e g1, cb2_e g2, cb2_e g3, cb2_e g4, cb2_e g5]
theorem alone_e (fa : Nat → Int32) (a b : Int32) : ∃ fb, f_X2_alone 0 fa (fun _ => none) a b = some (-1, fb) := by
  obtain ⟨m, hm⟩ := FU_s 7 (by decide)
  have hk : ∀ (n : Nat) (g : Nat → Int32) (K : Int32 → Int32 → Option (Int32 × (Nat → Int32))), f_X2_alone_L46 0 g K (n + 1) 0 = some (-1, g) := fun n g K => by
    rw [f_X2_alone_L46, if_pos (by decide)]
  have hj : ∀ g : Nat → Int32, f_X2_alone_J44 0 b g = some (-1, g) := fun g => by
    rw [f_X2_alone_J44, hm]
    exact hk _ _ _
  have hs : ∀ (n : Nat) (g : Nat → Int32) (K : (Nat → Int32) → Option (Int32 × (Nat → Int32))), ∃ g2, f_X2_alone_L2 (fun _ => none) K (n + 7) 0 g = K g2 := by
    intro n g K
    rw [f_X2_alone_L2, if_neg (by decide), rdN_o (by decide), wrI_o (by decide), nmI_o]
    rw [f_X2_alone_L2, if_neg (by decide), rdN_o (by decide), wrI_o (by decide), nmI_o]
    rw [f_X2_alone_L2, if_neg (by decide), rdN_o (by decide), wrI_o (by decide), nmI_o]
    rw [f_X2_alone_L2, if_neg (by decide), rdN_o (by decide), wrI_o (by decide), nmI_o]
    rw [f_X2_alone_L2, if_neg (by decide), rdN_o (by decide), wrI_o (by decide), nmI_o]
    rw [f_X2_alone_L2, if_neg (by decide), rdN_o (by decide), wrI_o (by decide), nmI_o]
    rw [f_X2_alone_L2, if_pos (by decide)]
    exact ⟨_, rfl⟩
  obtain ⟨g2, h2⟩ := hs m fa (f_X2_alone_J44 0 b)
  refine ⟨g2, ?_⟩
  rw [f_X2_alone, hm, h2, hj]
theorem pf_24 (y1 : Int32) (y2 : Int32) : ∃ (r : Int32) (x_o_nights_fallen : Nat → Int32), f_X11_told 0 (fun _ => 0) (fun _ => none) y1 y2 = some (r, x_o_nights_fallen) ∧ f_X12_told 0 (fun _ => 0) y1 y2 = some (r) := by
  obtain ⟨m, hm⟩ := FU_s 1 (by decide)
  obtain ⟨fb, hf⟩ := alone_e (fun _ => 0) y1 y2
  have ht : f_X12_told_L21 0 (fun _ => 0) FU 0 = some (-1) := by rw [hm, f_X12_told_L21, if_pos (by decide)]
  simp only [f_X11_told, f_X12_told, hf, ht, isNightError_e, misError_e, W_iff, L_iff, t64, cb1_o, cb2_o, bI_0, i32_0, i64_0, i32_1, i64_1, i32_2, i64_2, i32_3, i64_3, i32_4, i64_4, i32_5, i64_5, i32_6, i64_6, i32_9, i64_9, i32_10, i64_10, i32_20, i64_20, i32_23, i64_23, i32_30, i64_30, i32_35, i64_35, i32_39, i64_39, i32_40, i64_40, i32_60, i64_60, i32_120, i64_120, i32_127, i64_127, i32_180, i64_180, i32_399, i64_399, i32_400, i64_400, i32_700, i64_700, i32_999, i64_999, i32_1000, i64_1000, i32_1439, i64_1439, i32_1440, i64_1440, i32_2000, i64_2000, i32_1000000, i64_1000000, i32_1000000000, i64_1000000000, i32_100000, i64_100000, i32_n1, i64_n1, i32_n100000, i64_n100000]
  by_cases h1 : 0 ≤ y1.toInt ∧ y1.toInt ≤ 100000 <;> by_cases h2 : 0 ≤ y2.toInt ∧ y2.toInt ≤ 1 <;> simp only [h1, h2, and_self, not_true, not_false_eq_true, if_false, if_true] <;> exact (by first | exact ⟨_, _, rfl, rfl⟩ | exact ⟨_, _, rfl⟩)
theorem gsize_e (d : Nat → Int32) (a b c : Int32) : f_X2_greatestSize 0 d a b c = some 2000 := by
  rw [f_X2_greatestSize, if_pos (by decide), f_X2_greatestSize_J165]
theorem orbit_e (d : Nat → Int32) (y q : Int32) : ∀ (n : Nat) (x3 x4 : Int32), 0 ≤ x4.toInt → x4.toInt ≤ y.toInt → y.toInt - x4.toInt < n → (x4.toInt < y.toInt ∨ x3 = 2000) → (x3 = -2 ∨ x3 = 2000) → f_X2_greatestOrbit_L6 0 d y q n x3 x4 = some 2000 := by
  intro n
  induction n with
  | zero => intro x3 x4 h1 h2 h3; exact absurd h3 (by omega)
  | succ n ih =>
    intro x3 x4 h1 h2 h3 h4 h5
    rw [f_X2_greatestOrbit_L6]
    by_cases hc : y ≤ x4
    · rw [if_pos hc]
      rw [Int32.le_iff_toInt_le] at hc
      rcases h4 with h4 | h4
      · omega
      · rw [h4]
    · rw [if_neg hc, gsize_e, cb1_o, nmI_o, nmI_o]
      rw [Int32.le_iff_toInt_le] at hc
      have u := hi32 y
      have e : (x4 + 1).toInt = x4.toInt + 1 := by rw [ad32] <;> rw [i32_1] <;> omega
      have ej : jmax x3 2000 = 2000 := by rcases h5 with rfl | rfl <;> decide
      rw [ej]
      exact ih _ _ (by omega) (by omega) (by omega) (Or.inr rfl) (Or.inr rfl)
theorem pf_25 (y1 : Int32) (y2 : Int32) : ∃ (r : Int32), f_X11_bound 0 (fun _ => 0) y1 y2 = some (r) ∧ f_X12_bound 0 (fun _ => 0) (fun _ => 0) y1 y2 = some (r) := by
  obtain ⟨m, hm⟩ := FU_s 1 (by decide)
  have hg : ∀ a b c d : Int32, f_X12_canGoAbout 0 (fun _ => 0) (fun _ => 0) a b c d = some 1 := by
    intro a b c d
    rw [f_X12_canGoAbout, hm, f_X12_canGoAbout_L3, if_pos (by decide)]
  by_cases h1 : 4 ≤ y1.toInt ∧ y1.toInt ≤ 400
  · have ho : f_X2_greatestOrbit 0 (fun _ => 0) y1 y2 = some 2000 := by
      rw [f_X2_greatestOrbit]
      exact orbit_e _ _ _ _ _ _ (by decide) (by rw [i32_0]; omega) (by rw [i32_0]; unfold FU; omega) (Or.inl (by rw [i32_0]; omega)) (Or.inl rfl)
    have hb : f_X12_bound_L27 0 (fun _ => 0) (fun _ => 0) y1 y2 FU 2000 = some 2000 := by
      rw [hm, f_X12_bound_L27, if_neg (by decide), hm, f_X12_bound_L34, if_neg (by rw [Int32.le_iff_toInt_le, i32_0]; omega), hg, cb1_o, if_neg (by decide)]
    simp only [f_X11_bound, f_X12_bound, ho, hb, isNightError_e, misError_e, W_iff, L_iff, t64, cb1_o, bI_0, i32_0, i64_0, i32_1, i64_1, i32_2, i64_2, i32_3, i64_3, i32_4, i64_4, i32_5, i64_5, i32_6, i64_6, i32_9, i64_9, i32_10, i64_10, i32_20, i64_20, i32_23, i64_23, i32_30, i64_30, i32_35, i64_35, i32_39, i64_39, i32_40, i64_40, i32_60, i64_60, i32_120, i64_120, i32_127, i64_127, i32_180, i64_180, i32_399, i64_399, i32_400, i64_400, i32_700, i64_700, i32_999, i64_999, i32_1000, i64_1000, i32_1439, i64_1439, i32_1440, i64_1440, i32_2000, i64_2000, i32_1000000, i64_1000000, i32_1000000000, i64_1000000000, i32_100000, i64_100000, i32_n1, i64_n1, i32_n100000, i64_n100000]
    by_cases h2 : 0 ≤ y2.toInt ∧ y2.toInt ≤ 100000 <;> simp only [h1, h2, and_self, not_true, not_false_eq_true, if_false, if_true] <;> exact (by first | exact ⟨_, rfl, rfl⟩ | exact ⟨_, rfl⟩)
  · simp only [f_X11_bound, f_X12_bound, W_iff, L_iff, t64, cb1_o, bI_0, i32_0, i64_0, i32_1, i64_1, i32_2, i64_2, i32_3, i64_3, i32_4, i64_4, i32_5, i64_5, i32_6, i64_6, i32_9, i64_9, i32_10, i64_10, i32_20, i64_20, i32_23, i64_23, i32_30, i64_30, i32_35, i64_35, i32_39, i64_39, i32_40, i64_40, i32_60, i64_60, i32_120, i64_120, i32_127, i64_127, i32_180, i64_180, i32_399, i64_399, i32_400, i64_400, i32_700, i64_700, i32_999, i64_999, i32_1000, i64_1000, i32_1439, i64_1439, i32_1440, i64_1440, i32_2000, i64_2000, i32_1000000, i64_1000000, i32_1000000000, i64_1000000000, i32_100000, i64_100000, i32_n1, i64_n1, i32_n100000, i64_n100000]
    simp only [h1, not_false_eq_true, if_true]
    exact (by first | exact ⟨_, rfl, rfl⟩ | exact ⟨_, rfl⟩)
theorem pf_31 (y1 : Int32) : ∃ (r : Int32), f_X11_count 0 0 0 0 0 0 (fun _ => none) (fun _ => none) (fun _ => none) y1 = some (r) ∧ f_X12_count 0 0 0 0 0 0 (fun _ => 0) y1 = some (r) := by
  have e20 : (0 ≤ (y1 - 20).toInt ∧ (y1 - 20).toInt ≤ 3) = (20 ≤ y1.toInt ∧ y1.toInt ≤ 23) := sbr y1 20 20 3 (by decide) (by decide) (by decide) (by decide) (by decide)
  have e30 : (0 ≤ (y1 - 30).toInt ∧ (y1 - 30).toInt ≤ 5) = (30 ≤ y1.toInt ∧ y1.toInt ≤ 35) := sbr y1 30 30 5 (by decide) (by decide) (by decide) (by decide) (by decide)
  have eq : ∀ k : Int32, (y1 = k) = (y1.toInt = k.toInt) := fun k => propext Int32.toInt_inj.symm
  have m9 : (10 : Int32) + 0 - 1 = 9 := by decide
  simp only [f_X11_count, f_X12_count, f_X11_textCount, f_X11_clausesOf, isSource_e, misReader_e, misTale_e, W_iff, cb1_o, bI_0, m9, e20, e30, eq, i32_0, i64_0, i32_1, i64_1, i32_2, i64_2, i32_3, i64_3, i32_4, i64_4, i32_5, i64_5, i32_6, i64_6, i32_9, i64_9, i32_10, i64_10, i32_20, i64_20, i32_23, i64_23, i32_30, i64_30, i32_35, i64_35, i32_39, i64_39, i32_40, i64_40, i32_60, i64_60, i32_120, i64_120, i32_127, i64_127, i32_180, i64_180, i32_399, i64_399, i32_400, i64_400, i32_700, i64_700, i32_999, i64_999, i32_1000, i64_1000, i32_1439, i64_1439, i32_1440, i64_1440, i32_2000, i64_2000, i32_1000000, i64_1000000, i32_1000000000, i64_1000000000, i32_100000, i64_100000, i32_n1, i64_n1, i32_n100000, i64_n100000, if_true]
  by_cases h2 : 20 ≤ y1.toInt ∧ y1.toInt ≤ 23
  · have a1 : ¬ (10 ≤ y1.toInt ∧ y1.toInt ≤ 9) := by omega
    have a2 : (10 + y1).toInt = 10 + y1.toInt := by rw [ad32] <;> rw [i32_10] <;> omega
    have a3 : (10 + y1 - 20).toInt = 10 + y1.toInt - 20 := by rw [sb32] <;> rw [a2, i32_20] <;> omega
    have a4 : (y1 - 20).toInt = y1.toInt - 20 := by rw [sb32] <;> rw [i32_20] <;> omega
    have j1 : jin (10 + y1 - 20) 20 = true := jin_o (by omega) (by omega)
    have j2 : jin (y1 - 20) 4 = true := jin_o (by omega) (by omega)
    rw [rdI_o j1, rdN_o j2]
    simp only [a1, h2, show ¬ y1.toInt = 0 from by omega, show ¬ y1.toInt = 1 from by omega, show ¬ y1.toInt = 2 from by omega, show ¬ y1.toInt = 3 from by omega, show ¬ y1.toInt = 4 from by omega, show ¬ y1.toInt = 5 from by omega, and_self, not_true, not_false_eq_true, if_false, if_true]
    exact (by first | exact ⟨_, rfl, rfl⟩ | exact ⟨_, rfl⟩)
  · by_cases h3 : 30 ≤ y1.toInt ∧ y1.toInt ≤ 35
    · have a1 : ¬ (10 ≤ y1.toInt ∧ y1.toInt ≤ 9) := by omega
      have a2 : (14 + y1).toInt = 14 + y1.toInt := by rw [ad32] <;> rw [show (14 : Int32).toInt = 14 from by decide] <;> omega
      have a3 : (14 + y1 - 30).toInt = 14 + y1.toInt - 30 := by rw [sb32] <;> rw [a2, i32_30] <;> omega
      have a4 : (y1 - 30).toInt = y1.toInt - 30 := by rw [sb32] <;> rw [i32_30] <;> omega
      have j1 : jin (14 + y1 - 30) 20 = true := jin_o (by omega) (by omega)
      have j2 : jin (y1 - 30) 6 = true := jin_o (by omega) (by omega)
      rw [rdI_o j1, rdN_o j2]
      simp only [a1, h2, h3, show ¬ y1.toInt = 0 from by omega, show ¬ y1.toInt = 1 from by omega, show ¬ y1.toInt = 2 from by omega, show ¬ y1.toInt = 3 from by omega, show ¬ y1.toInt = 4 from by omega, show ¬ y1.toInt = 5 from by omega, and_self, not_true, not_false_eq_true, if_false, if_true]
      exact (by first | exact ⟨_, rfl, rfl⟩ | exact ⟨_, rfl⟩)
    · have a1 : ¬ (10 ≤ y1.toInt ∧ y1.toInt ≤ 9) := by omega
      simp only [a1, h2, h3, not_false_eq_true, if_true]
      rcases (show y1.toInt = 0 ∨ y1.toInt = 1 ∨ y1.toInt = 2 ∨ y1.toInt = 3 ∨ y1.toInt = 4 ∨ y1.toInt = 5 ∨ (¬ y1.toInt = 0 ∧ ¬ y1.toInt = 1 ∧ ¬ y1.toInt = 2 ∧ ¬ y1.toInt = 3 ∧ ¬ y1.toInt = 4 ∧ ¬ y1.toInt = 5) by omega) with q | q | q | q | q | q | ⟨q0, q1, q2, q3, q4, q5⟩
      · exact ⟨0, by simp [q], by simp [q]⟩
      · exact ⟨0, by simp [q], by simp [q]⟩
      · exact ⟨0, by simp [q], by simp [q]⟩
      · exact ⟨0, by simp [q], by simp [q]⟩
      · exact ⟨0, by simp [q], by simp [q]⟩
      · exact ⟨0, by simp [q], by simp [q]⟩
      · exact ⟨-1, by simp [q0, q1, q2, q3, q4, q5, cb1_o], by simp [q0, q1, q2, q3, q4, q5, cb1_o]⟩
