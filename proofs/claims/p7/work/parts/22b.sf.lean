set_option maxHeartbeats 4000000 in
set_option maxRecDepth 100000 in
theorem s_X4_beginsMark (s_marked : Nat → Int32) (p1 : Int32) (p2 : Int32)  : Sf (f_X4_beginsMark s_marked p1 p2) (fun (y : Int32) => ((y.toInt = 0 ∨ y.toInt = 1))) := by
  have g1 := rgI p1
  have g2 := rgI p2
  have hFU : (100000 : Int) ≤ (FU : Int) := Int.ofNat_le.mpr FU_ge
  rw [f_X4_beginsMark]
  refine Sf_cb1 (s_X4_isMarked s_marked p1 p2 ) (fun r3_1 hp3 => ?_)
  have hp3 : ((r3_1.toInt = 0 ∨ r3_1.toInt = 1)) := hp3
  have g4 := rgI r3_1
  refine Sf_ite (fun h5 => ?_) (fun h5 => ?_)
  · skip
    have l6 : (0 : Int32).toInt = 0 := by decide
    have c7 := eqI h5
    refine Sf_some (show (((0 : Int32).toInt = 0 ∨ (0 : Int32).toInt = 1)) from ?_)
    (omega)
  · skip
    have l8 : (0 : Int32).toInt = 0 := by decide
    have c9 := neI h5
    have g10 := rgI (p2 - 1)
    first | have e11 := sbN p2 1 (1) (by decide) (by omega) (by omega) | skip
    refine Sf_cb1 (s_X4_isMarked s_marked p1 (p2 - 1) ) (fun r14_10 hp12 => ?_)
    have hp12 : ((r14_10.toInt = 0 ∨ r14_10.toInt = 1)) := hp12
    have g13 := rgI r14_10
    refine Sf_ite (fun h14 => ?_) (fun h14 => ?_)
    · skip
      have c15 := eqI h14
      have l16 : (1 : Int32).toInt = 1 := by decide
      refine Sf_some (show (((1 : Int32).toInt = 0 ∨ (1 : Int32).toInt = 1)) from ?_)
      (omega)
    · skip
      have c17 := neI h14
      refine Sf_some (show (((0 : Int32).toInt = 0 ∨ (0 : Int32).toInt = 1)) from ?_)
      (omega)
set_option maxHeartbeats 4000000 in
set_option maxRecDepth 100000 in
theorem s_X4_lastOf_L2 (s_marked : Nat → Int32) (p1 : Int32)  : ∀ (n : Nat) (x3_2 : Int32), (0 ≤ x3_2.toInt) → (x3_2.toInt ≤ 1439) → (1441 - x3_2.toInt < (n : Int)) → Sf (f_X4_lastOf_L2 s_marked p1 n x3_2) (fun (y : Int32) => (0 ≤ y.toInt ∧ y.toInt ≤ 1439)) := by
  have hFU : (100000 : Int) ≤ (FU : Int) := Int.ofNat_le.mpr FU_ge
  have g1 := rgI p1
  intro n
  induction n with
  | zero =>
    intro x3_2 hi0 hi1 hm
    have g2 := rgI x3_2
    exact absurd hm (by omega)
  | succ n ih =>
    intro x3_2 hi0 hi1 hm
    rw [f_X4_lastOf_L2]
    have g3 := rgI x3_2
    refine Sf_ite (fun h4 => ?_) (fun h4 => ?_)
    · skip
      have l5 : (1440 : Int32).toInt = 1440 := by decide
      have g6 := rgI (x3_2 + 1)
      first | have e7 := adN x3_2 1 (1) (by decide) (by omega) (by omega) | skip
      have c8 := leI h4
      refine Sf_some (show (0 ≤ x3_2.toInt ∧ x3_2.toInt ≤ 1439) from ?_)
      (omega)
    · skip
      have l9 : (1440 : Int32).toInt = 1440 := by decide
      have g10 := rgI (x3_2 + 1)
      first | have e11 := adN x3_2 1 (1) (by decide) (by omega) (by omega) | skip
      have c12 := nleI h4
      refine Sf_cb1 (s_X4_isMarked s_marked p1 (x3_2 + 1) ) (fun r16_7 hp13 => ?_)
      have hp13 : ((r16_7.toInt = 0 ∨ r16_7.toInt = 1)) := hp13
      have g14 := rgI r16_7
      refine Sf_ite (fun h15 => ?_) (fun h15 => ?_)
      · skip
        have l16 : (0 : Int32).toInt = 0 := by decide
        have c17 := eqI h15
        refine Sf_some (show (0 ≤ x3_2.toInt ∧ x3_2.toInt ≤ 1439) from ?_)
        (omega)
      · skip
        have l18 : (0 : Int32).toInt = 0 := by decide
        have c19 := neI h15
        refine Sf_nmI (fun v22_16 hv20 => ?_)
        have q21 := eqI hv20
        exact ih v22_16 (by omega) (by omega) (by omega)
set_option maxHeartbeats 4000000 in
set_option maxRecDepth 100000 in
theorem s_X4_lastOf (s_marked : Nat → Int32) (p1 : Int32) (p2 : Int32) (hp0 : 0 ≤ p2.toInt) (hp1 : p2.toInt ≤ 1439) : Sf (f_X4_lastOf s_marked p1 p2) (fun (y : Int32) => (0 ≤ y.toInt ∧ y.toInt ≤ 1439)) := by
  have g1 := rgI p1
  have g2 := rgI p2
  have hFU : (100000 : Int) ≤ (FU : Int) := Int.ofNat_le.mpr FU_ge
  rw [f_X4_lastOf]
  refine s_X4_lastOf_L2 s_marked p1   FU p2 (by omega) (by omega) (by omega)
set_option maxHeartbeats 4000000 in
set_option maxRecDepth 100000 in
theorem s_X4_marksOf_L4 (s_marked : Nat → Int32) (p1 : Int32)  : ∀ (n : Nat) (x2_3 : Int32) (x3_4 : Int32), (0 ≤ x3_4.toInt) → (x3_4.toInt ≤ 1440) → (1441 - x3_4.toInt < (n : Int)) → Sf (f_X4_marksOf_L4 s_marked p1 n x2_3 x3_4) (fun (y : Int32) => True) := by
  have hFU : (100000 : Int) ≤ (FU : Int) := Int.ofNat_le.mpr FU_ge
  have g1 := rgI p1
  intro n
  induction n with
  | zero =>
    intro x2_3 x3_4 hi0 hi1 hm
    have g2 := rgI x2_3
    have g3 := rgI x3_4
    exact absurd hm (by omega)
  | succ n ih =>
    intro x2_3 x3_4 hi0 hi1 hm
    rw [f_X4_marksOf_L4]
    have g4 := rgI x2_3
    have g5 := rgI x3_4
    refine Sf_ite (fun h6 => ?_) (fun h6 => ?_)
    · skip
      have l7 : (1440 : Int32).toInt = 1440 := by decide
      have c8 := leI h6
      exact Sf_some trivial
    · skip
      have l9 : (1440 : Int32).toInt = 1440 := by decide
      have c10 := nleI h6
      refine Sf_cb1 (s_X4_beginsMark s_marked p1 x3_4 ) (fun r15_9 hp11 => ?_)
      have hp11 : ((r15_9.toInt = 0 ∨ r15_9.toInt = 1)) := hp11
      have g12 := rgI r15_9
      refine Sf_ite (fun h13 => ?_) (fun h13 => ?_)
      · skip
        have l14 : (0 : Int32).toInt = 0 := by decide
        have c15 := eqI h13
        refine Sf_nmI (fun v27_17 hv16 => ?_)
        have g17 := rgI (x2_3 + 0)
        first | have e18 := adN x2_3 0 (0) (by decide) (by omega) (by omega) | skip
        have q19 := eqI hv16
        refine Sf_nmI (fun v28_21 hv20 => ?_)
        have g21 := rgI (x3_4 + 1)
        first | have e22 := adN x3_4 1 (1) (by decide) (by omega) (by omega) | skip
        have q23 := eqI hv20
        exact ih v27_17 v28_21 (by omega) (by omega) (by omega)
      · skip
        have l24 : (0 : Int32).toInt = 0 := by decide
        have c25 := neI h13
        refine Sf_nmI (fun v27_25 hv26 => ?_)
        have g27 := rgI (x2_3 + 1)
        first | have e28 := adN x2_3 1 (1) (by decide) (by omega) (by omega) | skip
        have q29 := eqI hv26
        refine Sf_nmI (fun v28_29 hv30 => ?_)
        have g31 := rgI (x3_4 + 1)
        first | have e32 := adN x3_4 1 (1) (by decide) (by omega) (by omega) | skip
        have q33 := eqI hv30
        exact ih v27_25 v28_29 (by omega) (by omega) (by omega)
set_option maxHeartbeats 4000000 in
set_option maxRecDepth 100000 in
theorem s_X4_marksOf (s_marked : Nat → Int32) (p1 : Int32)  : Sf (f_X4_marksOf s_marked p1) (fun (y : Int32) => True) := by
  have g1 := rgI p1
  have hFU : (100000 : Int) ≤ (FU : Int) := Int.ofNat_le.mpr FU_ge
  rw [f_X4_marksOf]
  have l2 : (0 : Int32).toInt = 0 := by decide
  refine s_X4_marksOf_L4 s_marked p1   FU 0 0 (by omega) (by omega) (by omega)
set_option maxHeartbeats 4000000 in
set_option maxRecDepth 100000 in
theorem s_X4_numberOf (s_heights : Nat → Int32) (s_marked : Nat → Int32) (p1 : Int32) (p2 : Int32) (p3 : Int32) (hp0 : 0 ≤ p2.toInt) (hp1 : p2.toInt ≤ 1439) : Sf (f_X4_numberOf s_heights s_marked p1 p2 p3) (fun (y : Int32) => True) := by
  have g1 := rgI p1
  have g2 := rgI p2
  have g3 := rgI p3
  have hFU : (100000 : Int) ≤ (FU : Int) := Int.ofNat_le.mpr FU_ge
  rw [f_X4_numberOf]
  refine Sf_ite (fun h4 => ?_) (fun h4 => ?_)
  · skip
    have l5 : (0 : Int32).toInt = 0 := by decide
    have c6 := eqI h4
    exact Sf_some trivial
  · skip
    have l7 : (0 : Int32).toInt = 0 := by decide
    have c8 := neI h4
    refine Sf_cb1 (s_X4_lastOf s_marked p1 p2 (by omega) (by omega)) (fun r9_4 hp9 => ?_)
    have hp9 : (0 ≤ r9_4.toInt ∧ r9_4.toInt ≤ 1439) := hp9
    have g10 := rgI r9_4
    refine Sf_ite (fun h11 => ?_) (fun h11 => ?_)
    · skip
      have l12 : (1 : Int32).toInt = 1 := by decide
      have c13 := eqI h11
      exact Sf_some trivial
    · skip
      have l14 : (1 : Int32).toInt = 1 := by decide
      have c15 := neI h11
      refine Sf_cb1 (s_X4_greatestOf s_heights p2 r9_4 (by omega) (by omega)) (fun r28_13 hp16 => ?_)
      have g17 := rgI r28_13
      exact Sf_some trivial
set_option maxHeartbeats 4000000 in
set_option maxRecDepth 100000 in
theorem s_X4_markNumber_L7 (s_marked : Nat → Int32) (p1 : Int32) (K29 : Int32 → Option (Int32))  (hK29 : ∀ (a : Int32), (0 ≤ a.toInt) → (a.toInt ≤ 1439) → Sf (K29 a) (fun (y : Int32) => True)) : ∀ (n : Nat) (x3_13 : Int32) (x4_14 : Int32), (0 ≤ x4_14.toInt) → (x4_14.toInt ≤ 1440) → (1441 - x4_14.toInt < (n : Int)) → Sf (f_X4_markNumber_L7 s_marked p1 K29 n x3_13 x4_14) (fun (y : Int32) => True) := by
  have hFU : (100000 : Int) ≤ (FU : Int) := Int.ofNat_le.mpr FU_ge
  have g1 := rgI p1
  intro n
  induction n with
  | zero =>
    intro x3_13 x4_14 hi0 hi1 hm
    have g2 := rgI x3_13
    have g3 := rgI x4_14
    exact absurd hm (by omega)
  | succ n ih =>
    intro x3_13 x4_14 hi0 hi1 hm
    rw [f_X4_markNumber_L7]
    have g4 := rgI x3_13
    have g5 := rgI x4_14
    refine Sf_ite (fun h6 => ?_) (fun h6 => ?_)
    · skip
      have l7 : (1440 : Int32).toInt = 1440 := by decide
      have c8 := leI h6
      exact Sf_some trivial
    · skip
      have l9 : (1440 : Int32).toInt = 1440 := by decide
      have c10 := nleI h6
      refine Sf_cb1 (s_X4_beginsMark s_marked p1 x4_14 ) (fun r19_19 hp11 => ?_)
      have hp11 : ((r19_19.toInt = 0 ∨ r19_19.toInt = 1)) := hp11
      have g12 := rgI r19_19
      refine Sf_ite (fun h13 => ?_) (fun h13 => ?_)
      · skip
        have l14 : (0 : Int32).toInt = 0 := by decide
        have c15 := eqI h13
        refine Sf_nmI (fun v43_27 hv16 => ?_)
        have g17 := rgI (x4_14 + 1)
        first | have e18 := adN x4_14 1 (1) (by decide) (by omega) (by omega) | skip
        have q19 := eqI hv16
        exact ih x3_13 v43_27 (by omega) (by omega) (by omega)
      · skip
        have l20 : (0 : Int32).toInt = 0 := by decide
        have c21 := neI h13
        refine Sf_ite (fun h22 => ?_) (fun h22 => ?_)
        · skip
          have c23 := eqI h22
          exact hK29 x4_14 (by omega) (by omega)
        · skip
          have c24 := neI h22
          refine Sf_nmI (fun v40_34 hv25 => ?_)
          have g26 := rgI v40_34
          first | have q27 := (eqI hv25).trans (adN x3_13 (-1) (-1) (by decide) (by omega) (by omega)) | skip
          refine Sf_nmI (fun v43_38 hv28 => ?_)
          have g29 := rgI (x4_14 + 1)
          first | have e30 := adN x4_14 1 (1) (by decide) (by omega) (by omega) | skip
          have q31 := eqI hv28
          exact ih v40_34 v43_38 (by omega) (by omega) (by omega)
set_option maxHeartbeats 4000000 in
set_option maxRecDepth 100000 in
theorem s_X4_markNumber (s_heights : Nat → Int32) (s_marked : Nat → Int32) (p1 : Int32) (p2 : Int32)  : Sf (f_X4_markNumber s_heights s_marked p1 p2) (fun (y : Int32) => True) := by
  have g1 := rgI p1
  have g2 := rgI p2
  have hFU : (100000 : Int) ≤ (FU : Int) := Int.ofNat_le.mpr FU_ge
  rw [f_X4_markNumber]
  refine Sf_nmI (fun v3_1 hv3 => ?_)
  have l4 : (3 : Int32).toInt = 3 := by decide
  have g5 := rgI (p2 / 3)
  have d6 := dn_ p2 3 3 (by decide) (by decide)
  have q7 := eqI hv3
  have l8 : (0 : Int32).toInt = 0 := by decide
  refine s_X4_markNumber_L7 s_marked p1 (f_X4_markNumber_J29 s_heights s_marked p1 p2)  ?_ FU v3_1 0 (by omega) (by omega) (by omega)
  · intro z9 hk10 hk11
    have g12 := rgI z9
    have hk10 : 0 ≤ z9.toInt := hk10
    have hk11 : z9.toInt ≤ 1439 := hk11
    rw [f_X4_markNumber_J29]
    have g13 := rgI (jrem p2 3)
    have m14 := rm_ p2 3 (by decide)
    refine Sf_cb1 (s_X4_numberOf s_heights s_marked p1 z9 (jrem p2 3) (by omega) (by omega)) (fun r36_7 hp15 => ?_)
    have g16 := rgI r36_7
    exact Sf_some trivial
set_option maxHeartbeats 4000000 in
set_option maxRecDepth 100000 in
theorem s_X4_beginsPassed_L14 (s_marked : Nat → Int32) (p1 : Int32) (p2 : Int32)  : ∀ (n : Nat) (x4_10 : Int32), (0 ≤ x4_10.toInt) → (x4_10.toInt ≤ 1440) → (1441 - x4_10.toInt < (n : Int)) → Sf (f_X4_beginsPassed_L14 s_marked p1 p2 n x4_10) (fun (y : Int32) => ((y.toInt = 0 ∨ y.toInt = 1))) := by
  have hFU : (100000 : Int) ≤ (FU : Int) := Int.ofNat_le.mpr FU_ge
  have g1 := rgI p1
  have g2 := rgI p2
  intro n
  induction n with
  | zero =>
    intro x4_10 hi0 hi1 hm
    have g3 := rgI x4_10
    exact absurd hm (by omega)
  | succ n ih =>
    intro x4_10 hi0 hi1 hm
    rw [f_X4_beginsPassed_L14]
    have g4 := rgI x4_10
    refine Sf_ite (fun h5 => ?_) (fun h5 => ?_)
    · skip
      have l6 : (1440 : Int32).toInt = 1440 := by decide
      have c7 := leI h5
      have l8 : (1 : Int32).toInt = 1 := by decide
      refine Sf_some (show (((1 : Int32).toInt = 0 ∨ (1 : Int32).toInt = 1)) from ?_)
      (omega)
    · skip
      have l9 : (1440 : Int32).toInt = 1440 := by decide
      have c10 := nleI h5
      refine Sf_cb1 (s_X4_isMarked s_marked p2 x4_10 ) (fun r26_15 hp11 => ?_)
      have hp11 : ((r26_15.toInt = 0 ∨ r26_15.toInt = 1)) := hp11
      have g12 := rgI r26_15
      refine Sf_ite (fun h13 => ?_) (fun h13 => ?_)
      · skip
        have l14 : (0 : Int32).toInt = 0 := by decide
        have c15 := eqI h13
        have l16 : (1 : Int32).toInt = 1 := by decide
        refine Sf_some (show (((1 : Int32).toInt = 0 ∨ (1 : Int32).toInt = 1)) from ?_)
        (omega)
      · skip
        have l17 : (0 : Int32).toInt = 0 := by decide
        have c18 := neI h13
        refine Sf_cb1 (s_X4_isMarked s_marked p1 x4_10 ) (fun r36_24 hp19 => ?_)
        have hp19 : ((r36_24.toInt = 0 ∨ r36_24.toInt = 1)) := hp19
        have g20 := rgI r36_24
        refine Sf_ite (fun h21 => ?_) (fun h21 => ?_)
        · skip
          have c22 := eqI h21
          refine Sf_nmI (fun v44_32 hv23 => ?_)
          have g24 := rgI (x4_10 + 1)
          first | have e25 := adN x4_10 1 (1) (by decide) (by omega) (by omega) | skip
          have q26 := eqI hv23
          exact ih v44_32 (by omega) (by omega) (by omega)
        · skip
          have c27 := neI h21
          refine Sf_some (show (((0 : Int32).toInt = 0 ∨ (0 : Int32).toInt = 1)) from ?_)
          (omega)
set_option maxHeartbeats 4000000 in
set_option maxRecDepth 100000 in
theorem s_X4_beginsPassed (s_marked : Nat → Int32) (p1 : Int32) (p2 : Int32) (p3 : Int32) (hp0 : 0 ≤ p3.toInt) (hp1 : p3.toInt ≤ 1439) : Sf (f_X4_beginsPassed s_marked p1 p2 p3) (fun (y : Int32) => ((y.toInt = 0 ∨ y.toInt = 1))) := by
  have g1 := rgI p1
  have g2 := rgI p2
  have g3 := rgI p3
  have hFU : (100000 : Int) ≤ (FU : Int) := Int.ofNat_le.mpr FU_ge
  rw [f_X4_beginsPassed]
  refine Sf_cb1 (s_X4_beginsMark s_marked p2 p3 ) (fun r3_1 hp4 => ?_)
  have hp4 : ((r3_1.toInt = 0 ∨ r3_1.toInt = 1)) := hp4
  have g5 := rgI r3_1
  refine Sf_ite (fun h6 => ?_) (fun h6 => ?_)
  · skip
    have l7 : (0 : Int32).toInt = 0 := by decide
    have c8 := eqI h6
    refine Sf_some (show (((0 : Int32).toInt = 0 ∨ (0 : Int32).toInt = 1)) from ?_)
    (omega)
  · skip
    have l9 : (0 : Int32).toInt = 0 := by decide
    have c10 := neI h6
    refine s_X4_beginsPassed_L14 s_marked p1 p2   FU p3 (by omega) (by omega) (by omega)
set_option maxHeartbeats 4000000 in
set_option maxRecDepth 100000 in
theorem s_X4_passedMarks_L5 (s_marked : Nat → Int32) (p1 : Int32) (p2 : Int32)  : ∀ (n : Nat) (x3_3 : Int32) (x4_4 : Int32), (0 ≤ x4_4.toInt) → (x4_4.toInt ≤ 1440) → (1441 - x4_4.toInt < (n : Int)) → Sf (f_X4_passedMarks_L5 s_marked p1 p2 n x3_3 x4_4) (fun (y : Int32) => True) := by
  have hFU : (100000 : Int) ≤ (FU : Int) := Int.ofNat_le.mpr FU_ge
  have g1 := rgI p1
  have g2 := rgI p2
  intro n
  induction n with
  | zero =>
    intro x3_3 x4_4 hi0 hi1 hm
    have g3 := rgI x3_3
    have g4 := rgI x4_4
    exact absurd hm (by omega)
  | succ n ih =>
    intro x3_3 x4_4 hi0 hi1 hm
    rw [f_X4_passedMarks_L5]
    have g5 := rgI x3_3
    have g6 := rgI x4_4
    refine Sf_ite (fun h7 => ?_) (fun h7 => ?_)
    · skip
      have l8 : (1440 : Int32).toInt = 1440 := by decide
      have c9 := leI h7
      exact Sf_some trivial
    · skip
      have l10 : (1440 : Int32).toInt = 1440 := by decide
      have c11 := nleI h7
      refine Sf_cb1 (s_X4_beginsPassed s_marked p1 p2 x4_4 (by omega) (by omega)) (fun r19_9 hp12 => ?_)
      have hp12 : ((r19_9.toInt = 0 ∨ r19_9.toInt = 1)) := hp12
      have g13 := rgI r19_9
      refine Sf_ite (fun h14 => ?_) (fun h14 => ?_)
      · skip
        have l15 : (0 : Int32).toInt = 0 := by decide
        have c16 := eqI h14
        refine Sf_nmI (fun v31_17 hv17 => ?_)
        have g18 := rgI (x3_3 + 0)
        first | have e19 := adN x3_3 0 (0) (by decide) (by omega) (by omega) | skip
        have q20 := eqI hv17
        refine Sf_nmI (fun v32_21 hv21 => ?_)
        have g22 := rgI (x4_4 + 1)
        first | have e23 := adN x4_4 1 (1) (by decide) (by omega) (by omega) | skip
        have q24 := eqI hv21
        exact ih v31_17 v32_21 (by omega) (by omega) (by omega)
      · skip
        have l25 : (0 : Int32).toInt = 0 := by decide
        have c26 := neI h14
        refine Sf_nmI (fun v31_25 hv27 => ?_)
        have g28 := rgI (x3_3 + 1)
        first | have e29 := adN x3_3 1 (1) (by decide) (by omega) (by omega) | skip
        have q30 := eqI hv27
        refine Sf_nmI (fun v32_29 hv31 => ?_)
        have g32 := rgI (x4_4 + 1)
        first | have e33 := adN x4_4 1 (1) (by decide) (by omega) (by omega) | skip
        have q34 := eqI hv31
        exact ih v31_25 v32_29 (by omega) (by omega) (by omega)
set_option maxHeartbeats 4000000 in
set_option maxRecDepth 100000 in
theorem s_X4_passedMarks (s_marked : Nat → Int32) (p1 : Int32) (p2 : Int32)  : Sf (f_X4_passedMarks s_marked p1 p2) (fun (y : Int32) => True) := by
  have g1 := rgI p1
  have g2 := rgI p2
  have hFU : (100000 : Int) ≤ (FU : Int) := Int.ofNat_le.mpr FU_ge
  rw [f_X4_passedMarks]
  have l3 : (0 : Int32).toInt = 0 := by decide
  refine s_X4_passedMarks_L5 s_marked p1 p2   FU 0 0 (by omega) (by omega) (by omega)
set_option maxHeartbeats 4000000 in
set_option maxRecDepth 100000 in
theorem s_X4_firstPassed_L2 (s_marked : Nat → Int32) (p1 : Int32) (p2 : Int32)  : ∀ (n : Nat) (x3_2 : Int32), (0 ≤ x3_2.toInt) → (x3_2.toInt ≤ 1440) → (1441 - x3_2.toInt < (n : Int)) → Sf (f_X4_firstPassed_L2 s_marked p1 p2 n x3_2) (fun (y : Int32) => True) := by
  have hFU : (100000 : Int) ≤ (FU : Int) := Int.ofNat_le.mpr FU_ge
  have g1 := rgI p1
  have g2 := rgI p2
  intro n
  induction n with
  | zero =>
    intro x3_2 hi0 hi1 hm
    have g3 := rgI x3_2
    exact absurd hm (by omega)
  | succ n ih =>
    intro x3_2 hi0 hi1 hm
    rw [f_X4_firstPassed_L2]
    have g4 := rgI x3_2
    refine Sf_ite (fun h5 => ?_) (fun h5 => ?_)
    · skip
      have l6 : (1440 : Int32).toInt = 1440 := by decide
      have c7 := leI h5
      exact Sf_some trivial
    · skip
      have l8 : (1440 : Int32).toInt = 1440 := by decide
      have c9 := nleI h5
      refine Sf_cb1 (s_X4_beginsPassed s_marked p1 p2 x3_2 (by omega) (by omega)) (fun r13_7 hp10 => ?_)
      have hp10 : ((r13_7.toInt = 0 ∨ r13_7.toInt = 1)) := hp10
      have g11 := rgI r13_7
      refine Sf_ite (fun h12 => ?_) (fun h12 => ?_)
      · skip
        have l13 : (0 : Int32).toInt = 0 := by decide
        have c14 := eqI h12
        refine Sf_nmI (fun v21_15 hv15 => ?_)
        have g16 := rgI (x3_2 + 1)
        first | have e17 := adN x3_2 1 (1) (by decide) (by omega) (by omega) | skip
        have q18 := eqI hv15
        exact ih v21_15 (by omega) (by omega) (by omega)
      · skip
        have l19 : (0 : Int32).toInt = 0 := by decide
        have c20 := neI h12
        exact Sf_some trivial
set_option maxHeartbeats 4000000 in
set_option maxRecDepth 100000 in
theorem s_X4_firstPassed (s_marked : Nat → Int32) (p1 : Int32) (p2 : Int32)  : Sf (f_X4_firstPassed s_marked p1 p2) (fun (y : Int32) => True) := by
  have g1 := rgI p1
  have g2 := rgI p2
  have hFU : (100000 : Int) ≤ (FU : Int) := Int.ofNat_le.mpr FU_ge
  rw [f_X4_firstPassed]
  have l3 : (0 : Int32).toInt = 0 := by decide
  refine s_X4_firstPassed_L2 s_marked p1 p2   FU 0 (by omega) (by omega) (by omega)
set_option maxHeartbeats 4000000 in
set_option maxRecDepth 100000 in
theorem s_X4_firstWrong_L38 (s_p2_length : Int32) (s_p2_bytes : Nat → Int32) (s_heights : Nat → Int32) (s_marked : Nat → Int32) (p1 : Int32) (x5_10 : Int32) (K6 : Int32 → Int32 → Option (Int32)) (hp0 : s_p2_length.toInt ≤ 200) (hp1 : 0 ≤ x5_10.toInt) (hp2 : x5_10.toInt ≤ 1439) (hK6 : ∀ (a : Int32) (b : Int32), (b.toInt = x5_10.toInt + 1) → Sf (K6 a b) (fun (y : Int32) => True)) : ∀ (n : Nat) (x4_30 : Int32) (x6_31 : Int32), (0 ≤ x6_31.toInt) → (x6_31.toInt ≤ 3) → (4 - x6_31.toInt < (n : Int)) → Sf (f_X4_firstWrong_L38 s_p2_length s_p2_bytes s_heights s_marked p1 x5_10 K6 n x4_30 x6_31) (fun (y : Int32) => True) := by
  have hFU : (100000 : Int) ≤ (FU : Int) := Int.ofNat_le.mpr FU_ge
  have g1 := rgI s_p2_length
  have g2 := rgI p1
  have g3 := rgI x5_10
  intro n
  induction n with
  | zero =>
    intro x4_30 x6_31 hi0 hi1 hm
    have g4 := rgI x4_30
    have g5 := rgI x6_31
    exact absurd hm (by omega)
  | succ n ih =>
    intro x4_30 x6_31 hi0 hi1 hm
    rw [f_X4_firstWrong_L38]
    have g6 := rgI x4_30
    have g7 := rgI x6_31
    refine Sf_ite (fun h8 => ?_) (fun h8 => ?_)
    · skip
      have l9 : (3 : Int32).toInt = 3 := by decide
      have c10 := leI h8
      refine Sf_nmI (fun v74_35 hv11 => ?_)
      have g12 := rgI (x5_10 + 1)
      first | have e13 := adN x5_10 1 (1) (by decide) (by omega) (by omega) | skip
      have q14 := eqI hv11
      exact hK6 x4_30 v74_35 (by omega)
    · skip
      have l15 : (3 : Int32).toInt = 3 := by decide
      have c16 := nleI h8
      refine Sf_cb1 (s_X9_wordAt s_p2_length s_p2_bytes x4_30 (by omega)) (fun r47_39 hp17 => ?_)
      have g18 := rgI r47_39
      refine Sf_cb1 (s_X4_numberOf s_heights s_marked p1 x5_10 x6_31 (by omega) (by omega)) (fun r56_44 hp19 => ?_)
      have g20 := rgI r56_44
      refine Sf_ite (fun h21 => ?_) (fun h21 => ?_)
      · skip
        have c22 := eqI h21
        refine Sf_nmI (fun v65_52 hv23 => ?_)
        have g24 := rgI (x4_30 + 1)
        first | have e25 := adN x4_30 1 (1) (by decide) (by omega) (by omega) | skip
        have q26 := eqI hv23
        refine Sf_nmI (fun v68_56 hv27 => ?_)
        have g28 := rgI (x6_31 + 1)
        first | have e29 := adN x6_31 1 (1) (by decide) (by omega) (by omega) | skip
        have q30 := eqI hv27
        exact ih v65_52 v68_56 (by omega) (by omega) (by omega)
      · skip
        have c31 := neI h21
        exact Sf_some trivial
set_option maxHeartbeats 4000000 in
set_option maxRecDepth 100000 in
theorem s_X4_firstWrong_L6 (s_p2_length : Int32) (s_p2_bytes : Nat → Int32) (s_heights : Nat → Int32) (s_marked : Nat → Int32) (p1 : Int32) (p3 : Int32) (K80 : Int32 → Option (Int32)) (hp0 : s_p2_length.toInt ≤ 200) (hK80 : ∀ (a0 : Int32), Sf (K80 a0) (fun (y : Int32) => True)) : ∀ (n : Nat) (x4_9 : Int32) (x5_10 : Int32), (0 ≤ x5_10.toInt) → (x5_10.toInt ≤ 1440) → (1441 - x5_10.toInt < (n : Int)) → Sf (f_X4_firstWrong_L6 s_p2_length s_p2_bytes s_heights s_marked p1 p3 K80 n x4_9 x5_10) (fun (y : Int32) => True) := by
  have hFU : (100000 : Int) ≤ (FU : Int) := Int.ofNat_le.mpr FU_ge
  have g1 := rgI s_p2_length
  have g2 := rgI p1
  have g3 := rgI p3
  intro n
  induction n with
  | zero =>
    intro x4_9 x5_10 hi0 hi1 hm
    have g4 := rgI x4_9
    have g5 := rgI x5_10
    exact absurd hm (by omega)
  | succ n ih =>
    intro x4_9 x5_10 hi0 hi1 hm
    rw [f_X4_firstWrong_L6]
    have g6 := rgI x4_9
    have g7 := rgI x5_10
    refine Sf_ite (fun h8 => ?_) (fun h8 => ?_)
    · skip
      have l9 : (1440 : Int32).toInt = 1440 := by decide
      have c10 := leI h8
      exact hK80 x4_9 
    · skip
      have l11 : (1440 : Int32).toInt = 1440 := by decide
      have c12 := nleI h8
      refine Sf_cb1 (s_X4_beginsMark s_marked p1 x5_10 ) (fun r18_14 hp13 => ?_)
      have hp13 : ((r18_14.toInt = 0 ∨ r18_14.toInt = 1)) := hp13
      have g14 := rgI r18_14
      refine Sf_ite (fun h15 => ?_) (fun h15 => ?_)
      · skip
        have l16 : (0 : Int32).toInt = 0 := by decide
        have c17 := eqI h15
        refine Sf_nmI (fun v74_22 hv18 => ?_)
        have g19 := rgI (x5_10 + 1)
        first | have e20 := adN x5_10 1 (1) (by decide) (by omega) (by omega) | skip
        have q21 := eqI hv18
        exact ih x4_9 v74_22 (by omega) (by omega) (by omega)
      · skip
        have l22 : (0 : Int32).toInt = 0 := by decide
        have c23 := neI h15
        refine Sf_ite (fun h24 => ?_) (fun h24 => ?_)
        · skip
          have l25 : (3 : Int32).toInt = 3 := by decide
          have g26 := rgI (3 * p3)
          first | have e27 := mlY 3 p3 (3) (by decide) (by omega) (by omega) | skip
          have c28 := ltI h24
          refine s_X4_firstWrong_L38 s_p2_length s_p2_bytes s_heights s_marked p1 x5_10 (f_X4_firstWrong_L6 s_p2_length s_p2_bytes s_heights s_marked p1 p3 K80 n) (by omega) (by omega) (by omega) ?_ FU x4_9 0 (by omega) (by omega) (by omega)
          · intro z29 z30 hk31
            have g32 := rgI z29
            have g33 := rgI z30
            have hk31 : z30.toInt = x5_10.toInt + 1 := hk31
            exact ih z29 z30 (by omega) (by omega) (by omega)
        · skip
          have l34 : (3 : Int32).toInt = 3 := by decide
          have g35 := rgI (3 * p3)
          first | have e36 := mlY 3 p3 (3) (by decide) (by omega) (by omega) | skip
          have c37 := nltI h24
          exact Sf_some trivial
set_option maxHeartbeats 4000000 in
set_option maxRecDepth 100000 in
theorem s_X4_firstWrong (s_p2_length : Int32) (s_p2_bytes : Nat → Int32) (s_heights : Nat → Int32) (s_marked : Nat → Int32) (p1 : Int32) (p3 : Int32) (hp0 : s_p2_length.toInt ≤ 200) : Sf (f_X4_firstWrong s_p2_length s_p2_bytes s_heights s_marked p1 p3) (fun (y : Int32) => True) := by
  have g1 := rgI s_p2_length
  have g2 := rgI p1
  have g3 := rgI p3
  have hFU : (100000 : Int) ≤ (FU : Int) := Int.ofNat_le.mpr FU_ge
  rw [f_X4_firstWrong]
  have l4 : (0 : Int32).toInt = 0 := by decide
  refine s_X4_firstWrong_L6 s_p2_length s_p2_bytes s_heights s_marked p1 p3 (f_X4_firstWrong_J80 p3) (by omega) ?_ FU 0 0 (by omega) (by omega) (by omega)
  · intro z5
    have g6 := rgI z5
    rw [f_X4_firstWrong_J80]
    refine Sf_ite (fun h7 => ?_) (fun h7 => ?_)
    · skip
      have l8 : (3 : Int32).toInt = 3 := by decide
      have g9 := rgI (3 * p3)
      first | have e10 := mlY 3 p3 (3) (by decide) (by omega) (by omega) | skip
      have c11 := leI h7
      exact Sf_some trivial
    · skip
      have l12 : (3 : Int32).toInt = 3 := by decide
      have g13 := rgI (3 * p3)
      first | have e14 := mlY 3 p3 (3) (by decide) (by omega) (by omega) | skip
      have c15 := nleI h7
      exact Sf_some trivial
set_option maxHeartbeats 4000000 in
set_option maxRecDepth 100000 in
theorem s_X3_add (s_many : Int32) (s_days : Nat → Int32) (s_minutes : Nat → Int32) (s_shapes : Nat → Int32) (p1 : Int32) (p2 : Int32) (p3 : Int32) (hp0 : 0 ≤ s_many.toInt) (hp1 : s_many.toInt ≤ 40) : Sf (f_X3_add s_many s_days s_minutes s_shapes p1 p2 p3) (fun (y : Int32 × Int32 × (Nat → Int32) × (Nat → Int32) × (Nat → Int32)) => (0 ≤ (y.2.1).toInt ∧ (y.2.1).toInt ≤ 40)) := by
  have g1 := rgI s_many
  have g2 := rgI p1
  have g3 := rgI p2
  have g4 := rgI p3
  have hFU : (100000 : Int) ≤ (FU : Int) := Int.ofNat_le.mpr FU_ge
  rw [f_X3_add]
  refine Sf_ite (fun h5 => ?_) (fun h5 => ?_)
  · skip
    have l6 : (40 : Int32).toInt = 40 := by decide
    have c7 := leI h5
    have l8 : ((-1) : Int32).toInt = -1 := by decide
    refine Sf_some (show (0 ≤ s_many.toInt ∧ s_many.toInt ≤ 40) from ?_)
    (omega)
  · skip
    have l9 : (40 : Int32).toInt = 40 := by decide
    have c10 := nleI h5
    refine Sf_ite (fun h11 => ?_) (fun h11 => ?_)
    · skip
      have l12 : (0 : Int32).toInt = 0 := by decide
      have c13 := leI h11
      rw [f_X3_add_J33]
      refine Sf_wrI (by omega) (by omega) (fun g42_9 hw14 => ?_)
      refine Sf_wrI (by omega) (by omega) (fun g52_14 hw15 => ?_)
      refine Sf_wrI (by omega) (by omega) (fun g62_19 hw16 => ?_)
      refine Sf_nmI (fun v70_24 hv17 => ?_)
      have g18 := rgI (s_many + 1)
      first | have e19 := adN s_many 1 (1) (by decide) (by omega) (by omega) | skip
      have q20 := eqI hv17
      have g21 := rgI (v70_24 - 1)
      first | have e22 := sbN v70_24 1 (1) (by decide) (by omega) (by omega) | skip
      refine Sf_some (show (0 ≤ v70_24.toInt ∧ v70_24.toInt ≤ 40) from ?_)
      (omega)
    · skip
      have l23 : (0 : Int32).toInt = 0 := by decide
      have c24 := nleI h11
      have g25 := rgI (s_many - 1)
      first | have e26 := sbN s_many 1 (1) (by decide) (by omega) (by omega) | skip
      refine Sf_rdI (by omega) (by omega) (fun v27_36 hv27 => ?_)
      have g28 := rgI v27_36
      refine Sf_ite (fun h29 => ?_) (fun h29 => ?_)
      · skip
        have c30 := leI h29
        rw [f_X3_add_J33]
        refine Sf_wrI (by omega) (by omega) (fun g42_9 hw31 => ?_)
        refine Sf_wrI (by omega) (by omega) (fun g52_14 hw32 => ?_)
        refine Sf_wrI (by omega) (by omega) (fun g62_19 hw33 => ?_)
        refine Sf_nmI (fun v70_24 hv34 => ?_)
        have g35 := rgI (s_many + 1)
        first | have e36 := adN s_many 1 (1) (by decide) (by omega) (by omega) | skip
        have q37 := eqI hv34
        have g38 := rgI (v70_24 - 1)
        first | have e39 := sbN v70_24 1 (1) (by decide) (by omega) (by omega) | skip
        refine Sf_some (show (0 ≤ v70_24.toInt ∧ v70_24.toInt ≤ 40) from ?_)
        (omega)
      · skip
        have c40 := nleI h29
        have l41 : ((-1) : Int32).toInt = -1 := by decide
        refine Sf_some (show (0 ≤ s_many.toInt ∧ s_many.toInt ≤ 40) from ?_)
        (omega)
set_option maxHeartbeats 4000000 in
set_option maxRecDepth 100000 in
theorem s_X3_gather_L6 (s_many : Int32) (s_days : Nat → Int32) (s_minutes : Nat → Int32) (s_shapes : Nat → Int32) (p1 : Int32) (p2 : Int32) (p3 : Int32) (hp0 : 0 ≤ s_many.toInt) (hp1 : s_many.toInt ≤ 40) : ∀ (n : Nat) (x4_3 : Int32) (x5_4 : Int32) (gathered__5 : Nat → Int32), (0 ≤ x5_4.toInt) → (x5_4.toInt ≤ 40) → (0 ≤ x4_3.toInt) → (x4_3.toInt ≤ x5_4.toInt) → (41 - x5_4.toInt < (n : Int)) → Sf (f_X3_gather_L6 s_many s_days s_minutes s_shapes p1 p2 p3 n x4_3 x5_4 gathered__5) (fun (y : Int32 × (Nat → Int32)) => (0 ≤ (y.1).toInt ∧ (y.1).toInt ≤ 40)) := by
  have hFU : (100000 : Int) ≤ (FU : Int) := Int.ofNat_le.mpr FU_ge
  have g1 := rgI s_many
  have g2 := rgI p1
  have g3 := rgI p2
  have g4 := rgI p3
  intro n
  induction n with
  | zero =>
    intro x4_3 x5_4 gathered__5 hi0 hi1 hi2 hi3 hm
    have g5 := rgI x4_3
    have g6 := rgI x5_4
    exact absurd hm (by omega)
  | succ n ih =>
    intro x4_3 x5_4 gathered__5 hi0 hi1 hi2 hi3 hm
    rw [f_X3_gather_L6]
    have g7 := rgI x4_3
    have g8 := rgI x5_4
    refine Sf_ite (fun h9 => ?_) (fun h9 => ?_)
    · skip
      have c10 := leI h9
      refine Sf_some (show (0 ≤ x4_3.toInt ∧ x4_3.toInt ≤ 40) from ?_)
      (omega)
    · skip
      have c11 := nleI h9
      refine Sf_rdI (by omega) (by omega) (fun v21_11 hv12 => ?_)
      have g13 := rgI v21_11
      refine Sf_ite (fun h14 => ?_) (fun h14 => ?_)
      · skip
        have c15 := eqI h14
        refine Sf_rdI (by omega) (by omega) (fun v32_22 hv16 => ?_)
        have g17 := rgI v32_22
        refine Sf_ite (fun h18 => ?_) (fun h18 => ?_)
        · skip
          have c19 := ltI h18
          refine Sf_nmI (fun v78_29 hv20 => ?_)
          have g21 := rgI (x5_4 + 1)
          first | have e22 := adN x5_4 1 (1) (by decide) (by omega) (by omega) | skip
          have q23 := eqI hv20
          exact ih x4_3 v78_29 gathered__5 (by omega) (by omega) (by omega) (by omega) (by omega)
        · skip
          have c24 := nltI h18
          refine Sf_ite (fun h25 => ?_) (fun h25 => ?_)
          · skip
            have l26 : (0 : Int32).toInt = 0 := by decide
            have c27 := eqI h25
            refine Sf_rdI (by omega) (by omega) (fun v73_36 hv28 => ?_)
            have g29 := rgI v73_36
            refine Sf_wrI (by omega) (by omega) (fun g74_40 hw30 => ?_)
            refine Sf_nmI (fun v75_45 hv31 => ?_)
            have g32 := rgI (x4_3 + 1)
            first | have e33 := adN x4_3 1 (1) (by decide) (by omega) (by omega) | skip
            have q34 := eqI hv31
            refine Sf_nmI (fun v78_49 hv35 => ?_)
            have g36 := rgI (x5_4 + 1)
            first | have e37 := adN x5_4 1 (1) (by decide) (by omega) (by omega) | skip
            have q38 := eqI hv35
            exact ih v75_45 v78_49 g74_40 (by omega) (by omega) (by omega) (by omega) (by omega)
          · skip
            have l39 : (0 : Int32).toInt = 0 := by decide
            have c40 := neI h25
            refine Sf_rdI (by omega) (by omega) (fun v53_53 hv41 => ?_)
            have g42 := rgI v53_53
            refine Sf_rdI (by omega) (by omega) (fun v60_57 hv43 => ?_)
            have g44 := rgI v60_57
            refine Sf_cb1 (s_X11_starMinute v53_53 v60_57 ) (fun r61_61 hp45 => ?_)
            have g46 := rgI r61_61
            refine Sf_wrI (by omega) (by omega) (fun g74_66 hw47 => ?_)
            refine Sf_nmI (fun v75_71 hv48 => ?_)
            have g49 := rgI (x4_3 + 1)
            first | have e50 := adN x4_3 1 (1) (by decide) (by omega) (by omega) | skip
            have q51 := eqI hv48
            refine Sf_nmI (fun v78_75 hv52 => ?_)
            have g53 := rgI (x5_4 + 1)
            first | have e54 := adN x5_4 1 (1) (by decide) (by omega) (by omega) | skip
            have q55 := eqI hv52
            exact ih v75_71 v78_75 g74_66 (by omega) (by omega) (by omega) (by omega) (by omega)
      · skip
        have c56 := neI h14
        refine Sf_nmI (fun v78_18 hv57 => ?_)
        have g58 := rgI (x5_4 + 1)
        first | have e59 := adN x5_4 1 (1) (by decide) (by omega) (by omega) | skip
        have q60 := eqI hv57
        exact ih x4_3 v78_18 gathered__5 (by omega) (by omega) (by omega) (by omega) (by omega)
set_option maxHeartbeats 4000000 in
set_option maxRecDepth 100000 in
theorem s_X3_gather (s_many : Int32) (s_days : Nat → Int32) (s_gathered : Nat → Int32) (s_minutes : Nat → Int32) (s_shapes : Nat → Int32) (p1 : Int32) (p2 : Int32) (p3 : Int32) (hp0 : 0 ≤ s_many.toInt) (hp1 : s_many.toInt ≤ 40) : Sf (f_X3_gather s_many s_days s_gathered s_minutes s_shapes p1 p2 p3) (fun (y : Int32 × (Nat → Int32)) => (0 ≤ (y.1).toInt ∧ (y.1).toInt ≤ 40)) := by
  have g1 := rgI s_many
  have g2 := rgI p1
  have g3 := rgI p2
  have g4 := rgI p3
  have hFU : (100000 : Int) ≤ (FU : Int) := Int.ofNat_le.mpr FU_ge
  rw [f_X3_gather]
  have l5 : (0 : Int32).toInt = 0 := by decide
  refine s_X3_gather_L6 s_many s_days s_minutes s_shapes p1 p2 p3 (by omega) (by omega)  FU 0 0 s_gathered (by omega) (by omega) (by omega) (by omega) (by omega)
set_option maxHeartbeats 4000000 in
set_option maxRecDepth 100000 in
theorem s_X3_oneBy (s_many : Int32) (s_days : Nat → Int32) (s_gathered : Nat → Int32) (s_minutes : Nat → Int32) (s_shapes : Nat → Int32) (p1 : Int32) (p2 : Int32) (p3 : Int32) (hp0 : 0 ≤ s_many.toInt) (hp1 : s_many.toInt ≤ 40) : Sf (f_X3_oneBy s_many s_days s_gathered s_minutes s_shapes p1 p2 p3) (fun (y : Int32 × (Nat → Int32)) => True) := by
  have g1 := rgI s_many
  have g2 := rgI p1
  have g3 := rgI p2
  have g4 := rgI p3
  have hFU : (100000 : Int) ≤ (FU : Int) := Int.ofNat_le.mpr FU_ge
  rw [f_X3_oneBy]
  have l5 : (1 : Int32).toInt = 1 := by decide
  refine Sf_cb2 (s_X3_gather s_many s_days s_gathered s_minutes s_shapes p1 p3 1 (by omega) (by omega)) (fun r4_1 o_gathered4_2 hp6 => ?_)
  have hp6 : (0 ≤ r4_1.toInt ∧ r4_1.toInt ≤ 40) := hp6
  have g7 := rgI r4_1
  refine Sf_ite (fun h8 => ?_) (fun h8 => ?_)
  · skip
    have l9 : (2 : Int32).toInt = 2 := by decide
    have c10 := leI h8
    have l11 : (1440 : Int32).toInt = 1440 := by decide
    refine Sf_cb1 (s_X11_lieOnArc 40 o_gathered4_2 r4_1 1440 p2 (by omega) (by omega)) (fun r27_11 hp12 => ?_)
    have hp12 : ((r27_11.toInt = 0 ∨ r27_11.toInt = 1)) := hp12
    have g13 := rgI r27_11
    refine Sf_ite (fun h14 => ?_) (fun h14 => ?_)
    · skip
      have l15 : (0 : Int32).toInt = 0 := by decide
      have c16 := eqI h14
      rw [f_X3_oneBy_J38]
      refine Sf_cb2 (s_X3_gather s_many s_days o_gathered4_2 s_minutes s_shapes p1 p3 0 (by omega) (by omega)) (fun r44_18 o_gathered44_19 hp17 => ?_)
      have hp17 : (0 ≤ r44_18.toInt ∧ r44_18.toInt ≤ 40) := hp17
      have g18 := rgI r44_18
      refine Sf_cb1 (s_X11_lieOnArc 40 o_gathered44_19 r4_1 1440 p2 (by omega) (by omega)) (fun r58_24 hp19 => ?_)
      have hp19 : ((r58_24.toInt = 0 ∨ r58_24.toInt = 1)) := hp19
      have g20 := rgI r58_24
      refine Sf_ite (fun h21 => ?_) (fun h21 => ?_)
      · skip
        have c22 := eqI h21
        exact Sf_some trivial
      · skip
        have c23 := neI h21
        exact Sf_some trivial
    · skip
      have l24 : (0 : Int32).toInt = 0 := by decide
      have c25 := neI h14
      rw [f_X3_oneBy_J38]
      refine Sf_cb2 (s_X3_gather s_many s_days o_gathered4_2 s_minutes s_shapes p1 p3 0 (by omega) (by omega)) (fun r44_18 o_gathered44_19 hp26 => ?_)
      have hp26 : (0 ≤ r44_18.toInt ∧ r44_18.toInt ≤ 40) := hp26
      have g27 := rgI r44_18
      refine Sf_cb1 (s_X11_lieOnArc 40 o_gathered44_19 r4_1 1440 p2 (by omega) (by omega)) (fun r58_24 hp28 => ?_)
      have hp28 : ((r58_24.toInt = 0 ∨ r58_24.toInt = 1)) := hp28
      have g29 := rgI r58_24
      refine Sf_ite (fun h30 => ?_) (fun h30 => ?_)
      · skip
        have c31 := eqI h30
        exact Sf_some trivial
      · skip
        have c32 := neI h30
        exact Sf_some trivial
  · skip
    have l33 : (2 : Int32).toInt = 2 := by decide
    have c34 := nleI h8
    exact Sf_some trivial
set_option maxHeartbeats 4000000 in
set_option maxRecDepth 100000 in
theorem s_X3_knownDay_L2 (s_many : Int32) (s_days : Nat → Int32) (s_minutes : Nat → Int32) (s_shapes : Nat → Int32) (p1 : Int32) (p2 : Int32) (hp0 : 0 ≤ s_many.toInt) (hp1 : s_many.toInt ≤ 40) : ∀ (n : Nat) (x3_2 : Int32) (gathered__3 : Nat → Int32), (0 ≤ x3_2.toInt) → (x3_2.toInt ≤ 40) → (41 - x3_2.toInt < (n : Int)) → Sf (f_X3_knownDay_L2 s_many s_days s_minutes s_shapes p1 p2 n x3_2 gathered__3) (fun (y : Int32 × (Nat → Int32)) => True) := by
  have hFU : (100000 : Int) ≤ (FU : Int) := Int.ofNat_le.mpr FU_ge
  have g1 := rgI s_many
  have g2 := rgI p1
  have g3 := rgI p2
  intro n
  induction n with
  | zero =>
    intro x3_2 gathered__3 hi0 hi1 hm
    have g4 := rgI x3_2
    exact absurd hm (by omega)
  | succ n ih =>
    intro x3_2 gathered__3 hi0 hi1 hm
    rw [f_X3_knownDay_L2]
    have g5 := rgI x3_2
    refine Sf_ite (fun h6 => ?_) (fun h6 => ?_)
    · skip
      have c7 := leI h6
      exact Sf_some trivial
    · skip
      have c8 := nleI h6
      refine Sf_rdI (by omega) (by omega) (fun v15_9 hv9 => ?_)
      have g10 := rgI v15_9
      refine Sf_ite (fun h11 => ?_) (fun h11 => ?_)
      · skip
        have c12 := eqI h11
        refine Sf_rdI (by omega) (by omega) (fun v28_20 hv13 => ?_)
        have g14 := rgI v28_20
        refine Sf_cb2 (s_X3_oneBy s_many s_days gathered__3 s_minutes s_shapes p1 p2 v28_20 (by omega) (by omega)) (fun r29_24 o_gathered29_25 hp15 => ?_)
        have g16 := rgI r29_24
        refine Sf_ite (fun h17 => ?_) (fun h17 => ?_)
        · skip
          have l18 : (1 : Int32).toInt = 1 := by decide
          have c19 := eqI h17
          refine Sf_rdI (by omega) (by omega) (fun v51_34 hv20 => ?_)
          have g21 := rgI v51_34
          exact Sf_some trivial
        · skip
          have l22 : (1 : Int32).toInt = 1 := by decide
          have c23 := neI h17
          refine Sf_ite (fun h24 => ?_) (fun h24 => ?_)
          · skip
            have l25 : (2 : Int32).toInt = 2 := by decide
            have c26 := eqI h24
            refine Sf_rdI (by omega) (by omega) (fun v51_47 hv27 => ?_)
            have g28 := rgI v51_47
            exact Sf_some trivial
          · skip
            have l29 : (2 : Int32).toInt = 2 := by decide
            have c30 := neI h24
            refine Sf_nmI (fun v53_43 hv31 => ?_)
            have g32 := rgI (x3_2 + 1)
            first | have e33 := adN x3_2 1 (1) (by decide) (by omega) (by omega) | skip
            have q34 := eqI hv31
            exact ih v53_43 o_gathered29_25 (by omega) (by omega) (by omega)
      · skip
        have c35 := neI h11
        refine Sf_nmI (fun v53_16 hv36 => ?_)
        have g37 := rgI (x3_2 + 1)
        first | have e38 := adN x3_2 1 (1) (by decide) (by omega) (by omega) | skip
        have q39 := eqI hv36
        exact ih v53_16 gathered__3 (by omega) (by omega) (by omega)
set_option maxHeartbeats 4000000 in
set_option maxRecDepth 100000 in
theorem s_X3_knownDay (s_many : Int32) (s_days : Nat → Int32) (s_gathered : Nat → Int32) (s_minutes : Nat → Int32) (s_shapes : Nat → Int32) (p1 : Int32) (p2 : Int32) (hp0 : 0 ≤ s_many.toInt) (hp1 : s_many.toInt ≤ 40) : Sf (f_X3_knownDay s_many s_days s_gathered s_minutes s_shapes p1 p2) (fun (y : Int32 × (Nat → Int32)) => True) := by
  have g1 := rgI s_many
  have g2 := rgI p1
  have g3 := rgI p2
  have hFU : (100000 : Int) ≤ (FU : Int) := Int.ofNat_le.mpr FU_ge
  rw [f_X3_knownDay]
  have l4 : (0 : Int32).toInt = 0 := by decide
  refine s_X3_knownDay_L2 s_many s_days s_minutes s_shapes p1 p2 (by omega) (by omega)  FU 0 s_gathered (by omega) (by omega) (by omega)
set_option maxHeartbeats 4000000 in
set_option maxRecDepth 100000 in
theorem s_X3_rowFrom_L6 (s_gathered : Nat → Int32) (p1 : Int32) (p2 : Int32) (p3 : Int32) (hp0 : 0 ≤ p2.toInt) (hp1 : p2.toInt ≤ 40) : ∀ (n : Nat) (x4_3 : Int32) (x5_4 : Int32), (0 ≤ x5_4.toInt) → (x5_4.toInt ≤ 40) → (41 - x5_4.toInt < (n : Int)) → Sf (f_X3_rowFrom_L6 s_gathered p1 p2 p3 n x4_3 x5_4) (fun (y : Int32) => True) := by
  have hFU : (100000 : Int) ≤ (FU : Int) := Int.ofNat_le.mpr FU_ge
  have g1 := rgI p1
  have g2 := rgI p2
  have g3 := rgI p3
  intro n
  induction n with
  | zero =>
    intro x4_3 x5_4 hi0 hi1 hm
    have g4 := rgI x4_3
    have g5 := rgI x5_4
    exact absurd hm (by omega)
  | succ n ih =>
    intro x4_3 x5_4 hi0 hi1 hm
    rw [f_X3_rowFrom_L6]
    have g6 := rgI x4_3
    have g7 := rgI x5_4
    refine Sf_ite (fun h8 => ?_) (fun h8 => ?_)
    · skip
      have c9 := leI h8
      exact Sf_some trivial
    · skip
      have c10 := nleI h8
      refine Sf_rdI (by omega) (by omega) (fun v20_9 hv11 => ?_)
      have g12 := rgI v20_9
      have g13 := rgI (v20_9 - p1)
      first | have e14 := sbX v20_9 p1 (by omega) (by omega) | skip
      have l15 : (1440 : Int32).toInt = 1440 := by decide
      refine Sf_cb1 (s_J9_floorMod_7cf53 (v20_9 - p1) 1440 (by omega)) (fun r26_13 hp16 => ?_)
      have hp16 : (0 ≤ r26_13.toInt ∧ r26_13.toInt < 1440) := hp16
      have g17 := rgI r26_13
      refine Sf_ite (fun h18 => ?_) (fun h18 => ?_)
      · skip
        have c19 := ltI h18
        refine Sf_nmI (fun v39_21 hv20 => ?_)
        have g21 := rgI (x4_3 + 0)
        first | have e22 := adN x4_3 0 (0) (by decide) (by omega) (by omega) | skip
        have q23 := eqI hv20
        refine Sf_nmI (fun v41_25 hv24 => ?_)
        have g25 := rgI (x5_4 + 1)
        first | have e26 := adN x5_4 1 (1) (by decide) (by omega) (by omega) | skip
        have q27 := eqI hv24
        exact ih v39_21 v41_25 (by omega) (by omega) (by omega)
      · skip
        have c28 := nltI h18
        refine Sf_nmI (fun v39_29 hv29 => ?_)
        have g30 := rgI (x4_3 + 1)
        first | have e31 := adN x4_3 1 (1) (by decide) (by omega) (by omega) | skip
        have q32 := eqI hv29
        refine Sf_nmI (fun v41_33 hv33 => ?_)
        have g34 := rgI (x5_4 + 1)
        first | have e35 := adN x5_4 1 (1) (by decide) (by omega) (by omega) | skip
        have q36 := eqI hv33
        exact ih v39_29 v41_33 (by omega) (by omega) (by omega)
set_option maxHeartbeats 4000000 in
set_option maxRecDepth 100000 in
theorem s_X3_rowFrom (s_gathered : Nat → Int32) (p1 : Int32) (p2 : Int32) (p3 : Int32) (hp0 : 0 ≤ p2.toInt) (hp1 : p2.toInt ≤ 40) : Sf (f_X3_rowFrom s_gathered p1 p2 p3) (fun (y : Int32) => True) := by
  have g1 := rgI p1
  have g2 := rgI p2
  have g3 := rgI p3
  have hFU : (100000 : Int) ≤ (FU : Int) := Int.ofNat_le.mpr FU_ge
  rw [f_X3_rowFrom]
  have l4 : (0 : Int32).toInt = 0 := by decide
  refine s_X3_rowFrom_L6 s_gathered p1 p2 p3 (by omega) (by omega)  FU 0 0 (by omega) (by omega) (by omega)
set_option maxHeartbeats 4000000 in
set_option maxRecDepth 100000 in
theorem s_X3_longestRow_L20 (p2 : Int32) (r6_1 : Int32) (o_gathered6_2 : Nat → Int32) (K88 : Int32 → Int32 → Option (Int32 × (Nat → Int32))) (hp0 : 0 ≤ r6_1.toInt) (hp1 : r6_1.toInt ≤ 40) (hK88 : ∀ (a0 : Int32) (a1 : Int32), Sf (K88 a0 a1) (fun (y : Int32 × (Nat → Int32)) => True)) : ∀ (n : Nat) (x5_25 : Int32) (x6_26 : Int32) (x7_27 : Int32), (0 ≤ x7_27.toInt) → (x7_27.toInt ≤ 40) → (41 - x7_27.toInt < (n : Int)) → Sf (f_X3_longestRow_L20 p2 r6_1 o_gathered6_2 K88 n x5_25 x6_26 x7_27) (fun (y : Int32 × (Nat → Int32)) => True) := by
  have hFU : (100000 : Int) ≤ (FU : Int) := Int.ofNat_le.mpr FU_ge
  have g1 := rgI p2
  have g2 := rgI r6_1
  intro n
  induction n with
  | zero =>
    intro x5_25 x6_26 x7_27 hi0 hi1 hm
    have g3 := rgI x5_25
    have g4 := rgI x6_26
    have g5 := rgI x7_27
    exact absurd hm (by omega)
  | succ n ih =>
    intro x5_25 x6_26 x7_27 hi0 hi1 hm
    rw [f_X3_longestRow_L20]
    have g6 := rgI x5_25
    have g7 := rgI x6_26
    have g8 := rgI x7_27
    refine Sf_ite (fun h9 => ?_) (fun h9 => ?_)
    · skip
      have c10 := leI h9
      exact hK88 x5_25 x6_26 
    · skip
      have c11 := nleI h9
      refine Sf_rdI (by omega) (by omega) (fun v34_31 hv12 => ?_)
      have g13 := rgI v34_31
      refine Sf_cb1 (s_X3_rowFrom o_gathered6_2 v34_31 r6_1 p2 (by omega) (by omega)) (fun r38_35 hp14 => ?_)
      have g15 := rgI r38_35
      refine Sf_ite (fun h16 => ?_) (fun h16 => ?_)
      · skip
        have c17 := ltI h16
        rw [f_X3_longestRow_J69]
        refine Sf_rdI (by omega) (by omega) (fun v79_43 hv18 => ?_)
        have g19 := rgI v79_43
        refine Sf_nmI (fun v82_48 hv20 => ?_)
        have g21 := rgI (x7_27 + 1)
        first | have e22 := adN x7_27 1 (1) (by decide) (by omega) (by omega) | skip
        have q23 := eqI hv20
        exact ih r38_35 v79_43 v82_48 (by omega) (by omega) (by omega)
      · skip
        have c24 := nltI h16
        refine Sf_ite (fun h25 => ?_) (fun h25 => ?_)
        · skip
          have c26 := eqI h25
          refine Sf_rdI (by omega) (by omega) (fun v63_62 hv27 => ?_)
          have g28 := rgI v63_62
          refine Sf_ite (fun h29 => ?_) (fun h29 => ?_)
          · skip
            have c30 := leI h29
            refine Sf_nmI (fun v82_69 hv31 => ?_)
            have g32 := rgI (x7_27 + 1)
            first | have e33 := adN x7_27 1 (1) (by decide) (by omega) (by omega) | skip
            have q34 := eqI hv31
            exact ih x5_25 x6_26 v82_69 (by omega) (by omega) (by omega)
          · skip
            have c35 := nleI h29
            rw [f_X3_longestRow_J69]
            refine Sf_rdI (by omega) (by omega) (fun v79_43 hv36 => ?_)
            have g37 := rgI v79_43
            refine Sf_nmI (fun v82_48 hv38 => ?_)
            have g39 := rgI (x7_27 + 1)
            first | have e40 := adN x7_27 1 (1) (by decide) (by omega) (by omega) | skip
            have q41 := eqI hv38
            exact ih r38_35 v79_43 v82_48 (by omega) (by omega) (by omega)
        · skip
          have c42 := neI h25
          refine Sf_nmI (fun v82_58 hv43 => ?_)
          have g44 := rgI (x7_27 + 1)
          first | have e45 := adN x7_27 1 (1) (by decide) (by omega) (by omega) | skip
          have q46 := eqI hv43
          exact ih x5_25 x6_26 v82_58 (by omega) (by omega) (by omega)
set_option maxHeartbeats 4000000 in
set_option maxRecDepth 100000 in
theorem s_X3_longestRow (s_many : Int32) (s_days : Nat → Int32) (s_gathered : Nat → Int32) (s_minutes : Nat → Int32) (s_shapes : Nat → Int32) (p1 : Int32) (p2 : Int32) (p3 : Int32) (hp0 : 0 ≤ s_many.toInt) (hp1 : s_many.toInt ≤ 40) : Sf (f_X3_longestRow s_many s_days s_gathered s_minutes s_shapes p1 p2 p3) (fun (y : Int32 × (Nat → Int32)) => True) := by
  have g1 := rgI s_many
  have g2 := rgI p1
  have g3 := rgI p2
  have g4 := rgI p3
  have hFU : (100000 : Int) ≤ (FU : Int) := Int.ofNat_le.mpr FU_ge
  rw [f_X3_longestRow]
  have l5 : (400 : Int32).toInt = 400 := by decide
  have l6 : (1 : Int32).toInt = 1 := by decide
  refine Sf_cb2 (s_X3_gather s_many s_days s_gathered s_minutes s_shapes p1 400 1 (by omega) (by omega)) (fun r6_1 o_gathered6_2 hp7 => ?_)
  have hp7 : (0 ≤ r6_1.toInt ∧ r6_1.toInt ≤ 40) := hp7
  have g8 := rgI r6_1
  have l9 : (0 : Int32).toInt = 0 := by decide
  have l10 : ((-1) : Int32).toInt = -1 := by decide
  refine s_X3_longestRow_L20 p2 r6_1 o_gathered6_2 (f_X3_longestRow_J88 p3 r6_1 o_gathered6_2) (by omega) (by omega) ?_ FU 0 (-1) 0 (by omega) (by omega) (by omega)
  · intro z11 z12
    have g13 := rgI z11
    have g14 := rgI z12
    rw [f_X3_longestRow_J88]
    refine Sf_ite (fun h15 => ?_) (fun h15 => ?_)
    · skip
      have c16 := eqI h15
      refine Sf_ite (fun h17 => ?_) (fun h17 => ?_)
      · skip
        have c18 := leI h17
        exact Sf_some trivial
      · skip
        have c19 := nleI h17
        exact Sf_some trivial
    · skip
      have c20 := neI h15
      exact Sf_some trivial
set_option maxHeartbeats 4000000 in
set_option maxRecDepth 100000 in
theorem s_X0_add (s_many : Int32) (s_times : Nat → Int32) (p1 : Int32) (hp0 : 0 ≤ s_many.toInt) (hp1 : s_many.toInt ≤ 40) : Sf (f_X0_add s_many s_times p1) (fun (y : Int32 × Int32 × (Nat → Int32)) => (0 ≤ (y.2.1).toInt ∧ (y.2.1).toInt ≤ 40)) := by
  have g1 := rgI s_many
  have g2 := rgI p1
  have hFU : (100000 : Int) ≤ (FU : Int) := Int.ofNat_le.mpr FU_ge
  rw [f_X0_add]
  refine Sf_ite (fun h3 => ?_) (fun h3 => ?_)
  · skip
    have l4 : (40 : Int32).toInt = 40 := by decide
    have c5 := leI h3
    have l6 : ((-1) : Int32).toInt = -1 := by decide
    refine Sf_some (show (0 ≤ s_many.toInt ∧ s_many.toInt ≤ 40) from ?_)
    (omega)
  · skip
    have l7 : (40 : Int32).toInt = 40 := by decide
    have c8 := nleI h3
    refine Sf_ite (fun h9 => ?_) (fun h9 => ?_)
    · skip
      have l10 : (0 : Int32).toInt = 0 := by decide
      have c11 := leI h9
      rw [f_X0_add_J33]
      refine Sf_wrI (by omega) (by omega) (fun g42_7 hw12 => ?_)
      refine Sf_nmI (fun v50_12 hv13 => ?_)
      have g14 := rgI (s_many + 1)
      first | have e15 := adN s_many 1 (1) (by decide) (by omega) (by omega) | skip
      have q16 := eqI hv13
      have g17 := rgI (v50_12 - 1)
      first | have e18 := sbN v50_12 1 (1) (by decide) (by omega) (by omega) | skip
      refine Sf_some (show (0 ≤ v50_12.toInt ∧ v50_12.toInt ≤ 40) from ?_)
      (omega)
    · skip
      have l19 : (0 : Int32).toInt = 0 := by decide
      have c20 := nleI h9
      have g21 := rgI (s_many - 1)
      first | have e22 := sbN s_many 1 (1) (by decide) (by omega) (by omega) | skip
      refine Sf_rdI (by omega) (by omega) (fun v27_22 hv23 => ?_)
      have g24 := rgI v27_22
      refine Sf_ite (fun h25 => ?_) (fun h25 => ?_)
      · skip
        have c26 := ltI h25
        rw [f_X0_add_J33]
        refine Sf_wrI (by omega) (by omega) (fun g42_7 hw27 => ?_)
        refine Sf_nmI (fun v50_12 hv28 => ?_)
        have g29 := rgI (s_many + 1)
        first | have e30 := adN s_many 1 (1) (by decide) (by omega) (by omega) | skip
        have q31 := eqI hv28
        have g32 := rgI (v50_12 - 1)
        first | have e33 := sbN v50_12 1 (1) (by decide) (by omega) (by omega) | skip
        refine Sf_some (show (0 ≤ v50_12.toInt ∧ v50_12.toInt ≤ 40) from ?_)
        (omega)
      · skip
        have c34 := nltI h25
        have l35 : ((-1) : Int32).toInt = -1 := by decide
        refine Sf_some (show (0 ≤ s_many.toInt ∧ s_many.toInt ≤ 40) from ?_)
        (omega)
set_option maxHeartbeats 4000000 in
set_option maxRecDepth 100000 in
theorem s_X0_fitTo_L9 (s_many : Int32) (s_times : Nat → Int32) (p1 : Int32) (K37 : (Nat → Int32) → Option (Int32 × (Nat → Int32))) (hp0 : 0 ≤ s_many.toInt) (hp1 : s_many.toInt ≤ 40) (hp2 : 1 ≤ p1.toInt) (hK37 : ∀ (a0 : Nat → Int32), Sf (K37 a0) (fun (y : Int32 × (Nat → Int32)) => (((y.1).toInt = 0 ∨ (y.1).toInt = 1)))) : ∀ (n : Nat) (x3_15 : Int32) (rests__16 : Nat → Int32), (0 ≤ x3_15.toInt) → (x3_15.toInt ≤ 40) → (41 - x3_15.toInt < (n : Int)) → Sf (f_X0_fitTo_L9 s_many s_times p1 K37 n x3_15 rests__16) (fun (y : Int32 × (Nat → Int32)) => (((y.1).toInt = 0 ∨ (y.1).toInt = 1))) := by
  have hFU : (100000 : Int) ≤ (FU : Int) := Int.ofNat_le.mpr FU_ge
  have g1 := rgI s_many
  have g2 := rgI p1
  intro n
  induction n with
  | zero =>
    intro x3_15 rests__16 hi0 hi1 hm
    have g3 := rgI x3_15
    exact absurd hm (by omega)
  | succ n ih =>
    intro x3_15 rests__16 hi0 hi1 hm
    rw [f_X0_fitTo_L9]
    have g4 := rgI x3_15
    refine Sf_ite (fun h5 => ?_) (fun h5 => ?_)
    · skip
      have c6 := leI h5
      exact hK37 rests__16 
    · skip
      have c7 := nleI h5
      refine Sf_rdI (by omega) (by omega) (fun v27_20 hv8 => ?_)
      have g9 := rgI v27_20
      refine Sf_dvI (by omega) ?_
      refine Sf_nmI (fun v30_26 hv10 => ?_)
      have g11 := rgI (jrem v27_20 p1)
      have m12 := rm_ v27_20 p1 (by omega)
      have q13 := eqI hv10
      refine Sf_wrI (by omega) (by omega) (fun g30_29 hw14 => ?_)
      refine Sf_nmI (fun v31_34 hv15 => ?_)
      have g16 := rgI (x3_15 + 1)
      first | have e17 := adN x3_15 1 (1) (by decide) (by omega) (by omega) | skip
      have q18 := eqI hv15
      exact ih v31_34 g30_29 (by omega) (by omega) (by omega)
set_option maxHeartbeats 4000000 in
set_option maxRecDepth 100000 in
theorem s_X0_fitTo (s_many : Int32) (s_rests : Nat → Int32) (s_times : Nat → Int32) (p1 : Int32) (p2 : Int32) (hp0 : 0 ≤ s_many.toInt) (hp1 : s_many.toInt ≤ 40) : Sf (f_X0_fitTo s_many s_rests s_times p1 p2) (fun (y : Int32 × (Nat → Int32)) => (((y.1).toInt = 0 ∨ (y.1).toInt = 1))) := by
  have g1 := rgI s_many
  have g2 := rgI p1
  have g3 := rgI p2
  have hFU : (100000 : Int) ≤ (FU : Int) := Int.ofNat_le.mpr FU_ge
  rw [f_X0_fitTo]
  refine Sf_ite (fun h4 => ?_) (fun h4 => ?_)
  · skip
    have l5 : (1 : Int32).toInt = 1 := by decide
    have c6 := leI h4
    have l7 : (0 : Int32).toInt = 0 := by decide
    refine s_X0_fitTo_L9 s_many s_times p1 (f_X0_fitTo_J37 s_many p1 p2) (by omega) (by omega) (by omega) ?_ FU 0 s_rests (by omega) (by omega) (by omega)
    · intro z8
      rw [f_X0_fitTo_J37]
      have l9 : (2 : Int32).toInt = 2 := by decide
      have g10 := rgI (2 * p2)
      first | have e11 := mlY 2 p2 (2) (by decide) (by omega) (by omega) | skip
      refine Sf_cb1 (s_X11_lieOnArc 40 z8 s_many p1 (2 * p2) (by omega) (by omega)) (fun r49_6 hp12 => ?_)
      have hp12 : ((r49_6.toInt = 0 ∨ r49_6.toInt = 1)) := hp12
      have g13 := rgI r49_6
      refine Sf_bo (by omega) ?_
      refine Sf_some (show ((r49_6.toInt = 0 ∨ r49_6.toInt = 1)) from ?_)
      (omega)
  · skip
    have l14 : (1 : Int32).toInt = 1 := by decide
    have c15 := nleI h4
    have l16 : (0 : Int32).toInt = 0 := by decide
    refine Sf_some (show (((0 : Int32).toInt = 0 ∨ (0 : Int32).toInt = 1)) from ?_)
    (omega)
set_option maxHeartbeats 4000000 in
set_option maxRecDepth 100000 in
theorem s_X0_scan_L18 (s_many : Int32) (s_times : Nat → Int32) (p2 : Int32) (p3 : Int32) (hp0 : 0 ≤ s_many.toInt) (hp1 : s_many.toInt ≤ 40) (hp2 : p2.toInt ≤ 1000000) : ∀ (n : Nat) (x4_5 : Int32) (fitting__6 : Int32) (greatest__7 : Int32) (least__8 : Int32) (rests__9 : Nat → Int32), (0 ≤ x4_5.toInt) → (x4_5.toInt ≤ p2.toInt + 1) → (p2.toInt ≤ x4_5.toInt + 2000) → (p2.toInt - x4_5.toInt + 2 < (n : Int)) → Sf (f_X0_scan_L18 s_many s_times p2 p3 n x4_5 fitting__6 greatest__7 least__8 rests__9) (fun (y : Int32 × Int32 × Int32 × (Nat → Int32)) => True) := by
  have hFU : (100000 : Int) ≤ (FU : Int) := Int.ofNat_le.mpr FU_ge
  have g1 := rgI s_many
  have g2 := rgI p2
  have g3 := rgI p3
  intro n
  induction n with
  | zero =>
    intro x4_5 fitting__6 greatest__7 least__8 rests__9 hi0 hi1 hi2 hm
    have g4 := rgI x4_5
    have g5 := rgI fitting__6
    have g6 := rgI greatest__7
    have g7 := rgI least__8
    exact absurd hm (by omega)
  | succ n ih =>
    intro x4_5 fitting__6 greatest__7 least__8 rests__9 hi0 hi1 hi2 hm
    rw [f_X0_scan_L18]
    have g8 := rgI x4_5
    have g9 := rgI fitting__6
    have g10 := rgI greatest__7
    have g11 := rgI least__8
    refine Sf_ite (fun h12 => ?_) (fun h12 => ?_)
    · skip
      have c13 := ltI h12
      exact Sf_some trivial
    · skip
      have c14 := nltI h12
      refine Sf_cb2 (s_X0_fitTo s_many rests__9 s_times x4_5 p3 (by omega) (by omega)) (fun r28_17 o_rests28_18 hp15 => ?_)
      have hp15 : ((r28_17.toInt = 0 ∨ r28_17.toInt = 1)) := hp15
      have g16 := rgI r28_17
      refine Sf_ite (fun h17 => ?_) (fun h17 => ?_)
      · skip
        have l18 : (0 : Int32).toInt = 0 := by decide
        have c19 := eqI h17
        refine Sf_nmI (fun v70_26 hv20 => ?_)
        have g21 := rgI (x4_5 + 1)
        first | have e22 := adN x4_5 1 (1) (by decide) (by omega) (by omega) | skip
        have q23 := eqI hv20
        exact ih v70_26 fitting__6 greatest__7 least__8 o_rests28_18 (by omega) (by omega) (by omega) (by omega)
      · skip
        have l24 : (0 : Int32).toInt = 0 := by decide
        have c25 := neI h17
        refine Sf_ite (fun h26 => ?_) (fun h26 => ?_)
        · skip
          have c27 := eqI h26
          rw [f_X0_scan_J51]
          refine Sf_nmI (fun v67_33 hv28 => ?_)
          have g29 := rgI (fitting__6 + 1)
          first | have e30 := adN fitting__6 1 (1) (by decide) (by omega) (by omega) | skip
          have q31 := eqI hv28
          refine Sf_nmI (fun v70_37 hv32 => ?_)
          have g33 := rgI (x4_5 + 1)
          first | have e34 := adN x4_5 1 (1) (by decide) (by omega) (by omega) | skip
          have q35 := eqI hv32
          exact ih v70_37 v67_33 x4_5 x4_5 o_rests28_18 (by omega) (by omega) (by omega) (by omega)
        · skip
          have c36 := neI h26
          rw [f_X0_scan_J51]
          refine Sf_nmI (fun v67_33 hv37 => ?_)
          have g38 := rgI (fitting__6 + 1)
          first | have e39 := adN fitting__6 1 (1) (by decide) (by omega) (by omega) | skip
          have q40 := eqI hv37
          refine Sf_nmI (fun v70_37 hv41 => ?_)
          have g42 := rgI (x4_5 + 1)
          first | have e43 := adN x4_5 1 (1) (by decide) (by omega) (by omega) | skip
          have q44 := eqI hv41
          exact ih v70_37 v67_33 x4_5 least__8 o_rests28_18 (by omega) (by omega) (by omega) (by omega)
set_option maxHeartbeats 4000000 in
set_option maxRecDepth 100000 in
theorem s_X0_scan (s_many : Int32) (s_fitting : Int32) (s_least : Int32) (s_greatest : Int32) (s_rests : Nat → Int32) (s_times : Nat → Int32) (p1 : Int32) (p2 : Int32) (p3 : Int32) (hp0 : 0 ≤ s_many.toInt) (hp1 : s_many.toInt ≤ 40) (hp2 : p2.toInt ≤ 1000000) (hp3 : 1 ≤ p1.toInt) (hp4 : p1.toInt ≤ p2.toInt) (hp5 : p2.toInt ≤ p1.toInt + 2000) : Sf (f_X0_scan s_many s_fitting s_least s_greatest s_rests s_times p1 p2 p3) (fun (y : Int32 × Int32 × Int32 × (Nat → Int32)) => True) := by
  have g1 := rgI s_many
  have g2 := rgI s_fitting
  have g3 := rgI s_least
  have g4 := rgI s_greatest
  have g5 := rgI p1
  have g6 := rgI p2
  have g7 := rgI p3
  have hFU : (100000 : Int) ≤ (FU : Int) := Int.ofNat_le.mpr FU_ge
  rw [f_X0_scan]
  have l8 : (0 : Int32).toInt = 0 := by decide
  have l9 : ((-1) : Int32).toInt = -1 := by decide
  refine s_X0_scan_L18 s_many s_times p2 p3 (by omega) (by omega) (by omega)  FU p1 0 (-1) (-1) s_rests (by omega) (by omega) (by omega) (by omega)
set_option maxHeartbeats 4000000 in
set_option maxRecDepth 100000 in
theorem s_X0_beatsTo (s_times : Nat → Int32) (p1 : Int32) (p2 : Int32) (hp0 : 0 ≤ p1.toInt) (hp1 : p1.toInt < 40) : Sf (f_X0_beatsTo s_times p1 p2) (fun (y : Int32) => True) := by
  have g1 := rgI p1
  have g2 := rgI p2
  have hFU : (100000 : Int) ≤ (FU : Int) := Int.ofNat_le.mpr FU_ge
  rw [f_X0_beatsTo]
  refine Sf_ite (fun h3 => ?_) (fun h3 => ?_)
  · skip
    have l4 : (1 : Int32).toInt = 1 := by decide
    have c5 := leI h3
    refine Sf_rdI (by omega) (by omega) (fun v15_4 hv6 => ?_)
    have g7 := rgI v15_4
    have l8 : (0 : Int32).toInt = 0 := by decide
    refine Sf_rdI (by omega) (by omega) (fun v21_8 hv9 => ?_)
    have g10 := rgI v21_8
    refine Sf_nmL (fun v25_12 hv11 => ?_)
    refine Sf_dvL (by exact dl_ p2 (by omega)) ?_
    exact Sf_some trivial
  · skip
    have l12 : (1 : Int32).toInt = 1 := by decide
    have c13 := nleI h3
    exact Sf_some trivial
set_option maxHeartbeats 4000000 in
set_option maxRecDepth 100000 in
theorem s_X0_countAlike_L2 (s_many : Int32) (s_times : Nat → Int32) (p1 : Int32) (p2 : Int32) (hp0 : 0 ≤ s_many.toInt) (hp1 : s_many.toInt ≤ 40) : ∀ (n : Nat) (x3_2 : Int32), (0 ≤ x3_2.toInt) → (x3_2.toInt ≤ 40) → (41 - x3_2.toInt < (n : Int)) → Sf (f_X0_countAlike_L2 s_many s_times p1 p2 n x3_2) (fun (y : Int32) => ((y.toInt = 0 ∨ y.toInt = 1))) := by
  have hFU : (100000 : Int) ≤ (FU : Int) := Int.ofNat_le.mpr FU_ge
  have g1 := rgI s_many
  have g2 := rgI p1
  have g3 := rgI p2
  intro n
  induction n with
  | zero =>
    intro x3_2 hi0 hi1 hm
    have g4 := rgI x3_2
    exact absurd hm (by omega)
  | succ n ih =>
    intro x3_2 hi0 hi1 hm
    rw [f_X0_countAlike_L2]
    have g5 := rgI x3_2
    refine Sf_ite (fun h6 => ?_) (fun h6 => ?_)
    · skip
      have c7 := leI h6
      have l8 : (1 : Int32).toInt = 1 := by decide
      refine Sf_some (show (((1 : Int32).toInt = 0 ∨ (1 : Int32).toInt = 1)) from ?_)
      (omega)
    · skip
      have c9 := nleI h6
      refine Sf_cb1 (s_X0_beatsTo s_times x3_2 p1 (by omega) (by omega)) (fun r13_7 hp10 => ?_)
      have g11 := rgI r13_7
      refine Sf_cb1 (s_X0_beatsTo s_times x3_2 p2 (by omega) (by omega)) (fun r19_12 hp12 => ?_)
      have g13 := rgI r19_12
      refine Sf_ite (fun h14 => ?_) (fun h14 => ?_)
      · skip
        have c15 := eqI h14
        refine Sf_nmI (fun v27_20 hv16 => ?_)
        have g17 := rgI (x3_2 + 1)
        first | have e18 := adN x3_2 1 (1) (by decide) (by omega) (by omega) | skip
        have q19 := eqI hv16
        exact ih v27_20 (by omega) (by omega) (by omega)
      · skip
        have c20 := neI h14
        have l21 : (0 : Int32).toInt = 0 := by decide
        refine Sf_some (show (((0 : Int32).toInt = 0 ∨ (0 : Int32).toInt = 1)) from ?_)
        (omega)
set_option maxHeartbeats 4000000 in
set_option maxRecDepth 100000 in
theorem s_X0_countAlike (s_many : Int32) (s_times : Nat → Int32) (p1 : Int32) (p2 : Int32) (hp0 : 0 ≤ s_many.toInt) (hp1 : s_many.toInt ≤ 40) : Sf (f_X0_countAlike s_many s_times p1 p2) (fun (y : Int32) => ((y.toInt = 0 ∨ y.toInt = 1))) := by
  have g1 := rgI s_many
  have g2 := rgI p1
  have g3 := rgI p2
  have hFU : (100000 : Int) ≤ (FU : Int) := Int.ofNat_le.mpr FU_ge
  rw [f_X0_countAlike]
  have l4 : (0 : Int32).toInt = 0 := by decide
  refine s_X0_countAlike_L2 s_many s_times p1 p2 (by omega) (by omega)  FU 0 (by omega) (by omega) (by omega)
set_option maxHeartbeats 4000000 in
set_option maxRecDepth 100000 in
theorem s_X0_beatsTillLost (s_least : Int32) (s_greatest : Int32)  : Sf (f_X0_beatsTillLost s_least s_greatest) (fun (y : Int32) => True) := by
  have g1 := rgI s_least
  have g2 := rgI s_greatest
  have hFU : (100000 : Int) ≤ (FU : Int) := Int.ofNat_le.mpr FU_ge
  rw [f_X0_beatsTillLost]
  refine Sf_nmI (fun v11_1 hv3 => ?_)
  have l4 : (2 : Int32).toInt = 2 := by decide
  have g5 := rgI (s_greatest - s_least)
  first | have e6 := sbX s_greatest s_least (by omega) (by omega) | skip
  have g7 := rgI (2 * (s_greatest - s_least))
  first | have e8 := mlY 2 (s_greatest - s_least) (2) (by decide) (by omega) (by omega) | skip
  have q9 := eqI hv3
  refine Sf_ite (fun h10 => ?_) (fun h10 => ?_)
  · skip
    have l11 : (0 : Int32).toInt = 0 := by decide
    have c12 := ltI h10
    refine Sf_dvI (by omega) ?_
    exact Sf_some trivial
  · skip
    have l13 : (0 : Int32).toInt = 0 := by decide
    have c14 := nltI h10
    exact Sf_some trivial
set_option maxHeartbeats 4000000 in
set_option maxRecDepth 100000 in
theorem s_X2_add (s_many : Int32) (s_days : Nat → Int32) (s_shifts : Nat → Int32) (p1 : Int32) (p2 : Int32) (hp0 : 0 ≤ s_many.toInt) (hp1 : s_many.toInt ≤ 30) : Sf (f_X2_add s_many s_days s_shifts p1 p2) (fun (y : Int32 × Int32 × (Nat → Int32) × (Nat → Int32)) => (0 ≤ (y.2.1).toInt ∧ (y.2.1).toInt ≤ 30)) := by
  have g1 := rgI s_many
  have g2 := rgI p1
  have g3 := rgI p2
  have hFU : (100000 : Int) ≤ (FU : Int) := Int.ofNat_le.mpr FU_ge
  rw [f_X2_add]
  refine Sf_ite (fun h4 => ?_) (fun h4 => ?_)
  · skip
    have l5 : (30 : Int32).toInt = 30 := by decide
    have c6 := ltI h4
    refine Sf_wrI (by omega) (by omega) (fun g20_4 hw7 => ?_)
    refine Sf_wrI (by omega) (by omega) (fun g30_9 hw8 => ?_)
    refine Sf_nmI (fun v38_14 hv9 => ?_)
    have g10 := rgI (s_many + 1)
    first | have e11 := adN s_many 1 (1) (by decide) (by omega) (by omega) | skip
    have q12 := eqI hv9
    have g13 := rgI (v38_14 - 1)
    first | have e14 := sbN v38_14 1 (1) (by decide) (by omega) (by omega) | skip
    refine Sf_some (show (0 ≤ v38_14.toInt ∧ v38_14.toInt ≤ 30) from ?_)
    (omega)
  · skip
    have l15 : (30 : Int32).toInt = 30 := by decide
    have c16 := nltI h4
    have l17 : ((-1) : Int32).toInt = -1 := by decide
    refine Sf_some (show (0 ≤ s_many.toInt ∧ s_many.toInt ≤ 30) from ?_)
    (omega)
set_option maxHeartbeats 4000000 in
set_option maxRecDepth 100000 in
theorem s_X2_shiftBy (n_p1_code : Nat) (n_p1_middles : Nat) (n_p1_starts : Nat) (s_p1_code : Nat → Int32) (s_p1_middles : Nat → Int32) (s_p1_starts : Nat → Int32) (s_days : Nat → Int32) (s_reckoner_letters : Nat → Int32) (s_reckoner_values : Nat → Int32) (p2 : Int32) (hp0 : n_p1_code ≤ 120) (hp1 : 1 ≤ n_p1_middles) (hp2 : 1 ≤ n_p1_starts) (hp3 : ∀ j, 0 ≤ (s_p1_middles j).toInt ∧ (s_p1_middles j).toInt ≤ 120) (hp4 : ∀ j, 0 ≤ (s_p1_starts j).toInt ∧ (s_p1_starts j).toInt ≤ 120) (hp5 : 0 ≤ p2.toInt) (hp6 : p2.toInt < 30) : Sf (f_X2_shiftBy n_p1_code n_p1_middles n_p1_starts s_p1_code s_p1_middles s_p1_starts s_days s_reckoner_letters s_reckoner_values p2) (fun (y : Int32 × (Nat → Int32) × (Nat → Int32)) => True) := by
  have g1 := rgI p2
  have hFU : (100000 : Int) ≤ (FU : Int) := Int.ofNat_le.mpr FU_ge
  rw [f_X2_shiftBy]
  refine Sf_rdI (by omega) (by omega) (fun v14_1 hv2 => ?_)
  have g3 := rgI v14_1
  have l4 : (100 : Int32).toInt = 100 := by decide
  refine Sf_wrI (by omega) (by omega) (fun g15_5 hw5 => ?_)
  have l6 : (110 : Int32).toInt = 110 := by decide
  refine Sf_wrI (by omega) (by omega) (fun g26_10 hw7 => ?_)
  have l8 : (0 : Int32).toInt = 0 := by decide
  refine Sf_cb2 (s_X5_worth n_p1_code n_p1_middles n_p1_starts s_p1_code s_p1_middles s_p1_starts g26_10 s_reckoner_values 0 (by omega) (by omega) (by omega) (by omega) (by assumption) (by assumption)) (fun r33_15 o_values33_16 hp9 => ?_)
  have g10 := rgI r33_15
  exact Sf_some trivial
set_option maxHeartbeats 4000000 in
set_option maxRecDepth 100000 in
theorem s_X2_fallOf_L2 (s_many : Int32) (n_p1_code : Nat) (s_p1_code : Nat → Int32) (n_p1_middles : Nat) (s_p1_middles : Nat → Int32) (n_p1_starts : Nat) (s_p1_starts : Nat → Int32) (s_days : Nat → Int32) (s_shifts : Nat → Int32) (p2 : Int32) (hp0 : n_p1_code ≤ 120) (hp1 : 1 ≤ n_p1_middles) (hp2 : 1 ≤ n_p1_starts) (hp3 : ∀ j, 0 ≤ (s_p1_middles j).toInt ∧ (s_p1_middles j).toInt ≤ 120) (hp4 : ∀ j, 0 ≤ (s_p1_starts j).toInt ∧ (s_p1_starts j).toInt ≤ 120) (hp5 : 0 ≤ s_many.toInt) (hp6 : s_many.toInt ≤ 30) : ∀ (n : Nat) (x3_2 : Int32) (reckoner_letters__3 : Nat → Int32) (reckoner_values__4 : Nat → Int32), (0 ≤ x3_2.toInt) → (x3_2.toInt ≤ 30) → (31 - x3_2.toInt < (n : Int)) → Sf (f_X2_fallOf_L2 s_many n_p1_code s_p1_code n_p1_middles s_p1_middles n_p1_starts s_p1_starts s_days s_shifts p2 n x3_2 reckoner_letters__3 reckoner_values__4) (fun (y : Int32 × (Nat → Int32) × (Nat → Int32)) => True) := by
  have hFU : (100000 : Int) ≤ (FU : Int) := Int.ofNat_le.mpr FU_ge
  have g1 := rgI s_many
  have g2 := rgI p2
  intro n
  induction n with
  | zero =>
    intro x3_2 reckoner_letters__3 reckoner_values__4 hi0 hi1 hm
    have g3 := rgI x3_2
    exact absurd hm (by omega)
  | succ n ih =>
    intro x3_2 reckoner_letters__3 reckoner_values__4 hi0 hi1 hm
    rw [f_X2_fallOf_L2]
    have g4 := rgI x3_2
    refine Sf_ite (fun h5 => ?_) (fun h5 => ?_)
    · skip
      have c6 := leI h5
      exact Sf_some trivial
    · skip
      have c7 := nleI h5
      refine Sf_cb3 (s_X2_shiftBy n_p1_code n_p1_middles n_p1_starts s_p1_code s_p1_middles s_p1_starts s_days reckoner_letters__3 reckoner_values__4 x3_2 (by omega) (by omega) (by omega) (by assumption) (by assumption) (by omega) (by omega)) (fun r13_11 o_reckoner_letters13_12 o_reckoner_values13_13 hp8 => ?_)
      have g9 := rgI r13_11
      refine Sf_rdI (by omega) (by omega) (fun v22_18 hv10 => ?_)
      have g11 := rgI v22_18
      refine Sf_ite (fun h12 => ?_) (fun h12 => ?_)
      · skip
        refine Sf_nmI (fun v36_25 hv13 => ?_)
        have g14 := rgI (x3_2 + 1)
        first | have e15 := adN x3_2 1 (1) (by decide) (by omega) (by omega) | skip
        have q16 := eqI hv13
        exact ih v36_25 o_reckoner_letters13_12 o_reckoner_values13_13 (by omega) (by omega) (by omega)
      · skip
        exact Sf_some trivial
set_option maxHeartbeats 4000000 in
set_option maxRecDepth 100000 in
theorem s_X2_fallOf (n_p1_code : Nat) (n_p1_middles : Nat) (n_p1_starts : Nat) (s_many : Int32) (s_p1_code : Nat → Int32) (s_p1_middles : Nat → Int32) (s_p1_starts : Nat → Int32) (s_days : Nat → Int32) (s_shifts : Nat → Int32) (s_reckoner_letters : Nat → Int32) (s_reckoner_values : Nat → Int32) (p2 : Int32) (hp0 : n_p1_code ≤ 120) (hp1 : 1 ≤ n_p1_middles) (hp2 : 1 ≤ n_p1_starts) (hp3 : ∀ j, 0 ≤ (s_p1_middles j).toInt ∧ (s_p1_middles j).toInt ≤ 120) (hp4 : ∀ j, 0 ≤ (s_p1_starts j).toInt ∧ (s_p1_starts j).toInt ≤ 120) (hp5 : 0 ≤ s_many.toInt) (hp6 : s_many.toInt ≤ 30) : Sf (f_X2_fallOf n_p1_code n_p1_middles n_p1_starts s_many s_p1_code s_p1_middles s_p1_starts s_days s_shifts s_reckoner_letters s_reckoner_values p2) (fun (y : Int32 × (Nat → Int32) × (Nat → Int32)) => True) := by
  have g1 := rgI s_many
  have g2 := rgI p2
  have hFU : (100000 : Int) ≤ (FU : Int) := Int.ofNat_le.mpr FU_ge
  rw [f_X2_fallOf]
  have l3 : (0 : Int32).toInt = 0 := by decide
  refine s_X2_fallOf_L2 s_many n_p1_code s_p1_code n_p1_middles s_p1_middles n_p1_starts s_p1_starts s_days s_shifts p2 (by omega) (by omega) (by omega) (by assumption) (by assumption) (by omega) (by omega)  FU 0 s_reckoner_letters s_reckoner_values (by omega) (by omega) (by omega)
set_option maxHeartbeats 4000000 in
set_option maxRecDepth 100000 in
theorem s_X2_waveAt (p1 : Int32) (p2 : Int32)  : Sf (f_X2_waveAt p1 p2) (fun (y : Int32) => True) := by
  have g1 := rgI p1
  have g2 := rgI p2
  have hFU : (100000 : Int) ≤ (FU : Int) := Int.ofNat_le.mpr FU_ge
  rw [f_X2_waveAt]
  refine Sf_ite (fun h3 => ?_) (fun h3 => ?_)
  · skip
    have l4 : (1 : Int32).toInt = 1 := by decide
    have c5 := leI h3
    refine Sf_dvI (by omega) ?_
    refine Sf_nmI (fun v14_6 hv6 => ?_)
    have l7 : (4000 : Int32).toInt = 4000 := by decide
    have g8 := rgI (4000 * p1)
    first | have e9 := mlY 4000 p1 (4000) (by decide) (by omega) (by omega) | skip
    have q10 := eqI hv6
    refine Sf_ite (fun h11 => ?_) (fun h11 => ?_)
    · skip
      have l12 : (4 : Int32).toInt = 4 := by decide
      have g13 := rgI (4 * p1)
      first | have e14 := mlY 4 p1 (4) (by decide) (by omega) (by omega) | skip
      obtain ⟨kk15, e16⟩ := ml4 p1
      have c17 := leI h11
      refine Sf_ite (fun h18 => ?_) (fun h18 => ?_)
      · skip
        have l19 : (3 : Int32).toInt = 3 := by decide
        have g20 := rgI (3 * p2)
        first | have e21 := mlY 3 p2 (3) (by decide) (by omega) (by omega) | skip
        have c22 := leI h18
        exact Sf_some trivial
      · skip
        have l23 : (3 : Int32).toInt = 3 := by decide
        have g24 := rgI (3 * p2)
        first | have e25 := mlY 3 p2 (3) (by decide) (by omega) (by omega) | skip
        have c26 := nleI h18
        exact Sf_some trivial
    · skip
      have l27 : (4 : Int32).toInt = 4 := by decide
      have g28 := rgI (4 * p1)
      first | have e29 := mlY 4 p1 (4) (by decide) (by omega) (by omega) | skip
      obtain ⟨kk30, e31⟩ := ml4 p1
      have c32 := nleI h11
      exact Sf_some trivial
  · skip
    have l33 : (1 : Int32).toInt = 1 := by decide
    have c34 := nleI h3
    exact Sf_some trivial
set_option maxHeartbeats 4000000 in
set_option maxRecDepth 100000 in
theorem s_X2_greatestSize_L11 (s_many : Int32) (s_days : Nat → Int32) (s_shifts : Nat → Int32) (p1 : Int32) (p2 : Int32) (p3 : Int32) (K165 : Int32 → Int32 → Option (Int32)) (hp0 : 0 ≤ s_many.toInt) (hp1 : s_many.toInt ≤ 30) (hK165 : ∀ (a0 : Int32) (a1 : Int32), Sf (K165 a0 a1) (fun (y : Int32) => True)) : ∀ (n : Nat) (x4_11 : Int32) (x5_12 : Int32) (x6_13 : Int32), (0 ≤ x6_13.toInt) → (x6_13.toInt ≤ 30) → (31 - x6_13.toInt < (n : Int)) → Sf (f_X2_greatestSize_L11 s_many s_days s_shifts p1 p2 p3 K165 n x4_11 x5_12 x6_13) (fun (y : Int32) => True) := by
  have hFU : (100000 : Int) ≤ (FU : Int) := Int.ofNat_le.mpr FU_ge
  have g1 := rgI s_many
  have g2 := rgI p1
  have g3 := rgI p2
  have g4 := rgI p3
  intro n
  induction n with
  | zero =>
    intro x4_11 x5_12 x6_13 hi0 hi1 hm
    have g5 := rgI x4_11
    have g6 := rgI x5_12
    have g7 := rgI x6_13
    exact absurd hm (by omega)
  | succ n ih =>
    intro x4_11 x5_12 x6_13 hi0 hi1 hm
    rw [f_X2_greatestSize_L11]
    have g8 := rgI x4_11
    have g9 := rgI x5_12
    have g10 := rgI x6_13
    refine Sf_ite (fun h11 => ?_) (fun h11 => ?_)
    · skip
      have c12 := leI h11
      exact hK165 x4_11 x5_12 
    · skip
      have c13 := nleI h11
      refine Sf_ite (fun h14 => ?_) (fun h14 => ?_)
      · skip
        have l15 : (0 : Int32).toInt = 0 := by decide
        have c16 := leI h14
        exact hK165 x4_11 x5_12 
      · skip
        have l17 : (0 : Int32).toInt = 0 := by decide
        have c18 := nleI h14
        refine Sf_rdI (by omega) (by omega) (fun v30_20 hv19 => ?_)
        have g20 := rgI v30_20
        refine Sf_dvI (by omega) ?_
        have g21 := rgI (v30_20 + p2)
        first | have e22 := adX v30_20 p2 (by omega) (by omega) | skip
        have g23 := rgI (jrem (v30_20 + p2) p1)
        have m24 := rm_ (v30_20 + p2) p1 (by omega)
        refine Sf_cb1 (s_X2_waveAt (jrem (v30_20 + p2) p1) p1 ) (fun r36_26 hp25 => ?_)
        have g26 := rgI r36_26
        refine Sf_ite (fun h27 => ?_) (fun h27 => ?_)
        · skip
          have c28 := leI h27
          refine Sf_rdI (by omega) (by omega) (fun v63_91 hv29 => ?_)
          have g30 := rgI v63_91
          rw [f_X2_greatestSize_J64]
          refine Sf_nmI (fun v70_34 hv31 => ?_)
          have g32 := rgI (v63_91 - p3)
          first | have e33 := sbX v63_91 p3 (by omega) (by omega) | skip
          have q34 := eqI hv31
          refine Sf_nmI (fun v76_38 hv35 => ?_)
          have g36 := rgI (v63_91 + p3)
          first | have e37 := adX v63_91 p3 (by omega) (by omega) | skip
          have q38 := eqI hv35
          refine Sf_nmI (fun v83_42 hv39 => ?_)
          have g40 := rgI (jabs r36_26)
          have q41 := eqI hv39
          refine Sf_ite (fun h42 => ?_) (fun h42 => ?_)
          · skip
            have c43 := ltI h42
            exact Sf_some trivial
          · skip
            have c44 := nltI h42
            refine Sf_ite (fun h45 => ?_) (fun h45 => ?_)
            · skip
              have c46 := eqI h45
              refine Sf_ite (fun h47 => ?_) (fun h47 => ?_)
              · skip
                have c48 := leI h47
                rw [f_X2_greatestSize_J103]
                refine Sf_ite (fun h49 => ?_) (fun h49 => ?_)
                · skip
                  have c50 := leI h49
                  refine Sf_nmI (fun v159_53 hv51 => ?_)
                  have g52 := rgI (x6_13 + 1)
                  first | have e53 := adN x6_13 1 (1) (by decide) (by omega) (by omega) | skip
                  have q54 := eqI hv51
                  exact ih x4_11 x5_12 v159_53 (by omega) (by omega) (by omega)
                · skip
                  have c55 := nleI h49
                  refine Sf_dvI (by omega) ?_
                  refine Sf_nmI (fun v126_59 hv56 => ?_)
                  have g57 := rgI (v76_38 + 1)
                  first | have e58 := adN v76_38 1 (1) (by decide) (by omega) (by omega) | skip
                  have l59 : (1000 : Int32).toInt = 1000 := by decide
                  have g60 := rgI ((v76_38 + 1) * 1000)
                  first | have e61 := mlX (v76_38 + 1) 1000 (1000) (by decide) (by omega) (by omega) | skip
                  have g62 := rgI (((v76_38 + 1) * 1000) - 1)
                  first | have e63 := sbN ((v76_38 + 1) * 1000) 1 (1) (by decide) (by omega) (by omega) | skip
                  have g64 := rgI (jmin x5_12 ((((v76_38 + 1) * 1000) - 1) / v83_42))
                  have m65 := jmin_ x5_12 ((((v76_38 + 1) * 1000) - 1) / v83_42)
                  have q66 := eqI hv56
                  refine Sf_ite (fun h67 => ?_) (fun h67 => ?_)
                  · skip
                    have c68 := ltI h67
                    refine Sf_dvI (by omega) ?_
                    refine Sf_nmI (fun v157_68 hv69 => ?_)
                    have g70 := rgI (v70_34 * 1000)
                    first | have e71 := mlX v70_34 1000 (1000) (by decide) (by omega) (by omega) | skip
                    have g72 := rgI ((v70_34 * 1000) + v83_42)
                    first | have e73 := adX (v70_34 * 1000) v83_42 (by omega) (by omega) | skip
                    have g74 := rgI (((v70_34 * 1000) + v83_42) - 1)
                    first | have e75 := sbN ((v70_34 * 1000) + v83_42) 1 (1) (by decide) (by omega) (by omega) | skip
                    have g76 := rgI (jmax x4_11 ((((v70_34 * 1000) + v83_42) - 1) / v83_42))
                    have m77 := jmax_ x4_11 ((((v70_34 * 1000) + v83_42) - 1) / v83_42)
                    have q78 := eqI hv69
                    refine Sf_nmI (fun v159_72 hv79 => ?_)
                    have g80 := rgI (x6_13 + 1)
                    first | have e81 := adN x6_13 1 (1) (by decide) (by omega) (by omega) | skip
                    have q82 := eqI hv79
                    exact ih v157_68 v126_59 v159_72 (by omega) (by omega) (by omega)
                  · skip
                    have c83 := nltI h67
                    refine Sf_nmI (fun v159_77 hv84 => ?_)
                    have g85 := rgI (x6_13 + 1)
                    first | have e86 := adN x6_13 1 (1) (by decide) (by omega) (by omega) | skip
                    have q87 := eqI hv84
                    exact ih x4_11 v126_59 v159_77 (by omega) (by omega) (by omega)
              · skip
                have c88 := nleI h47
                exact Sf_some trivial
            · skip
              have c89 := neI h45
              rw [f_X2_greatestSize_J103]
              refine Sf_ite (fun h90 => ?_) (fun h90 => ?_)
              · skip
                have c91 := leI h90
                refine Sf_nmI (fun v159_53 hv92 => ?_)
                have g93 := rgI (x6_13 + 1)
                first | have e94 := adN x6_13 1 (1) (by decide) (by omega) (by omega) | skip
                have q95 := eqI hv92
                exact ih x4_11 x5_12 v159_53 (by omega) (by omega) (by omega)
              · skip
                have c96 := nleI h90
                refine Sf_dvI (by omega) ?_
                refine Sf_nmI (fun v126_59 hv97 => ?_)
                have g98 := rgI (v76_38 + 1)
                first | have e99 := adN v76_38 1 (1) (by decide) (by omega) (by omega) | skip
                have l100 : (1000 : Int32).toInt = 1000 := by decide
                have g101 := rgI ((v76_38 + 1) * 1000)
                first | have e102 := mlX (v76_38 + 1) 1000 (1000) (by decide) (by omega) (by omega) | skip
                have g103 := rgI (((v76_38 + 1) * 1000) - 1)
                first | have e104 := sbN ((v76_38 + 1) * 1000) 1 (1) (by decide) (by omega) (by omega) | skip
                have g105 := rgI (jmin x5_12 ((((v76_38 + 1) * 1000) - 1) / v83_42))
                have m106 := jmin_ x5_12 ((((v76_38 + 1) * 1000) - 1) / v83_42)
                have q107 := eqI hv97
                refine Sf_ite (fun h108 => ?_) (fun h108 => ?_)
                · skip
                  have c109 := ltI h108
                  refine Sf_dvI (by omega) ?_
                  refine Sf_nmI (fun v157_68 hv110 => ?_)
                  have g111 := rgI (v70_34 * 1000)
                  first | have e112 := mlX v70_34 1000 (1000) (by decide) (by omega) (by omega) | skip
                  have g113 := rgI ((v70_34 * 1000) + v83_42)
                  first | have e114 := adX (v70_34 * 1000) v83_42 (by omega) (by omega) | skip
                  have g115 := rgI (((v70_34 * 1000) + v83_42) - 1)
                  first | have e116 := sbN ((v70_34 * 1000) + v83_42) 1 (1) (by decide) (by omega) (by omega) | skip
                  have g117 := rgI (jmax x4_11 ((((v70_34 * 1000) + v83_42) - 1) / v83_42))
                  have m118 := jmax_ x4_11 ((((v70_34 * 1000) + v83_42) - 1) / v83_42)
                  have q119 := eqI hv110
                  refine Sf_nmI (fun v159_72 hv120 => ?_)
                  have g121 := rgI (x6_13 + 1)
                  first | have e122 := adN x6_13 1 (1) (by decide) (by omega) (by omega) | skip
                  have q123 := eqI hv120
                  exact ih v157_68 v126_59 v159_72 (by omega) (by omega) (by omega)
                · skip
                  have c124 := nltI h108
                  refine Sf_nmI (fun v159_77 hv125 => ?_)
                  have g126 := rgI (x6_13 + 1)
                  first | have e127 := adN x6_13 1 (1) (by decide) (by omega) (by omega) | skip
                  have q128 := eqI hv125
                  exact ih x4_11 v126_59 v159_77 (by omega) (by omega) (by omega)
        · skip
          have c129 := nleI h27
          refine Sf_rdI (by omega) (by omega) (fun v52_95 hv130 => ?_)
          have g131 := rgI v52_95
          rw [f_X2_greatestSize_J64]
          refine Sf_nmI (fun v70_34 hv132 => ?_)
          have g133 := rgI (-v52_95)
          first | have e134 := ngX v52_95 (by omega) | skip
          have g135 := rgI ((-v52_95) - p3)
          first | have e136 := sbX -v52_95 p3 (by omega) (by omega) | skip
          have q137 := eqI hv132
          refine Sf_nmI (fun v76_38 hv138 => ?_)
          have g139 := rgI ((-v52_95) + p3)
          first | have e140 := adX -v52_95 p3 (by omega) (by omega) | skip
          have q141 := eqI hv138
          refine Sf_nmI (fun v83_42 hv142 => ?_)
          have g143 := rgI (jabs r36_26)
          have q144 := eqI hv142
          refine Sf_ite (fun h145 => ?_) (fun h145 => ?_)
          · skip
            have c146 := ltI h145
            exact Sf_some trivial
          · skip
            have c147 := nltI h145
            refine Sf_ite (fun h148 => ?_) (fun h148 => ?_)
            · skip
              have c149 := eqI h148
              refine Sf_ite (fun h150 => ?_) (fun h150 => ?_)
              · skip
                have c151 := leI h150
                rw [f_X2_greatestSize_J103]
                refine Sf_ite (fun h152 => ?_) (fun h152 => ?_)
                · skip
                  have c153 := leI h152
                  refine Sf_nmI (fun v159_53 hv154 => ?_)
                  have g155 := rgI (x6_13 + 1)
                  first | have e156 := adN x6_13 1 (1) (by decide) (by omega) (by omega) | skip
                  have q157 := eqI hv154
                  exact ih x4_11 x5_12 v159_53 (by omega) (by omega) (by omega)
                · skip
                  have c158 := nleI h152
                  refine Sf_dvI (by omega) ?_
                  refine Sf_nmI (fun v126_59 hv159 => ?_)
                  have g160 := rgI (v76_38 + 1)
                  first | have e161 := adN v76_38 1 (1) (by decide) (by omega) (by omega) | skip
                  have l162 : (1000 : Int32).toInt = 1000 := by decide
                  have g163 := rgI ((v76_38 + 1) * 1000)
                  first | have e164 := mlX (v76_38 + 1) 1000 (1000) (by decide) (by omega) (by omega) | skip
                  have g165 := rgI (((v76_38 + 1) * 1000) - 1)
                  first | have e166 := sbN ((v76_38 + 1) * 1000) 1 (1) (by decide) (by omega) (by omega) | skip
                  have g167 := rgI (jmin x5_12 ((((v76_38 + 1) * 1000) - 1) / v83_42))
                  have m168 := jmin_ x5_12 ((((v76_38 + 1) * 1000) - 1) / v83_42)
                  have q169 := eqI hv159
                  refine Sf_ite (fun h170 => ?_) (fun h170 => ?_)
                  · skip
                    have c171 := ltI h170
                    refine Sf_dvI (by omega) ?_
                    refine Sf_nmI (fun v157_68 hv172 => ?_)
                    have g173 := rgI (v70_34 * 1000)
                    first | have e174 := mlX v70_34 1000 (1000) (by decide) (by omega) (by omega) | skip
                    have g175 := rgI ((v70_34 * 1000) + v83_42)
                    first | have e176 := adX (v70_34 * 1000) v83_42 (by omega) (by omega) | skip
                    have g177 := rgI (((v70_34 * 1000) + v83_42) - 1)
                    first | have e178 := sbN ((v70_34 * 1000) + v83_42) 1 (1) (by decide) (by omega) (by omega) | skip
                    have g179 := rgI (jmax x4_11 ((((v70_34 * 1000) + v83_42) - 1) / v83_42))
                    have m180 := jmax_ x4_11 ((((v70_34 * 1000) + v83_42) - 1) / v83_42)
                    have q181 := eqI hv172
                    refine Sf_nmI (fun v159_72 hv182 => ?_)
                    have g183 := rgI (x6_13 + 1)
                    first | have e184 := adN x6_13 1 (1) (by decide) (by omega) (by omega) | skip
                    have q185 := eqI hv182
                    exact ih v157_68 v126_59 v159_72 (by omega) (by omega) (by omega)
                  · skip
                    have c186 := nltI h170
                    refine Sf_nmI (fun v159_77 hv187 => ?_)
                    have g188 := rgI (x6_13 + 1)
                    first | have e189 := adN x6_13 1 (1) (by decide) (by omega) (by omega) | skip
                    have q190 := eqI hv187
                    exact ih x4_11 v126_59 v159_77 (by omega) (by omega) (by omega)
              · skip
                have c191 := nleI h150
                exact Sf_some trivial
            · skip
              have c192 := neI h148
              rw [f_X2_greatestSize_J103]
              refine Sf_ite (fun h193 => ?_) (fun h193 => ?_)
              · skip
                have c194 := leI h193
                refine Sf_nmI (fun v159_53 hv195 => ?_)
                have g196 := rgI (x6_13 + 1)
                first | have e197 := adN x6_13 1 (1) (by decide) (by omega) (by omega) | skip
                have q198 := eqI hv195
                exact ih x4_11 x5_12 v159_53 (by omega) (by omega) (by omega)
              · skip
                have c199 := nleI h193
                refine Sf_dvI (by omega) ?_
                refine Sf_nmI (fun v126_59 hv200 => ?_)
                have g201 := rgI (v76_38 + 1)
                first | have e202 := adN v76_38 1 (1) (by decide) (by omega) (by omega) | skip
                have l203 : (1000 : Int32).toInt = 1000 := by decide
                have g204 := rgI ((v76_38 + 1) * 1000)
                first | have e205 := mlX (v76_38 + 1) 1000 (1000) (by decide) (by omega) (by omega) | skip
                have g206 := rgI (((v76_38 + 1) * 1000) - 1)
                first | have e207 := sbN ((v76_38 + 1) * 1000) 1 (1) (by decide) (by omega) (by omega) | skip
                have g208 := rgI (jmin x5_12 ((((v76_38 + 1) * 1000) - 1) / v83_42))
                have m209 := jmin_ x5_12 ((((v76_38 + 1) * 1000) - 1) / v83_42)
                have q210 := eqI hv200
                refine Sf_ite (fun h211 => ?_) (fun h211 => ?_)
                · skip
                  have c212 := ltI h211
                  refine Sf_dvI (by omega) ?_
                  refine Sf_nmI (fun v157_68 hv213 => ?_)
                  have g214 := rgI (v70_34 * 1000)
                  first | have e215 := mlX v70_34 1000 (1000) (by decide) (by omega) (by omega) | skip
                  have g216 := rgI ((v70_34 * 1000) + v83_42)
                  first | have e217 := adX (v70_34 * 1000) v83_42 (by omega) (by omega) | skip
                  have g218 := rgI (((v70_34 * 1000) + v83_42) - 1)
                  first | have e219 := sbN ((v70_34 * 1000) + v83_42) 1 (1) (by decide) (by omega) (by omega) | skip
                  have g220 := rgI (jmax x4_11 ((((v70_34 * 1000) + v83_42) - 1) / v83_42))
                  have m221 := jmax_ x4_11 ((((v70_34 * 1000) + v83_42) - 1) / v83_42)
                  have q222 := eqI hv213
                  refine Sf_nmI (fun v159_72 hv223 => ?_)
                  have g224 := rgI (x6_13 + 1)
                  first | have e225 := adN x6_13 1 (1) (by decide) (by omega) (by omega) | skip
                  have q226 := eqI hv223
                  exact ih v157_68 v126_59 v159_72 (by omega) (by omega) (by omega)
                · skip
                  have c227 := nltI h211
                  refine Sf_nmI (fun v159_77 hv228 => ?_)
                  have g229 := rgI (x6_13 + 1)
                  first | have e230 := adN x6_13 1 (1) (by decide) (by omega) (by omega) | skip
                  have q231 := eqI hv228
                  exact ih x4_11 v126_59 v159_77 (by omega) (by omega) (by omega)
set_option maxHeartbeats 4000000 in
set_option maxRecDepth 100000 in
theorem s_X2_greatestSize (s_many : Int32) (s_days : Nat → Int32) (s_shifts : Nat → Int32) (p1 : Int32) (p2 : Int32) (p3 : Int32) (hp0 : 0 ≤ s_many.toInt) (hp1 : s_many.toInt ≤ 30) : Sf (f_X2_greatestSize s_many s_days s_shifts p1 p2 p3) (fun (y : Int32) => True) := by
  have g1 := rgI s_many
  have g2 := rgI p1
  have g3 := rgI p2
  have g4 := rgI p3
  have hFU : (100000 : Int) ≤ (FU : Int) := Int.ofNat_le.mpr FU_ge
  rw [f_X2_greatestSize]
  have l5 : (0 : Int32).toInt = 0 := by decide
  have l6 : (2000 : Int32).toInt = 2000 := by decide
  refine s_X2_greatestSize_L11 s_many s_days s_shifts p1 p2 p3 f_X2_greatestSize_J165 (by omega) (by omega) ?_ FU 0 2000 0 (by omega) (by omega) (by omega)
  · intro z7 z8
    have g9 := rgI z7
    have g10 := rgI z8
    rw [f_X2_greatestSize_J165]
    refine Sf_ite (fun h11 => ?_) (fun h11 => ?_)
    · skip
      have c12 := ltI h11
      exact Sf_some trivial
    · skip
      have c13 := nltI h11
      exact Sf_some trivial
set_option maxHeartbeats 4000000 in
set_option maxRecDepth 100000 in
theorem s_X2_greatestOrbit_L6 (s_many : Int32) (s_days : Nat → Int32) (s_shifts : Nat → Int32) (p1 : Int32) (p2 : Int32) (hp0 : 0 ≤ s_many.toInt) (hp1 : s_many.toInt ≤ 30) (hp2 : 0 ≤ p1.toInt) (hp3 : p1.toInt ≤ 400) : ∀ (n : Nat) (x3_3 : Int32) (x4_4 : Int32), (0 ≤ x4_4.toInt) → (x4_4.toInt ≤ 400) → (401 - x4_4.toInt < (n : Int)) → Sf (f_X2_greatestOrbit_L6 s_many s_days s_shifts p1 p2 n x3_3 x4_4) (fun (y : Int32) => True) := by
  have hFU : (100000 : Int) ≤ (FU : Int) := Int.ofNat_le.mpr FU_ge
  have g1 := rgI s_many
  have g2 := rgI p1
  have g3 := rgI p2
  intro n
  induction n with
  | zero =>
    intro x3_3 x4_4 hi0 hi1 hm
    have g4 := rgI x3_3
    have g5 := rgI x4_4
    exact absurd hm (by omega)
  | succ n ih =>
    intro x3_3 x4_4 hi0 hi1 hm
    rw [f_X2_greatestOrbit_L6]
    have g6 := rgI x3_3
    have g7 := rgI x4_4
    refine Sf_ite (fun h8 => ?_) (fun h8 => ?_)
    · skip
      have c9 := leI h8
      exact Sf_some trivial
    · skip
      have c10 := nleI h8
      refine Sf_cb1 (s_X2_greatestSize s_many s_days s_shifts p1 x4_4 p2 (by omega) (by omega)) (fun r18_9 hp11 => ?_)
      have g12 := rgI r18_9
      refine Sf_nmI (fun v24_14 hv13 => ?_)
      have g14 := rgI (jmax x3_3 r18_9)
      have m15 := jmax_ x3_3 r18_9
      have q16 := eqI hv13
      refine Sf_nmI (fun v25_18 hv17 => ?_)
      have g18 := rgI (x4_4 + 1)
      first | have e19 := adN x4_4 1 (1) (by decide) (by omega) (by omega) | skip
      have q20 := eqI hv17
      exact ih v24_14 v25_18 (by omega) (by omega) (by omega)
set_option maxHeartbeats 4000000 in
set_option maxRecDepth 100000 in
theorem s_X2_greatestOrbit (s_many : Int32) (s_days : Nat → Int32) (s_shifts : Nat → Int32) (p1 : Int32) (p2 : Int32) (hp0 : 0 ≤ s_many.toInt) (hp1 : s_many.toInt ≤ 30) (hp2 : 0 ≤ p1.toInt) (hp3 : p1.toInt ≤ 400) : Sf (f_X2_greatestOrbit s_many s_days s_shifts p1 p2) (fun (y : Int32) => True) := by
  have g1 := rgI s_many
  have g2 := rgI p1
  have g3 := rgI p2
  have hFU : (100000 : Int) ≤ (FU : Int) := Int.ofNat_le.mpr FU_ge
  rw [f_X2_greatestOrbit]
  have l4 : ((-2) : Int32).toInt = -2 := by decide
  have l5 : (0 : Int32).toInt = 0 := by decide
  refine s_X2_greatestOrbit_L6 s_many s_days s_shifts p1 p2 (by omega) (by omega) (by omega) (by omega)  FU (-2) 0 (by omega) (by omega) (by omega)
set_option maxHeartbeats 4000000 in
set_option maxRecDepth 100000 in
theorem s_X1_missesFrom (s_best : Nat → Int32) (s_tens : Nat → Int32) (p1 : Int32) (p2 : Int32) (p3 : Int32) (hp0 : 0 ≤ p1.toInt) (hp1 : p1.toInt < 40) (hp2 : 0 ≤ p2.toInt) (hp3 : p2.toInt ≤ 6) (hp4 : 1 ≤ p3.toInt) (hp5 : p3.toInt ≤ 10) : Sf (f_X1_missesFrom s_best s_tens p1 p2 p3) (fun (y : Int32) => True) := by
  have g1 := rgI p1
  have g2 := rgI p2
  have g3 := rgI p3
  have hFU : (100000 : Int) ≤ (FU : Int) := Int.ofNat_le.mpr FU_ge
  rw [f_X1_missesFrom]
  have l4 : (41 : Int32).toInt = 41 := by decide
  have g5 := rgI (p2 * 41)
  first | have e6 := mlX p2 41 (41) (by decide) (by omega) (by omega) | skip
  have l7 : (40 : Int32).toInt = 40 := by decide
  have g8 := rgI (p1 + p3)
  first | have e9 := adX p1 p3 (by omega) (by omega) | skip
  have g10 := rgI (jmin 40 (p1 + p3))
  have m11 := jmin_ 40 (p1 + p3)
  have g12 := rgI ((p2 * 41) + (jmin 40 (p1 + p3)))
  first | have e13 := adX (p2 * 41) (jmin 40 (p1 + p3)) (by omega) (by omega) | skip
  refine Sf_rdI (by omega) (by omega) (fun v17_1 hv14 => ?_)
  have g15 := rgI v17_1
  refine Sf_ite (fun h16 => ?_) (fun h16 => ?_)
  · skip
    have l17 : ((-1) : Int32).toInt = -1 := by decide
    have c18 := eqI h16
    exact Sf_some trivial
  · skip
    have l19 : ((-1) : Int32).toInt = -1 := by decide
    have c20 := neI h16
    refine Sf_rdI (by omega) (by omega) (fun v37_9 hv21 => ?_)
    have g22 := rgI v37_9
    exact Sf_some trivial
set_option maxHeartbeats 4000000 in
set_option maxRecDepth 100000 in
theorem s_X1_weigh_L32 (s_tens : Nat → Int32) (p2 : Int32) (x3_2 : Int32) (K2 : Int32 → (Nat → Int32) → Option ((Nat → Int32))) (hp0 : 1 ≤ p2.toInt) (hp1 : p2.toInt ≤ 10) (hp2 : 0 ≤ x3_2.toInt) (hp3 : x3_2.toInt ≤ 6) (hK2 : ∀ (a : Int32) (b : Nat → Int32), (a.toInt = x3_2.toInt + 1) → Sf (K2 a b) (fun (y : (Nat → Int32)) => True)) : ∀ (n : Nat) (x4_15 : Int32) (best__16 : Nat → Int32), (-1 ≤ x4_15.toInt) → (x4_15.toInt ≤ 39) → (x4_15.toInt + 2 < (n : Int)) → Sf (f_X1_weigh_L32 s_tens p2 x3_2 K2 n x4_15 best__16) (fun (y : (Nat → Int32)) => True) := by
  have hFU : (100000 : Int) ≤ (FU : Int) := Int.ofNat_le.mpr FU_ge
  have g1 := rgI p2
  have g2 := rgI x3_2
  intro n
  induction n with
  | zero =>
    intro x4_15 best__16 hi0 hi1 hm
    have g3 := rgI x4_15
    exact absurd hm (by omega)
  | succ n ih =>
    intro x4_15 best__16 hi0 hi1 hm
    rw [f_X1_weigh_L32]
    have g4 := rgI x4_15
    refine Sf_ite (fun h5 => ?_) (fun h5 => ?_)
    · skip
      have l6 : (0 : Int32).toInt = 0 := by decide
      have c7 := ltI h5
      refine Sf_nmI (fun v129_20 hv8 => ?_)
      have g9 := rgI (x3_2 + 1)
      first | have e10 := adN x3_2 1 (1) (by decide) (by omega) (by omega) | skip
      have q11 := eqI hv8
      exact hK2 v129_20 best__16 (by omega)
    · skip
      have l12 : (0 : Int32).toInt = 0 := by decide
      have c13 := nltI h5
      have l14 : (41 : Int32).toInt = 41 := by decide
      have g15 := rgI (x3_2 * 41)
      first | have e16 := mlX x3_2 41 (41) (by decide) (by omega) (by omega) | skip
      have g17 := rgI ((x3_2 * 41) + x4_15)
      first | have e18 := adX (x3_2 * 41) x4_15 (by omega) (by omega) | skip
      have g19 := rgI (((x3_2 * 41) + x4_15) + 1)
      first | have e20 := adN ((x3_2 * 41) + x4_15) 1 (1) (by decide) (by omega) (by omega) | skip
      refine Sf_rdI (by omega) (by omega) (fun v50_24 hv21 => ?_)
      have g22 := rgI v50_24
      refine Sf_ite (fun h23 => ?_) (fun h23 => ?_)
      · skip
        have c24 := eqI h23
        rw [f_X1_weigh_J71]
        refine Sf_ite (fun h25 => ?_) (fun h25 => ?_)
        · skip
          have l26 : (1 : Int32).toInt = 1 := by decide
          have l27 : ((-1) : Int32).toInt = -1 := by decide
          have c28 := eqI h25
          rw [f_X1_weigh_J97]
          refine Sf_ite (fun h29 => ?_) (fun h29 => ?_)
          · skip
            have c30 := eqI h29
            refine Sf_wrI (by omega) (by omega) (fun g122_36 hw31 => ?_)
            refine Sf_nmI (fun v123_41 hv32 => ?_)
            have g33 := rgI v123_41
            first | have q34 := (eqI hv32).trans (adN x4_15 (-1) (-1) (by decide) (by omega) (by omega)) | skip
            exact ih v123_41 g122_36 (by omega) (by omega) (by omega)
          · skip
            have c35 := neI h29
            refine Sf_wrI (by omega) (by omega) (fun g122_45 hw36 => ?_)
            refine Sf_nmI (fun v123_50 hv37 => ?_)
            have g38 := rgI v123_50
            first | have q39 := (eqI hv37).trans (adN x4_15 (-1) (-1) (by decide) (by omega) (by omega)) | skip
            exact ih v123_50 g122_45 (by omega) (by omega) (by omega)
        · skip
          have l40 : (1 : Int32).toInt = 1 := by decide
          have l41 : ((-1) : Int32).toInt = -1 := by decide
          have c42 := neI h25
          refine Sf_ite (fun h43 => ?_) (fun h43 => ?_)
          · skip
            have c44 := eqI h43
            rw [f_X1_weigh_J97]
            refine Sf_ite (fun h45 => ?_) (fun h45 => ?_)
            · skip
              have c46 := eqI h45
              refine Sf_wrI (by omega) (by omega) (fun g122_36 hw47 => ?_)
              refine Sf_nmI (fun v123_41 hv48 => ?_)
              have g49 := rgI v123_41
              first | have q50 := (eqI hv48).trans (adN x4_15 (-1) (-1) (by decide) (by omega) (by omega)) | skip
              exact ih v123_41 g122_36 (by omega) (by omega) (by omega)
            · skip
              have c51 := neI h45
              refine Sf_wrI (by omega) (by omega) (fun g122_45 hw52 => ?_)
              refine Sf_nmI (fun v123_50 hv53 => ?_)
              have g54 := rgI v123_50
              first | have q55 := (eqI hv53).trans (adN x4_15 (-1) (-1) (by decide) (by omega) (by omega)) | skip
              exact ih v123_50 g122_45 (by omega) (by omega) (by omega)
          · skip
            have c56 := neI h43
            refine Sf_ite (fun h57 => ?_) (fun h57 => ?_)
            · skip
              have c58 := leI h57
              rw [f_X1_weigh_J97]
              refine Sf_ite (fun h59 => ?_) (fun h59 => ?_)
              · skip
                have c60 := eqI h59
                refine Sf_wrI (by omega) (by omega) (fun g122_36 hw61 => ?_)
                refine Sf_nmI (fun v123_41 hv62 => ?_)
                have g63 := rgI v123_41
                first | have q64 := (eqI hv62).trans (adN x4_15 (-1) (-1) (by decide) (by omega) (by omega)) | skip
                exact ih v123_41 g122_36 (by omega) (by omega) (by omega)
              · skip
                have c65 := neI h59
                refine Sf_wrI (by omega) (by omega) (fun g122_45 hw66 => ?_)
                refine Sf_nmI (fun v123_50 hv67 => ?_)
                have g68 := rgI v123_50
                first | have q69 := (eqI hv67).trans (adN x4_15 (-1) (-1) (by decide) (by omega) (by omega)) | skip
                exact ih v123_50 g122_45 (by omega) (by omega) (by omega)
            · skip
              have c70 := nleI h57
              rw [f_X1_weigh_J97]
              refine Sf_ite (fun h71 => ?_) (fun h71 => ?_)
              · skip
                have c72 := eqI h71
                refine Sf_wrI (by omega) (by omega) (fun g122_36 hw73 => ?_)
                refine Sf_nmI (fun v123_41 hv74 => ?_)
                have g75 := rgI v123_41
                first | have q76 := (eqI hv74).trans (adN x4_15 (-1) (-1) (by decide) (by omega) (by omega)) | skip
                exact ih v123_41 g122_36 (by omega) (by omega) (by omega)
              · skip
                have c77 := neI h71
                refine Sf_wrI (by omega) (by omega) (fun g122_45 hw78 => ?_)
                refine Sf_nmI (fun v123_50 hv79 => ?_)
                have g80 := rgI v123_50
                first | have q81 := (eqI hv79).trans (adN x4_15 (-1) (-1) (by decide) (by omega) (by omega)) | skip
                exact ih v123_50 g122_45 (by omega) (by omega) (by omega)
      · skip
        have c82 := neI h23
        have g83 := rgI (x3_2 - 1)
        first | have e84 := sbN x3_2 1 (1) (by decide) (by omega) (by omega) | skip
        refine Sf_cb1 (s_X1_missesFrom best__16 s_tens x4_15 (x3_2 - 1) p2 (by omega) (by omega) (by omega) (by omega) (by omega) (by omega)) (fun r68_66 hp85 => ?_)
        have g86 := rgI r68_66
        rw [f_X1_weigh_J71]
        refine Sf_ite (fun h87 => ?_) (fun h87 => ?_)
        · skip
          have l88 : ((-1) : Int32).toInt = -1 := by decide
          have c89 := eqI h87
          rw [f_X1_weigh_J97]
          refine Sf_ite (fun h90 => ?_) (fun h90 => ?_)
          · skip
            have c91 := eqI h90
            refine Sf_wrI (by omega) (by omega) (fun g122_36 hw92 => ?_)
            refine Sf_nmI (fun v123_41 hv93 => ?_)
            have g94 := rgI v123_41
            first | have q95 := (eqI hv93).trans (adN x4_15 (-1) (-1) (by decide) (by omega) (by omega)) | skip
            exact ih v123_41 g122_36 (by omega) (by omega) (by omega)
          · skip
            have c96 := neI h90
            refine Sf_wrI (by omega) (by omega) (fun g122_45 hw97 => ?_)
            refine Sf_nmI (fun v123_50 hv98 => ?_)
            have g99 := rgI v123_50
            first | have q100 := (eqI hv98).trans (adN x4_15 (-1) (-1) (by decide) (by omega) (by omega)) | skip
            exact ih v123_50 g122_45 (by omega) (by omega) (by omega)
        · skip
          have l101 : ((-1) : Int32).toInt = -1 := by decide
          have c102 := neI h87
          refine Sf_ite (fun h103 => ?_) (fun h103 => ?_)
          · skip
            have c104 := eqI h103
            rw [f_X1_weigh_J97]
            refine Sf_ite (fun h105 => ?_) (fun h105 => ?_)
            · skip
              have l106 : (1 : Int32).toInt = 1 := by decide
              have c107 := eqI h105
              refine Sf_wrI (by omega) (by omega) (fun g122_36 hw108 => ?_)
              refine Sf_nmI (fun v123_41 hv109 => ?_)
              have g110 := rgI v123_41
              first | have q111 := (eqI hv109).trans (adN x4_15 (-1) (-1) (by decide) (by omega) (by omega)) | skip
              exact ih v123_41 g122_36 (by omega) (by omega) (by omega)
            · skip
              have l112 : (1 : Int32).toInt = 1 := by decide
              have c113 := neI h105
              refine Sf_wrI (by omega) (by omega) (fun g122_45 hw114 => ?_)
              refine Sf_nmI (fun v123_50 hv115 => ?_)
              have g116 := rgI v123_50
              first | have q117 := (eqI hv115).trans (adN x4_15 (-1) (-1) (by decide) (by omega) (by omega)) | skip
              exact ih v123_50 g122_45 (by omega) (by omega) (by omega)
          · skip
            have c118 := neI h103
            refine Sf_ite (fun h119 => ?_) (fun h119 => ?_)
            · skip
              have c120 := leI h119
              rw [f_X1_weigh_J97]
              refine Sf_ite (fun h121 => ?_) (fun h121 => ?_)
              · skip
                have c122 := eqI h121
                refine Sf_wrI (by omega) (by omega) (fun g122_36 hw123 => ?_)
                refine Sf_nmI (fun v123_41 hv124 => ?_)
                have g125 := rgI v123_41
                first | have q126 := (eqI hv124).trans (adN x4_15 (-1) (-1) (by decide) (by omega) (by omega)) | skip
                exact ih v123_41 g122_36 (by omega) (by omega) (by omega)
              · skip
                have c127 := neI h121
                refine Sf_wrI (by omega) (by omega) (fun g122_45 hw128 => ?_)
                refine Sf_nmI (fun v123_50 hv129 => ?_)
                have g130 := rgI v123_50
                first | have q131 := (eqI hv129).trans (adN x4_15 (-1) (-1) (by decide) (by omega) (by omega)) | skip
                exact ih v123_50 g122_45 (by omega) (by omega) (by omega)
            · skip
              have c132 := nleI h119
              rw [f_X1_weigh_J97]
              refine Sf_ite (fun h133 => ?_) (fun h133 => ?_)
              · skip
                have l134 : (1 : Int32).toInt = 1 := by decide
                have c135 := eqI h133
                refine Sf_wrI (by omega) (by omega) (fun g122_36 hw136 => ?_)
                refine Sf_nmI (fun v123_41 hv137 => ?_)
                have g138 := rgI v123_41
                first | have q139 := (eqI hv137).trans (adN x4_15 (-1) (-1) (by decide) (by omega) (by omega)) | skip
                exact ih v123_41 g122_36 (by omega) (by omega) (by omega)
              · skip
                have l140 : (1 : Int32).toInt = 1 := by decide
                have c141 := neI h133
                refine Sf_wrI (by omega) (by omega) (fun g122_45 hw142 => ?_)
                refine Sf_nmI (fun v123_50 hv143 => ?_)
                have g144 := rgI v123_50
                first | have q145 := (eqI hv143).trans (adN x4_15 (-1) (-1) (by decide) (by omega) (by omega)) | skip
                exact ih v123_50 g122_45 (by omega) (by omega) (by omega)
set_option maxHeartbeats 4000000 in
set_option maxRecDepth 100000 in
theorem s_X1_weigh_L2 (s_tens : Nat → Int32) (p1 : Int32) (p2 : Int32) (hp0 : 1 ≤ p1.toInt) (hp1 : p1.toInt ≤ 6) (hp2 : 1 ≤ p2.toInt) (hp3 : p2.toInt ≤ 10) : ∀ (n : Nat) (x3_2 : Int32) (best__3 : Nat → Int32), (0 ≤ x3_2.toInt) → (x3_2.toInt ≤ 7) → (8 - x3_2.toInt < (n : Int)) → Sf (f_X1_weigh_L2 s_tens p1 p2 n x3_2 best__3) (fun (y : (Nat → Int32)) => True) := by
  have hFU : (100000 : Int) ≤ (FU : Int) := Int.ofNat_le.mpr FU_ge
  have g1 := rgI p1
  have g2 := rgI p2
  intro n
  induction n with
  | zero =>
    intro x3_2 best__3 hi0 hi1 hm
    have g3 := rgI x3_2
    exact absurd hm (by omega)
  | succ n ih =>
    intro x3_2 best__3 hi0 hi1 hm
    rw [f_X1_weigh_L2]
    have g4 := rgI x3_2
    refine Sf_ite (fun h5 => ?_) (fun h5 => ?_)
    · skip
      have c6 := ltI h5
      exact Sf_some trivial
    · skip
      have c7 := nltI h5
      refine Sf_ite (fun h8 => ?_) (fun h8 => ?_)
      · skip
        have l9 : (0 : Int32).toInt = 0 := by decide
        have c10 := eqI h8
        rw [f_X1_weigh_J27]
        have l11 : (41 : Int32).toInt = 41 := by decide
        have g12 := rgI (x3_2 * 41)
        first | have e13 := mlX x3_2 41 (41) (by decide) (by omega) (by omega) | skip
        have g14 := rgI ((x3_2 * 41) + 40)
        first | have e15 := adN (x3_2 * 41) 40 (40) (by decide) (by omega) (by omega) | skip
        have l17 : (1 : Int32).toInt = 1 := by decide
        refine Sf_wrI (by omega) (by omega) (fun g27_9 hw16 => ?_)
        have l18 : (39 : Int32).toInt = 39 := by decide
        refine s_X1_weigh_L32 s_tens p2 x3_2 (f_X1_weigh_L2 s_tens p1 p2 n) (by omega) (by omega) (by omega) (by omega) ?_ FU 39 g27_9 (by omega) (by omega) (by omega)
        · intro z19 z20 hk21
          have g22 := rgI z19
          have hk21 : z19.toInt = x3_2.toInt + 1 := hk21
          exact ih z19 z20 (by omega) (by omega) (by omega)
      · skip
        have l23 : (0 : Int32).toInt = 0 := by decide
        have c24 := neI h8
        rw [f_X1_weigh_J27]
        have l25 : (41 : Int32).toInt = 41 := by decide
        have g26 := rgI (x3_2 * 41)
        first | have e27 := mlX x3_2 41 (41) (by decide) (by omega) (by omega) | skip
        have g28 := rgI ((x3_2 * 41) + 40)
        first | have e29 := adN (x3_2 * 41) 40 (40) (by decide) (by omega) (by omega) | skip
        have l31 : ((-1) : Int32).toInt = -1 := by decide
        refine Sf_wrI (by omega) (by omega) (fun g27_9 hw30 => ?_)
        have l32 : (39 : Int32).toInt = 39 := by decide
        refine s_X1_weigh_L32 s_tens p2 x3_2 (f_X1_weigh_L2 s_tens p1 p2 n) (by omega) (by omega) (by omega) (by omega) ?_ FU 39 g27_9 (by omega) (by omega) (by omega)
        · intro z33 z34 hk35
          have g36 := rgI z33
          have hk35 : z33.toInt = x3_2.toInt + 1 := hk35
          exact ih z33 z34 (by omega) (by omega) (by omega)
set_option maxHeartbeats 4000000 in
set_option maxRecDepth 100000 in
theorem s_X1_weigh (s_best : Nat → Int32) (s_tens : Nat → Int32) (p1 : Int32) (p2 : Int32) (hp0 : 1 ≤ p1.toInt) (hp1 : p1.toInt ≤ 6) (hp2 : 1 ≤ p2.toInt) (hp3 : p2.toInt ≤ 10) : Sf (f_X1_weigh s_best s_tens p1 p2) (fun (y : (Nat → Int32)) => True) := by
  have g1 := rgI p1
  have g2 := rgI p2
  have hFU : (100000 : Int) ≤ (FU : Int) := Int.ofNat_le.mpr FU_ge
  rw [f_X1_weigh]
  have l3 : (0 : Int32).toInt = 0 := by decide
  refine s_X1_weigh_L2 s_tens p1 p2 (by omega) (by omega) (by omega) (by omega)  FU 0 s_best (by omega) (by omega) (by omega)
set_option maxHeartbeats 4000000 in
set_option maxRecDepth 100000 in
theorem s_X1_goesOn (s_unseen : Int32) (s_best : Nat → Int32) (s_tens : Nat → Int32) (p1 : Int32) (p2 : Int32) (p3 : Int32) (p4 : Int32) (hp0 : 0 ≤ p2.toInt) (hp1 : p2.toInt < 40) (hp2 : 0 ≤ p3.toInt) (hp3 : p3.toInt ≤ 6) (hp4 : 1 ≤ p4.toInt) (hp5 : p4.toInt ≤ 10) : Sf (f_X1_goesOn s_unseen s_best s_tens p1 p2 p3 p4) (fun (y : Int32) => ((y.toInt = 0 ∨ y.toInt = 1))) := by
  have g1 := rgI s_unseen
  have g2 := rgI p1
  have g3 := rgI p2
  have g4 := rgI p3
  have g5 := rgI p4
  have hFU : (100000 : Int) ≤ (FU : Int) := Int.ofNat_le.mpr FU_ge
  rw [f_X1_goesOn]
  refine Sf_cb1 (s_X1_missesFrom s_best s_tens p2 p3 p4 (by omega) (by omega) (by omega) (by omega) (by omega) (by omega)) (fun r5_1 hp6 => ?_)
  have g7 := rgI r5_1
  refine Sf_ite (fun h8 => ?_) (fun h8 => ?_)
  · skip
    have l9 : ((-1) : Int32).toInt = -1 := by decide
    have c10 := eqI h8
    have l11 : (0 : Int32).toInt = 0 := by decide
    refine Sf_some (show (((0 : Int32).toInt = 0 ∨ (0 : Int32).toInt = 1)) from ?_)
    (omega)
  · skip
    have l12 : ((-1) : Int32).toInt = -1 := by decide
    have c13 := neI h8
    refine Sf_ite (fun h14 => ?_) (fun h14 => ?_)
    · skip
      have g15 := rgI (p1 * r5_1)
      have c16 := eqI h14
      have l17 : (1 : Int32).toInt = 1 := by decide
      refine Sf_some (show (((1 : Int32).toInt = 0 ∨ (1 : Int32).toInt = 1)) from ?_)
      (omega)
    · skip
      have g18 := rgI (p1 * r5_1)
      have c19 := neI h14
      have l20 : (0 : Int32).toInt = 0 := by decide
      refine Sf_some (show (((0 : Int32).toInt = 0 ∨ (0 : Int32).toInt = 1)) from ?_)
      (omega)
set_option maxHeartbeats 4000000 in
set_option maxRecDepth 100000 in
theorem s_X1_choose_L41 (s_tens : Nat → Int32) (p2 : Int32) (o_best3_1 : Nat → Int32) (v15_6 : Int32) (x3_14 : Int32) (v39_24 : Int32) (K67 : Int32 → Option (Int32 × (Nat → Int32) × (Nat → Int32))) (hp0 : 1 ≤ p2.toInt) (hp1 : p2.toInt ≤ 10) (hp2 : 0 ≤ v39_24.toInt) (hp3 : v39_24.toInt ≤ 6) (hK67 : ∀ (a : Int32), (0 ≤ a.toInt) → (a.toInt ≤ 39) → Sf (K67 a) (fun (y : Int32 × (Nat → Int32) × (Nat → Int32)) => True)) : ∀ (n : Nat) (x4_50 : Int32), (0 ≤ x4_50.toInt) → (x4_50.toInt ≤ 39) → (40 - x4_50.toInt < (n : Int)) → Sf (f_X1_choose_L41 s_tens p2 o_best3_1 v15_6 x3_14 v39_24 K67 n x4_50) (fun (y : Int32 × (Nat → Int32) × (Nat → Int32)) => True) := by
  have hFU : (100000 : Int) ≤ (FU : Int) := Int.ofNat_le.mpr FU_ge
  have g1 := rgI p2
  have g2 := rgI v15_6
  have g3 := rgI x3_14
  have g4 := rgI v39_24
  intro n
  induction n with
  | zero =>
    intro x4_50 hi0 hi1 hm
    have g5 := rgI x4_50
    exact absurd hm (by omega)
  | succ n ih =>
    intro x4_50 hi0 hi1 hm
    rw [f_X1_choose_L41]
    have g6 := rgI x4_50
    refine Sf_ite (fun h7 => ?_) (fun h7 => ?_)
    · skip
      have l8 : (39 : Int32).toInt = 39 := by decide
      have c9 := leI h7
      exact hK67 x4_50 (by omega) (by omega)
    · skip
      have l10 : (39 : Int32).toInt = 39 := by decide
      have c11 := nleI h7
      refine Sf_cb1 (s_X1_goesOn v15_6 o_best3_1 s_tens x3_14 x4_50 v39_24 p2 (by omega) (by omega) (by omega) (by omega) (by omega) (by omega)) (fun r55_54 hp12 => ?_)
      have hp12 : ((r55_54.toInt = 0 ∨ r55_54.toInt = 1)) := hp12
      have g13 := rgI r55_54
      refine Sf_ite (fun h14 => ?_) (fun h14 => ?_)
      · skip
        have l15 : (0 : Int32).toInt = 0 := by decide
        have c16 := eqI h14
        refine Sf_nmI (fun v61_62 hv17 => ?_)
        have g18 := rgI (x4_50 + 1)
        first | have e19 := adN x4_50 1 (1) (by decide) (by omega) (by omega) | skip
        have q20 := eqI hv17
        exact ih v61_62 (by omega) (by omega) (by omega)
      · skip
        have l21 : (0 : Int32).toInt = 0 := by decide
        have c22 := neI h14
        exact hK67 x4_50 (by omega) (by omega)
set_option maxHeartbeats 4000000 in
set_option maxRecDepth 100000 in
theorem s_X1_choose_L27 (s_tens : Nat → Int32) (p1 : Int32) (p2 : Int32) (o_best3_1 : Nat → Int32) (v15_6 : Int32) (hp0 : 1 ≤ p1.toInt) (hp1 : p1.toInt ≤ 6) (hp2 : 1 ≤ p2.toInt) (hp3 : p2.toInt ≤ 10) : ∀ (n : Nat) (x3_14 : Int32) (x4_15 : Int32) (x5_16 : Int32) (chosen__17 : Nat → Int32), (0 ≤ x4_15.toInt) → (x4_15.toInt ≤ 39) → (0 ≤ x5_16.toInt) → (x5_16.toInt ≤ 6) → (7 - x5_16.toInt < (n : Int)) → Sf (f_X1_choose_L27 s_tens p1 p2 o_best3_1 v15_6 n x3_14 x4_15 x5_16 chosen__17) (fun (y : Int32 × (Nat → Int32) × (Nat → Int32)) => True) := by
  have hFU : (100000 : Int) ≤ (FU : Int) := Int.ofNat_le.mpr FU_ge
  have g1 := rgI p1
  have g2 := rgI p2
  have g3 := rgI v15_6
  intro n
  induction n with
  | zero =>
    intro x3_14 x4_15 x5_16 chosen__17 hi0 hi1 hi2 hi3 hm
    have g4 := rgI x3_14
    have g5 := rgI x4_15
    have g6 := rgI x5_16
    exact absurd hm (by omega)
  | succ n ih =>
    intro x3_14 x4_15 x5_16 chosen__17 hi0 hi1 hi2 hi3 hm
    rw [f_X1_choose_L27]
    have g7 := rgI x3_14
    have g8 := rgI x4_15
    have g9 := rgI x5_16
    refine Sf_ite (fun h10 => ?_) (fun h10 => ?_)
    · skip
      have c11 := leI h10
      exact Sf_some trivial
    · skip
      have c12 := nleI h10
      refine Sf_nmI (fun v39_24 hv13 => ?_)
      have g14 := rgI (p1 - x5_16)
      first | have e15 := sbX p1 x5_16 (by omega) (by omega) | skip
      have g16 := rgI ((p1 - x5_16) - 1)
      first | have e17 := sbN (p1 - x5_16) 1 (1) (by decide) (by omega) (by omega) | skip
      have q18 := eqI hv13
      refine s_X1_choose_L41 s_tens p2 o_best3_1 v15_6 x3_14 v39_24 (f_X1_choose_J67 s_tens p2 x3_14 x5_16 chosen__17 (f_X1_choose_L27 s_tens p1 p2 o_best3_1 v15_6 n)) (by omega) (by omega) (by omega) (by omega) ?_ FU x4_15 (by omega) (by omega) (by omega)
      · intro z19 hk20 hk21
        have g22 := rgI z19
        have hk20 : 0 ≤ z19.toInt := hk20
        have hk21 : z19.toInt ≤ 39 := hk21
        rw [f_X1_choose_J67]
        refine Sf_wrI (by omega) (by omega) (fun g75_29 hw23 => ?_)
        refine Sf_rdI (by omega) (by omega) (fun v85_34 hv24 => ?_)
        have g25 := rgI v85_34
        refine Sf_nmI (fun v88_38 hv26 => ?_)
        have l27 : (10 : Int32).toInt = 10 := by decide
        have g28 := rgI (10 - v85_34)
        first | have e29 := sbX 10 v85_34 (by omega) (by omega) | skip
        have g30 := rgI (x3_14 * (10 - v85_34))
        have q31 := eqI hv26
        refine Sf_nmI (fun v98_42 hv32 => ?_)
        have l33 : (39 : Int32).toInt = 39 := by decide
        have g34 := rgI (z19 + p2)
        first | have e35 := adX z19 p2 (by omega) (by omega) | skip
        have g36 := rgI (jmin 39 (z19 + p2))
        have m37 := jmin_ 39 (z19 + p2)
        have q38 := eqI hv32
        refine Sf_nmI (fun v100_46 hv39 => ?_)
        have g40 := rgI (x5_16 + 1)
        first | have e41 := adN x5_16 1 (1) (by decide) (by omega) (by omega) | skip
        have q42 := eqI hv39
        exact ih v88_38 v98_42 v100_46 g75_29 (by omega) (by omega) (by omega) (by omega) (by omega)
set_option maxHeartbeats 4000000 in
set_option maxRecDepth 100000 in
theorem s_X1_choose (s_unseen : Int32) (s_best : Nat → Int32) (s_chosen : Nat → Int32) (s_tens : Nat → Int32) (p1 : Int32) (p2 : Int32) (hp0 : 1 ≤ p1.toInt) (hp1 : p1.toInt ≤ 6) (hp2 : 1 ≤ p2.toInt) (hp3 : p2.toInt ≤ 10) : Sf (f_X1_choose s_unseen s_best s_chosen s_tens p1 p2) (fun (y : Int32 × (Nat → Int32) × (Nat → Int32)) => True) := by
  have g1 := rgI s_unseen
  have g2 := rgI p1
  have g3 := rgI p2
  have hFU : (100000 : Int) ≤ (FU : Int) := Int.ofNat_le.mpr FU_ge
  rw [f_X1_choose]
  refine Sf_cb1 (s_X1_weigh s_best s_tens p1 p2 (by omega) (by omega) (by omega) (by omega)) (fun o_best3_1 hp4 => ?_)
  have l5 : (41 : Int32).toInt = 41 := by decide
  have g6 := rgI (p1 * 41)
  first | have e7 := mlX p1 41 (41) (by decide) (by omega) (by omega) | skip
  refine Sf_rdI (by omega) (by omega) (fun v15_6 hv8 => ?_)
  have g9 := rgI v15_6
  have l10 : (1 : Int32).toInt = 1 := by decide
  have l11 : (0 : Int32).toInt = 0 := by decide
  refine s_X1_choose_L27 s_tens p1 p2 o_best3_1 v15_6 (by omega) (by omega) (by omega) (by omega)  FU 1 0 0 s_chosen (by omega) (by omega) (by omega) (by omega) (by omega)
