set_option maxHeartbeats 4000000 in
set_option maxRecDepth 100000 in
theorem s_J0_isLatin1_aae02   : Sf (f_J0_isLatin1_aae02 ) (fun (y : Int32) => ((y.toInt = 0 ∨ y.toInt = 1)) ∧ (y.toInt = 1)) := by
  have hFU : (100000 : Int) ≤ (FU : Int) := Int.ofNat_le.mpr FU_ge
  rw [f_J0_isLatin1_aae02]
  have l1 : (1 : Int32).toInt = 1 := by decide
  refine Sf_some (show (((1 : Int32).toInt = 0 ∨ (1 : Int32).toInt = 1)) ∧ ((1 : Int32).toInt = 1) from ?_)
  refine ⟨?_, ?_⟩ <;> (omega)
set_option maxHeartbeats 4000000 in
set_option maxRecDepth 100000 in
theorem s_J0_coder_7d493   : Sf (f_J0_coder_7d493 ) (fun (y : Int32) => (y.toInt = 0)) := by
  have hFU : (100000 : Int) ≤ (FU : Int) := Int.ofNat_le.mpr FU_ge
  rw [f_J0_coder_7d493]
  have l1 : (0 : Int32).toInt = 0 := by decide
  refine Sf_some (show ((0 : Int32).toInt = 0) from ?_)
  (omega)
set_option maxHeartbeats 4000000 in
set_option maxRecDepth 100000 in
theorem s_J0_length_8abf5   : Sf (f_J0_length_8abf5 ) (fun (y : Int32) => (y.toInt = 13)) := by
  have hFU : (100000 : Int) ≤ (FU : Int) := Int.ofNat_le.mpr FU_ge
  rw [f_J0_length_8abf5]
  refine Sf_cb1 (s_J0_coder_7d493  ) (fun r6_1 hp1 => ?_)
  have hp1 : (r6_1.toInt = 0) := hp1
  have g2 := rgI r6_1
  have l3 : (13 : Int32).toInt = 13 := by decide
  have g4 := rgI (jshr 13 r6_1)
  refine Sf_some (show ((jshr 13 r6_1).toInt = 13) from ?_)
  ((have e : r6_1 = 0 := Int32.toInt_inj.mp ((‹r6_1.toInt = 0›).trans (by decide)); subst e; decide))
set_option maxHeartbeats 4000000 in
set_option maxRecDepth 100000 in
theorem s_J1_canEncode_9a6ad (p1 : Int32)  : Sf (f_J1_canEncode_9a6ad p1) (fun (y : Int32) => ((y.toInt = 0 ∨ y.toInt = 1))) := by
  have g1 := rgI p1
  have hFU : (100000 : Int) ≤ (FU : Int) := Int.ofNat_le.mpr FU_ge
  rw [f_J1_canEncode_9a6ad]
  refine Sf_ite (fun h2 => ?_) (fun h2 => ?_)
  · skip
    have l3 : (0 : Int32).toInt = 0 := by decide
    have c4 := ltI h2
    refine Sf_some (show (((0 : Int32).toInt = 0 ∨ (0 : Int32).toInt = 1)) from ?_)
    (omega)
  · skip
    have l5 : (0 : Int32).toInt = 0 := by decide
    have c6 := nltI h2
    refine Sf_ite (fun h7 => ?_) (fun h7 => ?_)
    · skip
      have l8 : (255 : Int32).toInt = 255 := by decide
      have c9 := ltI h7
      refine Sf_some (show (((0 : Int32).toInt = 0 ∨ (0 : Int32).toInt = 1)) from ?_)
      (omega)
    · skip
      have l10 : (255 : Int32).toInt = 255 := by decide
      have c11 := nltI h7
      have l12 : (1 : Int32).toInt = 1 := by decide
      refine Sf_some (show (((1 : Int32).toInt = 0 ∨ (1 : Int32).toInt = 1)) from ?_)
      (omega)
set_option maxHeartbeats 4000000 in
set_option maxRecDepth 100000 in
theorem s_J1_indexOfChar_4cfef_L7 (p4 : Int32) (v2_1 : Int32) (hp0 : p4.toInt ≤ 13) : ∀ (n : Nat) (x5_6 : Int32), (0 ≤ x5_6.toInt) → (x5_6.toInt ≤ 14) → (14 - x5_6.toInt < (n : Int)) → Sf (f_J1_indexOfChar_4cfef_L7 p4 v2_1 n x5_6) (fun (y : Int32) => True) := by
  have hFU : (100000 : Int) ≤ (FU : Int) := Int.ofNat_le.mpr FU_ge
  have g1 := rgI p4
  have g2 := rgI v2_1
  intro n
  induction n with
  | zero =>
    intro x5_6 hi0 hi1 hm
    have g3 := rgI x5_6
    exact absurd hm (by omega)
  | succ n ih =>
    intro x5_6 hi0 hi1 hm
    rw [f_J1_indexOfChar_4cfef_L7]
    have g4 := rgI x5_6
    refine Sf_ite (fun h5 => ?_) (fun h5 => ?_)
    · skip
      have c6 := leI h5
      exact Sf_some trivial
    · skip
      have c7 := nleI h5
      refine Sf_rdI (by omega) (by omega) (fun v16_11 hv8 => ?_)
      have g9 := rgI v16_11
      refine Sf_ite (fun h10 => ?_) (fun h10 => ?_)
      · skip
        have c11 := eqI h10
        exact Sf_some trivial
      · skip
        have c12 := neI h10
        refine Sf_nmI (fun v25_18 hv13 => ?_)
        have g14 := rgI (x5_6 + 1)
        first | have e15 := adN x5_6 1 (1) (by decide) (by omega) (by omega) | skip
        have q16 := eqI hv13
        exact ih v25_18 (by omega) (by omega) (by omega)
set_option maxHeartbeats 4000000 in
set_option maxRecDepth 100000 in
theorem s_J1_indexOfChar_4cfef (p2 : Int32) (p3 : Int32) (p4 : Int32) (hp0 : 0 ≤ p3.toInt) (hp1 : p3.toInt ≤ 13) (hp2 : p4.toInt ≤ 13) : Sf (f_J1_indexOfChar_4cfef p2 p3 p4) (fun (y : Int32) => True) := by
  have g1 := rgI p2
  have g2 := rgI p3
  have g3 := rgI p4
  have hFU : (100000 : Int) ≤ (FU : Int) := Int.ofNat_le.mpr FU_ge
  rw [f_J1_indexOfChar_4cfef]
  refine Sf_nmI (fun v2_1 hv4 => ?_)
  have q5 := eqI hv4
  refine s_J1_indexOfChar_4cfef_L7 p4 v2_1 (by omega)  FU p3 (by omega) (by omega) (by omega)
set_option maxHeartbeats 4000000 in
set_option maxRecDepth 100000 in
theorem s_J1_indexOf_4cfef (p2 : Int32) (p3 : Int32) (p4 : Int32) (hp0 : p3.toInt = 0) (hp1 : p4.toInt = 13) : Sf (f_J1_indexOf_4cfef p2 p3 p4) (fun (y : Int32) => True) := by
  have g1 := rgI p2
  have g2 := rgI p3
  have g3 := rgI p4
  have hFU : (100000 : Int) ≤ (FU : Int) := Int.ofNat_le.mpr FU_ge
  rw [f_J1_indexOf_4cfef]
  refine Sf_cb1 (s_J1_canEncode_9a6ad p2 ) (fun r1_1 hp4 => ?_)
  have hp4 : ((r1_1.toInt = 0 ∨ r1_1.toInt = 1)) := hp4
  have g5 := rgI r1_1
  refine Sf_ite (fun h6 => ?_) (fun h6 => ?_)
  · skip
    have l7 : (0 : Int32).toInt = 0 := by decide
    have c8 := eqI h6
    exact Sf_some trivial
  · skip
    have l9 : (0 : Int32).toInt = 0 := by decide
    have c10 := neI h6
    refine Sf_nmI (fun v14_9 hv11 => ?_)
    have g12 := rgI (jmax p3 0)
    have m13 := jmax_ p3 0
    have q14 := eqI hv11
    refine Sf_nmI (fun v21_13 hv15 => ?_)
    have l16 : (13 : Int32).toInt = 13 := by decide
    have g17 := rgI (jmin p4 13)
    have m18 := jmin_ p4 13
    have q19 := eqI hv15
    refine Sf_ite (fun h20 => ?_) (fun h20 => ?_)
    · skip
      have c21 := ltI h20
      refine Sf_cb1 (s_J1_indexOfChar_4cfef p2 v14_9 v21_13 (by omega) (by omega) (by omega)) (fun r33_20 hp22 => ?_)
      have g23 := rgI r33_20
      exact Sf_some trivial
    · skip
      have c24 := nltI h20
      exact Sf_some trivial
set_option maxHeartbeats 4000000 in
set_option maxRecDepth 100000 in
theorem s_J0_indexOf_7cf53 (p1 : Int32) (p2 : Int32) (hp0 : p2.toInt = 0) : Sf (f_J0_indexOf_7cf53 p1 p2) (fun (y : Int32) => True) := by
  have g1 := rgI p1
  have g2 := rgI p2
  have hFU : (100000 : Int) ≤ (FU : Int) := Int.ofNat_le.mpr FU_ge
  rw [f_J0_indexOf_7cf53]
  refine Sf_cb1 (s_J0_isLatin1_aae02  ) (fun r1_1 hp3 => ?_)
  have hp3 : ((r1_1.toInt = 0 ∨ r1_1.toInt = 1)) ∧ (r1_1.toInt = 1) := hp3
  obtain ⟨hq4, hq5⟩ := hp3
  have g6 := rgI r1_1
  refine Sf_ite (fun h7 => ?_) (fun h7 => ?_)
  · skip
    have l8 : (0 : Int32).toInt = 0 := by decide
    have c9 := eqI h7
    exfalso
    omega
  · skip
    have l10 : (0 : Int32).toInt = 0 := by decide
    have c11 := neI h7
    refine Sf_cb1 (s_J0_length_8abf5  ) (fun r14_9 hp12 => ?_)
    have hp12 : (r14_9.toInt = 13) := hp12
    have g13 := rgI r14_9
    refine Sf_cb1 (s_J1_indexOf_4cfef p1 p2 r14_9 (by omega) (by omega)) (fun r17_14 hp14 => ?_)
    have g15 := rgI r17_14
    exact Sf_some trivial
set_option maxHeartbeats 4000000 in
set_option maxRecDepth 100000 in
theorem s_J0_indexOf_0f7a4 (p1 : Int32)  : Sf (f_J0_indexOf_0f7a4 p1) (fun (y : Int32) => True) := by
  have g1 := rgI p1
  have hFU : (100000 : Int) ≤ (FU : Int) := Int.ofNat_le.mpr FU_ge
  rw [f_J0_indexOf_0f7a4]
  have l2 : (0 : Int32).toInt = 0 := by decide
  refine Sf_cb1 (s_J0_indexOf_7cf53 p1 0 (by omega)) (fun r3_1 hp3 => ?_)
  have g4 := rgI r3_1
  exact Sf_some trivial
set_option maxHeartbeats 4000000 in
set_option maxRecDepth 100000 in
theorem s_X11_isWithin (p1 : Int32) (p2 : Int32) (p3 : Int32)  : Sf (f_X11_isWithin p1 p2 p3) (fun (y : Int32) => ((y.toInt = 0 ∨ y.toInt = 1)) ∧ ((y.toInt = 1 ∧ p2.toInt ≤ p1.toInt ∧ p1.toInt ≤ p3.toInt) ∨ (y.toInt = 0 ∧ (p1.toInt < p2.toInt ∨ p3.toInt < p1.toInt)))) := by
  have g1 := rgI p1
  have g2 := rgI p2
  have g3 := rgI p3
  have hFU : (100000 : Int) ≤ (FU : Int) := Int.ofNat_le.mpr FU_ge
  rw [f_X11_isWithin]
  refine Sf_ite (fun h4 => ?_) (fun h4 => ?_)
  · skip
    have c5 := ltI h4
    have l6 : (0 : Int32).toInt = 0 := by decide
    refine Sf_some (show (((0 : Int32).toInt = 0 ∨ (0 : Int32).toInt = 1)) ∧ (((0 : Int32).toInt = 1 ∧ p2.toInt ≤ p1.toInt ∧ p1.toInt ≤ p3.toInt) ∨ ((0 : Int32).toInt = 0 ∧ (p1.toInt < p2.toInt ∨ p3.toInt < p1.toInt))) from ?_)
    refine ⟨?_, ?_⟩ <;> (omega)
  · skip
    have c7 := nltI h4
    refine Sf_ite (fun h8 => ?_) (fun h8 => ?_)
    · skip
      have c9 := ltI h8
      have l10 : (0 : Int32).toInt = 0 := by decide
      refine Sf_some (show (((0 : Int32).toInt = 0 ∨ (0 : Int32).toInt = 1)) ∧ (((0 : Int32).toInt = 1 ∧ p2.toInt ≤ p1.toInt ∧ p1.toInt ≤ p3.toInt) ∨ ((0 : Int32).toInt = 0 ∧ (p1.toInt < p2.toInt ∨ p3.toInt < p1.toInt))) from ?_)
      refine ⟨?_, ?_⟩ <;> (omega)
    · skip
      have c11 := nltI h8
      have l12 : (1 : Int32).toInt = 1 := by decide
      refine Sf_some (show (((1 : Int32).toInt = 0 ∨ (1 : Int32).toInt = 1)) ∧ (((1 : Int32).toInt = 1 ∧ p2.toInt ≤ p1.toInt ∧ p1.toInt ≤ p3.toInt) ∨ ((1 : Int32).toInt = 0 ∧ (p1.toInt < p2.toInt ∨ p3.toInt < p1.toInt))) from ?_)
      refine ⟨?_, ?_⟩ <;> (omega)
set_option maxHeartbeats 4000000 in
set_option maxRecDepth 100000 in
theorem s_X9_put_L3 (p1 : Int32)  : ∀ (n : Nat) (x2_2 : Int32) (length__3 : Int32) (bytes__4 : Nat → Int32), (0 ≤ length__3.toInt) → (length__3.toInt ≤ 200) → (x2_2.toInt ≤ 24) → (-8 ≤ x2_2.toInt) → (x2_2.toInt + 9 < (n : Int)) → Sf (f_X9_put_L3 p1 n x2_2 length__3 bytes__4) (fun (y : Int32 × (Nat → Int32)) => (0 ≤ (y.1).toInt ∧ (y.1).toInt ≤ 200)) := by
  have hFU : (100000 : Int) ≤ (FU : Int) := Int.ofNat_le.mpr FU_ge
  have g1 := rgI p1
  intro n
  induction n with
  | zero =>
    intro x2_2 length__3 bytes__4 hi0 hi1 hi2 hi3 hm
    have g2 := rgI x2_2
    have g3 := rgI length__3
    exact absurd hm (by omega)
  | succ n ih =>
    intro x2_2 length__3 bytes__4 hi0 hi1 hi2 hi3 hm
    rw [f_X9_put_L3]
    have g4 := rgI x2_2
    have g5 := rgI length__3
    refine Sf_ite (fun h6 => ?_) (fun h6 => ?_)
    · skip
      have l7 : (0 : Int32).toInt = 0 := by decide
      have c8 := ltI h6
      refine Sf_some (show (0 ≤ length__3.toInt ∧ length__3.toInt ≤ 200) from ?_)
      (omega)
    · skip
      have l9 : (0 : Int32).toInt = 0 := by decide
      have c10 := nltI h6
      refine Sf_ite (fun h11 => ?_) (fun h11 => ?_)
      · skip
        have l12 : (200 : Int32).toInt = 200 := by decide
        have c13 := leI h11
        refine Sf_some (show (0 ≤ length__3.toInt ∧ length__3.toInt ≤ 200) from ?_)
        (omega)
      · skip
        have l14 : (200 : Int32).toInt = 200 := by decide
        have c15 := nleI h11
        refine Sf_nmI (fun v34_15 hv16 => ?_)
        have g17 := rgI (jushr p1 x2_2)
        have l18 : (255 : Int32).toInt = 255 := by decide
        have a19 := an_ (jushr p1 x2_2) 255 (by decide)
        have q20 := eqI hv16
        refine Sf_wrI (by omega) (by omega) (fun g34_18 hw21 => ?_)
        refine Sf_nmI (fun v42_23 hv22 => ?_)
        have g23 := rgI (length__3 + 1)
        first | have e24 := adN length__3 1 (1) (by decide) (by omega) (by omega) | skip
        have q25 := eqI hv22
        refine Sf_nmI (fun v45_27 hv26 => ?_)
        have g27 := rgI v45_27
        first | have q28 := (eqI hv26).trans (adN x2_2 (-8) (-8) (by decide) (by omega) (by omega)) | skip
        exact ih v45_27 v42_23 g34_18 (by omega) (by omega) (by omega) (by omega) (by omega)
set_option maxHeartbeats 4000000 in
set_option maxRecDepth 100000 in
theorem s_X9_put (s_length : Int32) (s_bytes : Nat → Int32) (p1 : Int32) (hp0 : 0 ≤ s_length.toInt) (hp1 : s_length.toInt ≤ 200) : Sf (f_X9_put s_length s_bytes p1) (fun (y : Int32 × (Nat → Int32)) => (0 ≤ (y.1).toInt ∧ (y.1).toInt ≤ 200)) := by
  have g1 := rgI s_length
  have g2 := rgI p1
  have hFU : (100000 : Int) ≤ (FU : Int) := Int.ofNat_le.mpr FU_ge
  rw [f_X9_put]
  have l3 : (24 : Int32).toInt = 24 := by decide
  refine s_X9_put_L3 p1   FU 24 s_length s_bytes (by omega) (by omega) (by omega) (by omega) (by omega)
set_option maxHeartbeats 4000000 in
set_option maxRecDepth 100000 in
theorem s_X9_wordAt (s_length : Int32) (s_bytes : Nat → Int32) (p1 : Int32) (hp0 : s_length.toInt ≤ 200) : Sf (f_X9_wordAt s_length s_bytes p1) (fun (y : Int32) => True) := by
  have g1 := rgI s_length
  have g2 := rgI p1
  have hFU : (100000 : Int) ≤ (FU : Int) := Int.ofNat_le.mpr FU_ge
  rw [f_X9_wordAt]
  refine Sf_nmI (fun v3_1 hv3 => ?_)
  have l4 : (4 : Int32).toInt = 4 := by decide
  have g5 := rgI (4 * p1)
  first | have e6 := mlY 4 p1 (4) (by decide) (by omega) (by omega) | skip
  obtain ⟨kk7, e8⟩ := ml4 p1
  have q9 := eqI hv3
  refine Sf_ite (fun h10 => ?_) (fun h10 => ?_)
  · skip
    have l11 : (0 : Int32).toInt = 0 := by decide
    have c12 := ltI h10
    exact Sf_some trivial
  · skip
    have l13 : (0 : Int32).toInt = 0 := by decide
    have c14 := nltI h10
    refine Sf_ite (fun h15 => ?_) (fun h15 => ?_)
    · skip
      have g16 := rgI (v3_1 + 3)
      first | have e17 := adN v3_1 3 (3) (by decide) (by omega) (by omega) | skip
      have c18 := ltI h15
      refine Sf_rdI (by omega) (by omega) (fun v25_12 hv19 => ?_)
      have g20 := rgI v25_12
      have g21 := rgI (v3_1 + 1)
      first | have e22 := adN v3_1 1 (1) (by decide) (by omega) (by omega) | skip
      refine Sf_rdI (by omega) (by omega) (fun v36_16 hv23 => ?_)
      have g24 := rgI v36_16
      have g25 := rgI (v3_1 + 2)
      first | have e26 := adN v3_1 2 (2) (by decide) (by omega) (by omega) | skip
      refine Sf_rdI (by omega) (by omega) (fun v48_20 hv27 => ?_)
      have g28 := rgI v48_20
      refine Sf_rdI (by omega) (by omega) (fun v60_24 hv29 => ?_)
      have g30 := rgI v60_24
      exact Sf_some trivial
    · skip
      have g31 := rgI (v3_1 + 3)
      first | have e32 := adN v3_1 3 (3) (by decide) (by omega) (by omega) | skip
      have c33 := nltI h15
      exact Sf_some trivial
set_option maxHeartbeats 4000000 in
set_option maxRecDepth 100000 in
theorem s_X9_clear (s_length : Int32)  : Sf (f_X9_clear s_length) (fun (y : Int32) => (y.toInt = 0)) := by
  have g1 := rgI s_length
  have hFU : (100000 : Int) ≤ (FU : Int) := Int.ofNat_le.mpr FU_ge
  rw [f_X9_clear]
  have l2 : (0 : Int32).toInt = 0 := by decide
  refine Sf_some (show ((0 : Int32).toInt = 0) from ?_)
  (omega)
set_option maxHeartbeats 4000000 in
set_option maxRecDepth 100000 in
theorem s_X6_begin (n_p1 : Nat) (s_length : Int32) (s_at : Int32) (s_used : Int32) (s_fault : Int32) (s_starts : Nat → Int32) (p2 : Int32) (hp0 : n_p1 = 200) (hp1 : 1 ≤ p2.toInt) (hp2 : p2.toInt ≤ 200) (hp3 : ∀ j, 0 ≤ (s_starts j).toInt ∧ (s_starts j).toInt ≤ 120) : Sf (f_X6_begin n_p1 s_length s_at s_used s_fault s_starts p2) (fun (y : Int32 × Int32 × Int32 × Int32 × (Nat → Int32)) => (1 ≤ (y.1).toInt ∧ (y.1).toInt ≤ 200 ∧ (y.1).toInt ≤ p2.toInt) ∧ ((y.2.1).toInt = 0) ∧ ((y.2.2.1).toInt = 0) ∧ (∀ j, 0 ≤ ((y.2.2.2.2) j).toInt ∧ ((y.2.2.2.2) j).toInt ≤ 120)) := by
  have g1 := rgI s_length
  have g2 := rgI s_at
  have g3 := rgI s_used
  have g4 := rgI s_fault
  have g5 := rgI p2
  have hFU : (100000 : Int) ≤ (FU : Int) := Int.ofNat_le.mpr FU_ge
  rw [f_X6_begin]
  refine Sf_nmI (fun v12_2 hv6 => ?_)
  have o7 := ofN n_p1 (by (first | omega | exact hst))
  have g8 := rgI (jmin p2 (Int32.ofNat n_p1))
  have m9 := jmin_ p2 (Int32.ofNat n_p1)
  have q10 := eqI hv6
  have l11 : (0 : Int32).toInt = 0 := by decide
  refine Sf_wrI (by (first | omega | exact hst)) (by (first | omega | exact hst)) (fun g36_9 hw12 => ?_)
  have hst : ∀ j, 0 ≤ (g36_9 j).toInt ∧ (g36_9 j).toInt ≤ 120 := fun j => by rw [hw12]; unfold upd; split; (decide); (exact hp3 j)
  refine Sf_some (show (1 ≤ v12_2.toInt ∧ v12_2.toInt ≤ 200 ∧ v12_2.toInt ≤ p2.toInt) ∧ ((0 : Int32).toInt = 0) ∧ ((0 : Int32).toInt = 0) ∧ (∀ j, 0 ≤ (g36_9 j).toInt ∧ (g36_9 j).toInt ≤ 120) from ?_)
  refine ⟨?_, ?_, ?_, ?_⟩ <;> ((first | omega | exact hst))
set_option maxHeartbeats 4000000 in
set_option maxRecDepth 100000 in
theorem s_X6_next (n_this_bytes : Nat) (s_length : Int32) (s_at : Int32) (s_bytes : Nat → Int32) (hp0 : 0 ≤ s_at.toInt) (hp1 : s_length.toInt ≤ n_this_bytes) : Sf (f_X6_next n_this_bytes s_length s_at s_bytes) (fun (y : Int32) => (y.toInt = -1 ∨ s_at.toInt < s_length.toInt)) := by
  have g1 := rgI s_length
  have g2 := rgI s_at
  have hFU : (100000 : Int) ≤ (FU : Int) := Int.ofNat_le.mpr FU_ge
  rw [f_X6_next]
  refine Sf_ite (fun h3 => ?_) (fun h3 => ?_)
  · skip
    have c4 := leI h3
    have l5 : ((-1) : Int32).toInt = -1 := by decide
    refine Sf_some (show ((-1 : Int32).toInt = -1 ∨ s_at.toInt < s_length.toInt) from ?_)
    (omega)
  · skip
    have c6 := nleI h3
    refine Sf_rdI (by omega) (by omega) (fun v19_5 hv7 => ?_)
    have g8 := rgI v19_5
    refine Sf_some (show (v19_5.toInt = -1 ∨ s_at.toInt < s_length.toInt) from ?_)
    (omega)
set_option maxHeartbeats 4000000 in
set_option maxRecDepth 100000 in
theorem s_X6_fail (s_fault : Int32) (p1 : Int32)  : Sf (f_X6_fail s_fault p1) (fun (y : Int32 × Int32) => (((y.1).toInt = 0 ∨ (y.1).toInt = 1)) ∧ ((y.1).toInt = 0)) := by
  have g1 := rgI s_fault
  have g2 := rgI p1
  have hFU : (100000 : Int) ≤ (FU : Int) := Int.ofNat_le.mpr FU_ge
  rw [f_X6_fail]
  have l3 : (0 : Int32).toInt = 0 := by decide
  refine Sf_some (show (((0 : Int32).toInt = 0 ∨ (0 : Int32).toInt = 1)) ∧ ((0 : Int32).toInt = 0) from ?_)
  refine ⟨?_, ?_⟩ <;> (omega)
set_option maxHeartbeats 4000000 in
set_option maxRecDepth 100000 in
theorem s_X6_signStands (n_this_bytes : Nat) (s_length : Int32) (s_at : Int32) (s_fault : Int32) (s_bytes : Nat → Int32) (p1 : Int32) (hp0 : 0 ≤ s_at.toInt) (hp1 : s_at.toInt ≤ s_length.toInt) (hp2 : s_length.toInt ≤ n_this_bytes) (hp3 : 0 ≤ p1.toInt) : Sf (f_X6_signStands n_this_bytes s_length s_at s_fault s_bytes p1) (fun (y : Int32 × Int32 × Int32) => (((y.1).toInt = 0 ∨ (y.1).toInt = 1)) ∧ (0 ≤ (y.2.1).toInt ∧ (y.2.1).toInt ≤ s_length.toInt)) := by
  have g1 := rgI s_length
  have g2 := rgI s_at
  have g3 := rgI s_fault
  have g4 := rgI p1
  have hFU : (100000 : Int) ≤ (FU : Int) := Int.ofNat_le.mpr FU_ge
  rw [f_X6_signStands]
  refine Sf_cb1 (s_X6_next n_this_bytes s_length s_at s_bytes (by omega) (by omega)) (fun r1_1 hp5 => ?_)
  have hp5 : (r1_1.toInt = -1 ∨ s_at.toInt < s_length.toInt) := hp5
  have g6 := rgI r1_1
  refine Sf_ite (fun h7 => ?_) (fun h7 => ?_)
  · skip
    have c8 := eqI h7
    refine Sf_nmI (fun v21_9 hv9 => ?_)
    have g10 := rgI (s_at + 1)
    first | have e11 := adN s_at 1 (1) (by decide) (by omega) (by omega) | skip
    have q12 := eqI hv9
    have l13 : (1 : Int32).toInt = 1 := by decide
    refine Sf_some (show (((1 : Int32).toInt = 0 ∨ (1 : Int32).toInt = 1)) ∧ (0 ≤ v21_9.toInt ∧ v21_9.toInt ≤ s_length.toInt) from ?_)
    refine ⟨?_, ?_⟩ <;> (omega)
  · skip
    have c14 := neI h7
    have l15 : (1 : Int32).toInt = 1 := by decide
    refine Sf_cb2 (s_X6_fail s_fault 1 ) (fun r10_16 o_fault10_17 hp16 => ?_)
    have hp16 : ((r10_16.toInt = 0 ∨ r10_16.toInt = 1)) ∧ (r10_16.toInt = 0) := hp16
    obtain ⟨hq17, hq18⟩ := hp16
    have g19 := rgI r10_16
    have g20 := rgI o_fault10_17
    refine Sf_bo (by omega) ?_
    refine Sf_some (show ((r10_16.toInt = 0 ∨ r10_16.toInt = 1)) ∧ (0 ≤ s_at.toInt ∧ s_at.toInt ≤ s_length.toInt) from ?_)
    refine ⟨?_, ?_⟩ <;> (omega)
set_option maxHeartbeats 4000000 in
set_option maxRecDepth 100000 in
theorem s_X6_put (s_used : Int32) (s_code : Nat → Int32) (p1 : Int32) (p2 : Int32) (hp0 : 0 ≤ s_used.toInt) (hp1 : s_used.toInt ≤ 120) : Sf (f_X6_put s_used s_code p1 p2) (fun (y : Int32 × (Nat → Int32)) => (s_used.toInt ≤ (y.1).toInt ∧ (y.1).toInt ≤ 120)) := by
  have g1 := rgI s_used
  have g2 := rgI p1
  have g3 := rgI p2
  have hFU : (100000 : Int) ≤ (FU : Int) := Int.ofNat_le.mpr FU_ge
  rw [f_X6_put]
  refine Sf_ite (fun h4 => ?_) (fun h4 => ?_)
  · skip
    have l5 : (120 : Int32).toInt = 120 := by decide
    have c6 := leI h4
    refine Sf_some (show (s_used.toInt ≤ s_used.toInt ∧ s_used.toInt ≤ 120) from ?_)
    (omega)
  · skip
    have l7 : (120 : Int32).toInt = 120 := by decide
    have c8 := nleI h4
    refine Sf_nmI (fun v26_6 hv9 => ?_)
    have l10 : (8 : Int32).toInt = 8 := by decide
    have g11 := rgI (jshl p2 8)
    have g12 := rgI ((jshl p2 8) ||| p1)
    have q13 := eqI hv9
    refine Sf_wrI (by omega) (by omega) (fun g26_9 hw14 => ?_)
    refine Sf_nmI (fun v34_14 hv15 => ?_)
    have g16 := rgI (s_used + 1)
    first | have e17 := adN s_used 1 (1) (by decide) (by omega) (by omega) | skip
    have q18 := eqI hv15
    refine Sf_some (show (s_used.toInt ≤ v34_14.toInt ∧ v34_14.toInt ≤ 120) from ?_)
    (omega)
set_option maxHeartbeats 4000000 in
set_option maxRecDepth 100000 in
theorem s_X6_leapHere (s_used : Int32) (s_code : Nat → Int32) (p1 : Int32) (hp0 : 0 ≤ p1.toInt) (hp1 : s_used.toInt ≤ 120) : Sf (f_X6_leapHere s_used s_code p1) (fun (y : (Nat → Int32)) => True) := by
  have g1 := rgI s_used
  have g2 := rgI p1
  have hFU : (100000 : Int) ≤ (FU : Int) := Int.ofNat_le.mpr FU_ge
  rw [f_X6_leapHere]
  refine Sf_ite (fun h3 => ?_) (fun h3 => ?_)
  · skip
    have c4 := leI h3
    exact Sf_some trivial
  · skip
    have c5 := nleI h3
    refine Sf_rdI (by omega) (by omega) (fun v25_5 hv6 => ?_)
    have g7 := rgI v25_5
    refine Sf_nmI (fun v31_9 hv8 => ?_)
    have l9 : (8 : Int32).toInt = 8 := by decide
    have g10 := rgI (jshl s_used 8)
    have l11 : (255 : Int32).toInt = 255 := by decide
    have a12 := an_ v25_5 255 (by decide)
    have g13 := rgI ((jshl s_used 8) ||| (v25_5 &&& 255))
    have q14 := eqI hv8
    refine Sf_wrI (by omega) (by omega) (fun g31_12 hw15 => ?_)
    exact Sf_some trivial
set_option maxHeartbeats 4000000 in
set_option maxRecDepth 100000 in
theorem s_X6_joins (p1 : Int32) (p2 : Int32)  : Sf (f_X6_joins p1 p2) (fun (y : Int32) => ((y.toInt = 0 ∨ y.toInt = 1)) ∧ (y.toInt = 0 ∨ 0 ≤ p2.toInt)) := by
  have g1 := rgI p1
  have g2 := rgI p2
  have hFU : (100000 : Int) ≤ (FU : Int) := Int.ofNat_le.mpr FU_ge
  rw [f_X6_joins]
  refine Sf_ite (fun h3 => ?_) (fun h3 => ?_)
  · skip
    have l4 : (0 : Int32).toInt = 0 := by decide
    have c5 := eqI h3
    refine Sf_ite (fun h6 => ?_) (fun h6 => ?_)
    · skip
      have l7 : (124 : Int32).toInt = 124 := by decide
      have c8 := eqI h6
      have l9 : (1 : Int32).toInt = 1 := by decide
      refine Sf_some (show (((1 : Int32).toInt = 0 ∨ (1 : Int32).toInt = 1)) ∧ ((1 : Int32).toInt = 0 ∨ 0 ≤ p2.toInt) from ?_)
      refine ⟨?_, ?_⟩ <;> (omega)
    · skip
      have l10 : (124 : Int32).toInt = 124 := by decide
      have c11 := neI h6
      refine Sf_some (show (((0 : Int32).toInt = 0 ∨ (0 : Int32).toInt = 1)) ∧ ((0 : Int32).toInt = 0 ∨ 0 ≤ p2.toInt) from ?_)
      refine ⟨?_, ?_⟩ <;> (omega)
  · skip
    have l12 : (0 : Int32).toInt = 0 := by decide
    have c13 := neI h3
    refine Sf_ite (fun h14 => ?_) (fun h14 => ?_)
    · skip
      have l15 : (1 : Int32).toInt = 1 := by decide
      have c16 := eqI h14
      refine Sf_ite (fun h17 => ?_) (fun h17 => ?_)
      · skip
        have l18 : (38 : Int32).toInt = 38 := by decide
        have c19 := eqI h17
        refine Sf_some (show (((1 : Int32).toInt = 0 ∨ (1 : Int32).toInt = 1)) ∧ ((1 : Int32).toInt = 0 ∨ 0 ≤ p2.toInt) from ?_)
        refine ⟨?_, ?_⟩ <;> (omega)
      · skip
        have l20 : (38 : Int32).toInt = 38 := by decide
        have c21 := neI h17
        refine Sf_some (show (((0 : Int32).toInt = 0 ∨ (0 : Int32).toInt = 1)) ∧ ((0 : Int32).toInt = 0 ∨ 0 ≤ p2.toInt) from ?_)
        refine ⟨?_, ?_⟩ <;> (omega)
    · skip
      have l22 : (1 : Int32).toInt = 1 := by decide
      have c23 := neI h14
      refine Sf_ite (fun h24 => ?_) (fun h24 => ?_)
      · skip
        have l25 : (2 : Int32).toInt = 2 := by decide
        have c26 := eqI h24
        refine Sf_ite (fun h27 => ?_) (fun h27 => ?_)
        · skip
          have l28 : (43 : Int32).toInt = 43 := by decide
          have c29 := eqI h27
          refine Sf_some (show (((1 : Int32).toInt = 0 ∨ (1 : Int32).toInt = 1)) ∧ ((1 : Int32).toInt = 0 ∨ 0 ≤ p2.toInt) from ?_)
          refine ⟨?_, ?_⟩ <;> (omega)
        · skip
          have l30 : (43 : Int32).toInt = 43 := by decide
          have c31 := neI h27
          refine Sf_ite (fun h32 => ?_) (fun h32 => ?_)
          · skip
            have l33 : (45 : Int32).toInt = 45 := by decide
            have c34 := eqI h32
            refine Sf_some (show (((1 : Int32).toInt = 0 ∨ (1 : Int32).toInt = 1)) ∧ ((1 : Int32).toInt = 0 ∨ 0 ≤ p2.toInt) from ?_)
            refine ⟨?_, ?_⟩ <;> (omega)
          · skip
            have l35 : (45 : Int32).toInt = 45 := by decide
            have c36 := neI h32
            refine Sf_some (show (((0 : Int32).toInt = 0 ∨ (0 : Int32).toInt = 1)) ∧ ((0 : Int32).toInt = 0 ∨ 0 ≤ p2.toInt) from ?_)
            refine ⟨?_, ?_⟩ <;> (omega)
      · skip
        have l37 : (2 : Int32).toInt = 2 := by decide
        have c38 := neI h24
        refine Sf_ite (fun h39 => ?_) (fun h39 => ?_)
        · skip
          have l40 : (42 : Int32).toInt = 42 := by decide
          have c41 := eqI h39
          refine Sf_some (show (((1 : Int32).toInt = 0 ∨ (1 : Int32).toInt = 1)) ∧ ((1 : Int32).toInt = 0 ∨ 0 ≤ p2.toInt) from ?_)
          refine ⟨?_, ?_⟩ <;> (omega)
        · skip
          have l42 : (42 : Int32).toInt = 42 := by decide
          have c43 := neI h39
          refine Sf_ite (fun h44 => ?_) (fun h44 => ?_)
          · skip
            have l45 : (47 : Int32).toInt = 47 := by decide
            have c46 := eqI h44
            refine Sf_some (show (((1 : Int32).toInt = 0 ∨ (1 : Int32).toInt = 1)) ∧ ((1 : Int32).toInt = 0 ∨ 0 ≤ p2.toInt) from ?_)
            refine ⟨?_, ?_⟩ <;> (omega)
          · skip
            have l47 : (47 : Int32).toInt = 47 := by decide
            have c48 := neI h44
            refine Sf_ite (fun h49 => ?_) (fun h49 => ?_)
            · skip
              have l50 : (37 : Int32).toInt = 37 := by decide
              have c51 := eqI h49
              refine Sf_some (show (((1 : Int32).toInt = 0 ∨ (1 : Int32).toInt = 1)) ∧ ((1 : Int32).toInt = 0 ∨ 0 ≤ p2.toInt) from ?_)
              refine ⟨?_, ?_⟩ <;> (omega)
            · skip
              have l52 : (37 : Int32).toInt = 37 := by decide
              have c53 := neI h49
              refine Sf_some (show (((0 : Int32).toInt = 0 ∨ (0 : Int32).toInt = 1)) ∧ ((0 : Int32).toInt = 0 ∨ 0 ≤ p2.toInt) from ?_)
              refine ⟨?_, ?_⟩ <;> (omega)
set_option maxHeartbeats 4000000 in
set_option maxRecDepth 100000 in
theorem s_X6_isDigit (p1 : Int32)  : Sf (f_X6_isDigit p1) (fun (y : Int32) => ((y.toInt = 0 ∨ y.toInt = 1)) ∧ (y.toInt = 0 ∨ 48 ≤ p1.toInt)) := by
  have g1 := rgI p1
  have hFU : (100000 : Int) ≤ (FU : Int) := Int.ofNat_le.mpr FU_ge
  rw [f_X6_isDigit]
  refine Sf_ite (fun h2 => ?_) (fun h2 => ?_)
  · skip
    have l3 : (48 : Int32).toInt = 48 := by decide
    have c4 := ltI h2
    have l5 : (0 : Int32).toInt = 0 := by decide
    refine Sf_some (show (((0 : Int32).toInt = 0 ∨ (0 : Int32).toInt = 1)) ∧ ((0 : Int32).toInt = 0 ∨ 48 ≤ p1.toInt) from ?_)
    refine ⟨?_, ?_⟩ <;> (omega)
  · skip
    have l6 : (48 : Int32).toInt = 48 := by decide
    have c7 := nltI h2
    refine Sf_ite (fun h8 => ?_) (fun h8 => ?_)
    · skip
      have l9 : (57 : Int32).toInt = 57 := by decide
      have c10 := ltI h8
      have l11 : (0 : Int32).toInt = 0 := by decide
      refine Sf_some (show (((0 : Int32).toInt = 0 ∨ (0 : Int32).toInt = 1)) ∧ ((0 : Int32).toInt = 0 ∨ 48 ≤ p1.toInt) from ?_)
      refine ⟨?_, ?_⟩ <;> (omega)
    · skip
      have l12 : (57 : Int32).toInt = 57 := by decide
      have c13 := nltI h8
      have l14 : (1 : Int32).toInt = 1 := by decide
      refine Sf_some (show (((1 : Int32).toInt = 0 ∨ (1 : Int32).toInt = 1)) ∧ ((1 : Int32).toInt = 0 ∨ 48 ≤ p1.toInt) from ?_)
      refine ⟨?_, ?_⟩ <;> (omega)
set_option maxHeartbeats 4000000 in
set_option maxRecDepth 100000 in
theorem s_X6_numberStands_L4 (s_length : Int32) (n_this_bytes : Nat) (s_bytes : Nat → Int32) (K48 : Int32 → Int32 → Option (Int32 × Int32 × Int32 × Int32 × (Nat → Int32))) (hp0 : s_length.toInt ≤ n_this_bytes) (hK48 : ∀ (a : Int32) (b : Int32), (0 ≤ b.toInt) → (b.toInt ≤ s_length.toInt) → Sf (K48 a b) (fun (y : Int32 × Int32 × Int32 × Int32 × (Nat → Int32)) => (((y.1).toInt = 0 ∨ (y.1).toInt = 1)) ∧ (0 ≤ (y.2.1).toInt ∧ (y.2.1).toInt ≤ s_length.toInt) ∧ (0 ≤ (y.2.2.1).toInt ∧ (y.2.2.1).toInt ≤ 120))) : ∀ (n : Nat) (x1_42 : Int32) (x2_43 : Int32) (at__44 : Int32), (0 ≤ x2_43.toInt) → (x2_43.toInt ≤ 5) → (0 ≤ at__44.toInt) → (at__44.toInt ≤ s_length.toInt) → (6 - x2_43.toInt < (n : Int)) → Sf (f_X6_numberStands_L4 s_length n_this_bytes s_bytes K48 n x1_42 x2_43 at__44) (fun (y : Int32 × Int32 × Int32 × Int32 × (Nat → Int32)) => (((y.1).toInt = 0 ∨ (y.1).toInt = 1)) ∧ (0 ≤ (y.2.1).toInt ∧ (y.2.1).toInt ≤ s_length.toInt) ∧ (0 ≤ (y.2.2.1).toInt ∧ (y.2.2.1).toInt ≤ 120)) := by
  have hFU : (100000 : Int) ≤ (FU : Int) := Int.ofNat_le.mpr FU_ge
  have g1 := rgI s_length
  intro n
  induction n with
  | zero =>
    intro x1_42 x2_43 at__44 hi0 hi1 hi2 hi3 hm
    have g2 := rgI x1_42
    have g3 := rgI x2_43
    have g4 := rgI at__44
    exact absurd hm (by omega)
  | succ n ih =>
    intro x1_42 x2_43 at__44 hi0 hi1 hi2 hi3 hm
    rw [f_X6_numberStands_L4]
    have g5 := rgI x1_42
    have g6 := rgI x2_43
    have g7 := rgI at__44
    refine Sf_ite (fun h8 => ?_) (fun h8 => ?_)
    · skip
      have l9 : (5 : Int32).toInt = 5 := by decide
      have c10 := leI h8
      exact hK48 x1_42 at__44 (by omega) (by omega)
    · skip
      have l11 : (5 : Int32).toInt = 5 := by decide
      have c12 := nleI h8
      refine Sf_cb1 (s_X6_next n_this_bytes s_length at__44 s_bytes (by omega) (by omega)) (fun r10_48 hp13 => ?_)
      have hp13 : (r10_48.toInt = -1 ∨ at__44.toInt < s_length.toInt) := hp13
      have g14 := rgI r10_48
      refine Sf_cb1 (s_X6_isDigit r10_48 ) (fun r13_53 hp15 => ?_)
      have hp15 : ((r13_53.toInt = 0 ∨ r13_53.toInt = 1)) ∧ (r13_53.toInt = 0 ∨ 48 ≤ r10_48.toInt) := hp15
      obtain ⟨hq16, hq17⟩ := hp15
      have g18 := rgI r13_53
      refine Sf_ite (fun h19 => ?_) (fun h19 => ?_)
      · skip
        have l20 : (0 : Int32).toInt = 0 := by decide
        have c21 := eqI h19
        exact hK48 x1_42 at__44 (by omega) (by omega)
      · skip
        have l22 : (0 : Int32).toInt = 0 := by decide
        have c23 := neI h19
        refine Sf_cb1 (s_X6_next n_this_bytes s_length at__44 s_bytes (by omega) (by omega)) (fun r24_61 hp24 => ?_)
        have hp24 : (r24_61.toInt = -1 ∨ at__44.toInt < s_length.toInt) := hp24
        have g25 := rgI r24_61
        refine Sf_nmI (fun v31_66 hv26 => ?_)
        have l27 : (10 : Int32).toInt = 10 := by decide
        have g28 := rgI (10 * x1_42)
        first | have e29 := mlY 10 x1_42 (10) (by decide) (by omega) (by omega) | skip
        have g30 := rgI ((10 * x1_42) + r24_61)
        first | have e31 := adX (10 * x1_42) r24_61 (by omega) (by omega) | skip
        have g32 := rgI (((10 * x1_42) + r24_61) - 48)
        first | have e33 := sbN ((10 * x1_42) + r24_61) 48 (48) (by decide) (by omega) (by omega) | skip
        have q34 := eqI hv26
        refine Sf_nmI (fun v39_70 hv35 => ?_)
        have g36 := rgI (at__44 + 1)
        first | have e37 := adN at__44 1 (1) (by decide) (by omega) (by omega) | skip
        have q38 := eqI hv35
        refine Sf_nmI (fun v42_74 hv39 => ?_)
        have g40 := rgI (x2_43 + 1)
        first | have e41 := adN x2_43 1 (1) (by decide) (by omega) (by omega) | skip
        have q42 := eqI hv39
        exact ih v31_66 v42_74 v39_70 (by omega) (by omega) (by omega) (by omega) (by omega)
set_option maxHeartbeats 4000000 in
set_option maxRecDepth 100000 in
theorem s_X6_numberStands (n_this_bytes : Nat) (s_length : Int32) (s_at : Int32) (s_used : Int32) (s_fault : Int32) (s_bytes : Nat → Int32) (s_code : Nat → Int32) (hp0 : 0 ≤ s_at.toInt) (hp1 : s_at.toInt ≤ s_length.toInt) (hp2 : s_length.toInt ≤ n_this_bytes) (hp3 : s_length.toInt ≤ 200) (hp4 : 0 ≤ s_used.toInt) (hp5 : s_used.toInt ≤ 120) : Sf (f_X6_numberStands n_this_bytes s_length s_at s_used s_fault s_bytes s_code) (fun (y : Int32 × Int32 × Int32 × Int32 × (Nat → Int32)) => (((y.1).toInt = 0 ∨ (y.1).toInt = 1)) ∧ (0 ≤ (y.2.1).toInt ∧ (y.2.1).toInt ≤ s_length.toInt) ∧ (0 ≤ (y.2.2.1).toInt ∧ (y.2.2.1).toInt ≤ 120)) := by
  have g1 := rgI s_length
  have g2 := rgI s_at
  have g3 := rgI s_used
  have g4 := rgI s_fault
  have hFU : (100000 : Int) ≤ (FU : Int) := Int.ofNat_le.mpr FU_ge
  rw [f_X6_numberStands]
  have l5 : (0 : Int32).toInt = 0 := by decide
  refine s_X6_numberStands_L4 s_length n_this_bytes s_bytes (f_X6_numberStands_J48 s_length s_used s_fault n_this_bytes s_bytes s_code) (by omega) ?_ FU 0 0 s_at (by omega) (by omega) (by omega) (by omega) (by omega)
  · intro z6 z7 hk8 hk9
    have g10 := rgI z6
    have g11 := rgI z7
    have hk8 : 0 ≤ z7.toInt := hk8
    have hk9 : z7.toInt ≤ s_length.toInt := hk9
    rw [f_X6_numberStands_J48]
    refine Sf_cb1 (s_X6_next n_this_bytes s_length z7 s_bytes (by omega) (by omega)) (fun r49_5 hp12 => ?_)
    have hp12 : (r49_5.toInt = -1 ∨ z7.toInt < s_length.toInt) := hp12
    have g13 := rgI r49_5
    refine Sf_cb1 (s_X6_isDigit r49_5 ) (fun r52_10 hp14 => ?_)
    have hp14 : ((r52_10.toInt = 0 ∨ r52_10.toInt = 1)) ∧ (r52_10.toInt = 0 ∨ 48 ≤ r49_5.toInt) := hp14
    obtain ⟨hq15, hq16⟩ := hp14
    have g17 := rgI r52_10
    refine Sf_ite (fun h18 => ?_) (fun h18 => ?_)
    · skip
      have c19 := eqI h18
      have l20 : (48 : Int32).toInt = 48 := by decide
      refine Sf_cb2 (s_X6_put s_used s_code 48 z6 (by omega) (by omega)) (fun o_used68_18 o_code68_19 hp21 => ?_)
      have hp21 : (s_used.toInt ≤ o_used68_18.toInt ∧ o_used68_18.toInt ≤ 120) := hp21
      have g22 := rgI o_used68_18
      have l23 : (1 : Int32).toInt = 1 := by decide
      refine Sf_some (show (((1 : Int32).toInt = 0 ∨ (1 : Int32).toInt = 1)) ∧ (0 ≤ z7.toInt ∧ z7.toInt ≤ s_length.toInt) ∧ (0 ≤ o_used68_18.toInt ∧ o_used68_18.toInt ≤ 120) from ?_)
      refine ⟨?_, ?_, ?_⟩ <;> (omega)
    · skip
      have c24 := neI h18
      have l25 : (2 : Int32).toInt = 2 := by decide
      refine Sf_cb2 (s_X6_fail s_fault 2 ) (fun r60_29 o_fault60_30 hp26 => ?_)
      have hp26 : ((r60_29.toInt = 0 ∨ r60_29.toInt = 1)) ∧ (r60_29.toInt = 0) := hp26
      obtain ⟨hq27, hq28⟩ := hp26
      have g29 := rgI r60_29
      have g30 := rgI o_fault60_30
      refine Sf_bo (by omega) ?_
      refine Sf_some (show ((r60_29.toInt = 0 ∨ r60_29.toInt = 1)) ∧ (0 ≤ z7.toInt ∧ z7.toInt ≤ s_length.toInt) ∧ (0 ≤ s_used.toInt ∧ s_used.toInt ≤ 120) from ?_)
      refine ⟨?_, ?_, ?_⟩ <;> (omega)
set_option maxHeartbeats 4000000 in
set_option maxRecDepth 100000 in
theorem s_X6_faultCode (s_at : Int32) (s_fault : Int32)  : Sf (f_X6_faultCode s_at s_fault) (fun (y : Int32) => True) := by
  have g1 := rgI s_at
  have g2 := rgI s_fault
  have hFU : (100000 : Int) ≤ (FU : Int) := Int.ofNat_le.mpr FU_ge
  rw [f_X6_faultCode]
  exact Sf_some trivial
