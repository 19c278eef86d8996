set_option maxHeartbeats 4000000 in
set_option maxRecDepth 100000 in
theorem s_X12_push_L3 (p1 : Int32) (c : Int) : ∀ (n : Nat) (x2_2 : Int32) (taped__3 : Int32) (tape__4 : Nat → Int32), ((x2_2.toInt = -8 ∨ x2_2.toInt = 0 ∨ x2_2.toInt = 8 ∨ x2_2.toInt = 16 ∨ x2_2.toInt = 24)) → (0 ≤ taped__3.toInt) → (8 * taped__3.toInt + x2_2.toInt = 8 * c + 24) → (c ≤ 196) → (x2_2.toInt + 9 < (n : Int)) → Sf (f_X12_push_L3 p1 n x2_2 taped__3 tape__4) (fun (y : Int32 × (Nat → Int32)) => (y.1).toInt = c + 4) := by
  intro n
  induction n with
  | zero =>
    intro x2_2 taped__3 tape__4 hi0 hi1 hi2 hi3 hm
    exact absurd hm (by omega)
  | succ n ih =>
    intro x2_2 taped__3 tape__4 hi0 hi1 hi2 hi3 hm
    rw [f_X12_push_L3]
    have g4 := rgI x2_2
    have g5 := rgI taped__3
    refine Sf_ite (fun h6 => ?_) (fun h6 => ?_)
    · skip
      have l7 : (0 : Int32).toInt = 0 := by decide
      have c8 := ltI h6
      refine Sf_some (show taped__3.toInt = c + 4 from ?_)
      omega
    · skip
      have l9 : (0 : Int32).toInt = 0 := by decide
      have c10 := nltI h6
      refine Sf_nmI (fun v19_10 hv11 => ?_)
      have q12 := eqI hv11
      refine Sf_wrB (by omega) (by omega) (fun g19_13 hw13 => ?_)
      refine Sf_nmI (fun v27_18 hv14 => ?_)
      have e16 := adN taped__3 1 (1) (by decide) (by omega) (by omega)
      have q17 := eqI hv14
      refine Sf_nmI (fun v30_22 hv18 => ?_)
      have q20 := (eqI hv18).trans (adN x2_2 (-8) (-8) (by decide) (by omega) (by omega))
      exact ih v30_22 v27_18 g19_13 (by omega) (by omega) (by omega) (by omega) (by omega)
set_option maxHeartbeats 4000000 in
set_option maxRecDepth 100000 in
theorem s_X12_push (s_taped : Int32) (s_tape : Nat → Int32) (p1 : Int32) (hp0 : 0 ≤ s_taped.toInt) (hp1 : s_taped.toInt ≤ 196) : Sf (f_X12_push s_taped s_tape p1) (fun (y : Int32 × (Nat → Int32)) => ((y.1).toInt = s_taped.toInt + 4)) := by
  have hFU : (100000 : Int) ≤ (FU : Int) := Int.ofNat_le.mpr FU_ge
  rw [f_X12_push]
  have l3 : (24 : Int32).toInt = 24 := by decide
  exact s_X12_push_L3 p1 s_taped.toInt FU 24 s_taped s_tape (by omega) (by omega) (by omega) (by omega) (by omega)
set_option maxHeartbeats 4000000 in
set_option maxRecDepth 100000 in
theorem s_X12_lies (p1 : Int64) (p2 : Int64) (p3 : Int64)  : Sf (f_X12_lies p1 p2 p3) (fun (y : Int32) => ((y.toInt = 0 ∨ y.toInt = 1)) ∧ ((y.toInt = 1 ∧ p2.toInt ≤ p1.toInt ∧ p1.toInt ≤ p3.toInt) ∨ (y.toInt = 0 ∧ (p1.toInt < p2.toInt ∨ p3.toInt < p1.toInt)))) := by
  have hFU : (100000 : Int) ≤ (FU : Int) := Int.ofNat_le.mpr FU_ge
  rw [f_X12_lies]
  refine Sf_ite (fun h1 => ?_) (fun h1 => ?_)
  · skip
    rw [lg_lt] at h1
    have l2 : (0 : Int32).toInt = 0 := by decide
    refine Sf_some (show (((0 : Int32).toInt = 0 ∨ (0 : Int32).toInt = 1)) ∧ (((0 : Int32).toInt = 1 ∧ p2.toInt ≤ p1.toInt ∧ p1.toInt ≤ p3.toInt) ∨ ((0 : Int32).toInt = 0 ∧ (p1.toInt < p2.toInt ∨ p3.toInt < p1.toInt))) from ?_)
    refine ⟨?_, ?_⟩ <;> (omega)
  · skip
    rw [lg_lt] at h1
    refine Sf_ite (fun h3 => ?_) (fun h3 => ?_)
    · skip
      rw [lg_gt] at h3
      have l4 : (0 : Int32).toInt = 0 := by decide
      refine Sf_some (show (((0 : Int32).toInt = 0 ∨ (0 : Int32).toInt = 1)) ∧ (((0 : Int32).toInt = 1 ∧ p2.toInt ≤ p1.toInt ∧ p1.toInt ≤ p3.toInt) ∨ ((0 : Int32).toInt = 0 ∧ (p1.toInt < p2.toInt ∨ p3.toInt < p1.toInt))) from ?_)
      refine ⟨?_, ?_⟩ <;> (omega)
    · skip
      rw [lg_gt] at h3
      have l5 : (1 : Int32).toInt = 1 := by decide
      refine Sf_some (show (((1 : Int32).toInt = 0 ∨ (1 : Int32).toInt = 1)) ∧ (((1 : Int32).toInt = 1 ∧ p2.toInt ≤ p1.toInt ∧ p1.toInt ≤ p3.toInt) ∨ ((1 : Int32).toInt = 0 ∧ (p1.toInt < p2.toInt ∨ p3.toInt < p1.toInt))) from ?_)
      refine ⟨?_, ?_⟩ <;> (omega)
set_option maxHeartbeats 4000000 in
set_option maxRecDepth 100000 in
theorem s_X12_has (p1 : Int32) (p2 : Int32)  : Sf (f_X12_has p1 p2) (fun (y : Int32) => ((y.toInt = 0 ∨ y.toInt = 1))) := by
  have g1 := rgI p1
  have g2 := rgI p2
  have hFU : (100000 : Int) ≤ (FU : Int) := Int.ofNat_le.mpr FU_ge
  rw [f_X12_has]
  refine Sf_ite (fun h3 => ?_) (fun h3 => ?_)
  · skip
    have g4 := rgI (jshr p1 p2)
    have l5 : (1 : Int32).toInt = 1 := by decide
    have a6 := an_ (jshr p1 p2) 1 (by decide)
    have c7 := eqI h3
    refine Sf_some (show (((1 : Int32).toInt = 0 ∨ (1 : Int32).toInt = 1)) from ?_)
    (omega)
  · skip
    have g8 := rgI (jshr p1 p2)
    have l9 : (1 : Int32).toInt = 1 := by decide
    have a10 := an_ (jshr p1 p2) 1 (by decide)
    have c11 := neI h3
    have l12 : (0 : Int32).toInt = 0 := by decide
    refine Sf_some (show (((0 : Int32).toInt = 0 ∨ (0 : Int32).toInt = 1)) from ?_)
    (omega)
set_option maxHeartbeats 4000000 in
set_option maxRecDepth 100000 in
theorem s_X12_feed (s_taped : Int32) (s_tape : Nat → Int32) (p1 : Int32) (p2 : Int32) (p3 : Int32) (p4 : Int32) (p5 : Int32) (hp0 : 0 ≤ s_taped.toInt) (hp1 : s_taped.toInt ≤ 200) : Sf (f_X12_feed s_taped s_tape p1 p2 p3 p4 p5) (fun (y : Int32 × Int32 × (Nat → Int32)) => (0 ≤ (y.2.1).toInt ∧ (y.2.1).toInt ≤ 200)) := by
  have g1 := rgI s_taped
  have g2 := rgI p1
  have g3 := rgI p2
  have g4 := rgI p3
  have g5 := rgI p4
  have g6 := rgI p5
  have hFU : (100000 : Int) ≤ (FU : Int) := Int.ofNat_le.mpr FU_ge
  rw [f_X12_feed]
  refine Sf_ite (fun h7 => ?_) (fun h7 => ?_)
  · skip
    have g8 := rgI (s_taped + 20)
    first | have e9 := adN s_taped 20 (20) (by decide) (by omega) (by omega) | skip
    have l10 : (200 : Int32).toInt = 200 := by decide
    have c11 := leI h7
    refine Sf_cb2 (s_X12_push s_taped s_tape p1 (by omega) (by omega)) (fun o_taped17_4 o_tape17_5 hp12 => ?_)
    have hp12 : (o_taped17_4.toInt = s_taped.toInt + 4) := hp12
    have g13 := rgI o_taped17_4
    refine Sf_cb2 (s_X12_push o_taped17_4 o_tape17_5 p2 (by omega) (by omega)) (fun o_taped22_10 o_tape22_11 hp14 => ?_)
    have hp14 : (o_taped22_10.toInt = o_taped17_4.toInt + 4) := hp14
    have g15 := rgI o_taped22_10
    refine Sf_cb2 (s_X12_push o_taped22_10 o_tape22_11 p3 (by omega) (by omega)) (fun o_taped27_16 o_tape27_17 hp16 => ?_)
    have hp16 : (o_taped27_16.toInt = o_taped22_10.toInt + 4) := hp16
    have g17 := rgI o_taped27_16
    refine Sf_cb2 (s_X12_push o_taped27_16 o_tape27_17 p4 (by omega) (by omega)) (fun o_taped33_22 o_tape33_23 hp18 => ?_)
    have hp18 : (o_taped33_22.toInt = o_taped27_16.toInt + 4) := hp18
    have g19 := rgI o_taped33_22
    refine Sf_cb2 (s_X12_push o_taped33_22 o_tape33_23 p5 (by omega) (by omega)) (fun o_taped39_28 o_tape39_29 hp20 => ?_)
    have hp20 : (o_taped39_28.toInt = o_taped33_22.toInt + 4) := hp20
    have g21 := rgI o_taped39_28
    refine Sf_some (show (0 ≤ o_taped39_28.toInt ∧ o_taped39_28.toInt ≤ 200) from ?_)
    (omega)
  · skip
    have g22 := rgI (s_taped + 20)
    first | have e23 := adN s_taped 20 (20) (by decide) (by omega) (by omega) | skip
    have l24 : (200 : Int32).toInt = 200 := by decide
    have c25 := nleI h7
    have l26 : ((-1) : Int32).toInt = -1 := by decide
    refine Sf_some (show (0 ≤ s_taped.toInt ∧ s_taped.toInt ≤ 200) from ?_)
    (omega)
set_option maxHeartbeats 4000000 in
set_option maxRecDepth 100000 in
theorem s_X12_isSource (s_sources : Int32) (p1 : Int32) (hp0 : 0 ≤ s_sources.toInt) (hp1 : s_sources.toInt ≤ 10) : Sf (f_X12_isSource s_sources p1) (fun (y : Int32) => ((y.toInt = 0 ∨ y.toInt = 1)) ∧ (y.toInt = 0 ∨ (0 ≤ p1.toInt ∧ p1.toInt < s_sources.toInt))) := by
  have g1 := rgI s_sources
  have g2 := rgI p1
  have hFU : (100000 : Int) ≤ (FU : Int) := Int.ofNat_le.mpr FU_ge
  rw [f_X12_isSource]
  have t3 := t64 p1
  have l4 : (0 : Int64).toInt = 0 := by decide
  have g5 := rgI (s_sources - 1)
  first | have e6 := sbN s_sources 1 (1) (by decide) (by omega) (by omega) | skip
  have t7 := t64 (s_sources - 1)
  refine Sf_cb1 (s_X12_lies (Int32.toInt64 p1) 0 (Int32.toInt64 (s_sources - 1)) ) (fun r10_1 hp8 => ?_)
  have hp8 : ((r10_1.toInt = 0 ∨ r10_1.toInt = 1)) ∧ ((r10_1.toInt = 1 ∧ (0 : Int64).toInt ≤ (Int32.toInt64 p1).toInt ∧ (Int32.toInt64 p1).toInt ≤ (Int32.toInt64 (s_sources - 1)).toInt) ∨ (r10_1.toInt = 0 ∧ ((Int32.toInt64 p1).toInt < (0 : Int64).toInt ∨ (Int32.toInt64 (s_sources - 1)).toInt < (Int32.toInt64 p1).toInt))) := hp8
  obtain ⟨hq9, hq10⟩ := hp8
  have g11 := rgI r10_1
  refine Sf_bo (by omega) ?_
  refine Sf_some (show ((r10_1.toInt = 0 ∨ r10_1.toInt = 1)) ∧ (r10_1.toInt = 0 ∨ (0 ≤ p1.toInt ∧ p1.toInt < s_sources.toInt)) from ?_)
  refine ⟨?_, ?_⟩ <;> (omega)
set_option maxHeartbeats 4000000 in
set_option maxRecDepth 100000 in
theorem s_X12_isReader (p1 : Int32)  : Sf (f_X12_isReader p1) (fun (y : Int32) => ((y.toInt = 0 ∨ y.toInt = 1)) ∧ ((y.toInt = 1 ∧ 0 ≤ p1.toInt ∧ p1.toInt ≤ 3) ∨ (y.toInt = 0 ∧ (p1.toInt < 0 ∨ 3 < p1.toInt)))) := by
  have g1 := rgI p1
  have hFU : (100000 : Int) ≤ (FU : Int) := Int.ofNat_le.mpr FU_ge
  rw [f_X12_isReader]
  have t2 := t64 p1
  have l3 : (0 : Int64).toInt = 0 := by decide
  have l4 : (3 : Int64).toInt = 3 := by decide
  refine Sf_cb1 (s_X12_lies (Int32.toInt64 p1) 0 3 ) (fun r6_1 hp5 => ?_)
  have hp5 : ((r6_1.toInt = 0 ∨ r6_1.toInt = 1)) ∧ ((r6_1.toInt = 1 ∧ (0 : Int64).toInt ≤ (Int32.toInt64 p1).toInt ∧ (Int32.toInt64 p1).toInt ≤ (3 : Int64).toInt) ∨ (r6_1.toInt = 0 ∧ ((Int32.toInt64 p1).toInt < (0 : Int64).toInt ∨ (3 : Int64).toInt < (Int32.toInt64 p1).toInt))) := hp5
  obtain ⟨hq6, hq7⟩ := hp5
  have g8 := rgI r6_1
  refine Sf_bo (by omega) ?_
  refine Sf_some (show ((r6_1.toInt = 0 ∨ r6_1.toInt = 1)) ∧ ((r6_1.toInt = 1 ∧ 0 ≤ p1.toInt ∧ p1.toInt ≤ 3) ∨ (r6_1.toInt = 0 ∧ (p1.toInt < 0 ∨ 3 < p1.toInt))) from ?_)
  refine ⟨?_, ?_⟩ <;> (omega)
set_option maxHeartbeats 4000000 in
set_option maxRecDepth 100000 in
theorem s_X12_canRead (s_taped : Int32) (p1 : Int32) (p2 : Int32)  : Sf (f_X12_canRead s_taped p1 p2) (fun (y : Int32) => ((y.toInt = 0 ∨ y.toInt = 1)) ∧ (y.toInt = 0 ∨ (1 ≤ p1.toInt ∧ p1.toInt ≤ p2.toInt ∧ p1.toInt ≤ s_taped.toInt))) := by
  have g1 := rgI s_taped
  have g2 := rgI p1
  have g3 := rgI p2
  have hFU : (100000 : Int) ≤ (FU : Int) := Int.ofNat_le.mpr FU_ge
  rw [f_X12_canRead]
  have t4 := t64 p1
  have l5 : (1 : Int64).toInt = 1 := by decide
  have t6 := t64 p2
  refine Sf_cb1 (s_X12_lies (Int32.toInt64 p1) 1 (Int32.toInt64 p2) ) (fun r5_1 hp7 => ?_)
  have hp7 : ((r5_1.toInt = 0 ∨ r5_1.toInt = 1)) ∧ ((r5_1.toInt = 1 ∧ (1 : Int64).toInt ≤ (Int32.toInt64 p1).toInt ∧ (Int32.toInt64 p1).toInt ≤ (Int32.toInt64 p2).toInt) ∨ (r5_1.toInt = 0 ∧ ((Int32.toInt64 p1).toInt < (1 : Int64).toInt ∨ (Int32.toInt64 p2).toInt < (Int32.toInt64 p1).toInt))) := hp7
  obtain ⟨hq8, hq9⟩ := hp7
  have g10 := rgI r5_1
  refine Sf_ite (fun h11 => ?_) (fun h11 => ?_)
  · skip
    have l12 : (0 : Int32).toInt = 0 := by decide
    have c13 := eqI h11
    refine Sf_some (show (((0 : Int32).toInt = 0 ∨ (0 : Int32).toInt = 1)) ∧ ((0 : Int32).toInt = 0 ∨ (1 ≤ p1.toInt ∧ p1.toInt ≤ p2.toInt ∧ p1.toInt ≤ s_taped.toInt)) from ?_)
    refine ⟨?_, ?_⟩ <;> (omega)
  · skip
    have l14 : (0 : Int32).toInt = 0 := by decide
    have c15 := neI h11
    refine Sf_ite (fun h16 => ?_) (fun h16 => ?_)
    · skip
      have c17 := ltI h16
      refine Sf_some (show (((0 : Int32).toInt = 0 ∨ (0 : Int32).toInt = 1)) ∧ ((0 : Int32).toInt = 0 ∨ (1 ≤ p1.toInt ∧ p1.toInt ≤ p2.toInt ∧ p1.toInt ≤ s_taped.toInt)) from ?_)
      refine ⟨?_, ?_⟩ <;> (omega)
    · skip
      have c18 := nltI h16
      have l19 : (1 : Int32).toInt = 1 := by decide
      refine Sf_some (show (((1 : Int32).toInt = 0 ∨ (1 : Int32).toInt = 1)) ∧ ((1 : Int32).toInt = 0 ∨ (1 ≤ p1.toInt ∧ p1.toInt ≤ p2.toInt ∧ p1.toInt ≤ s_taped.toInt)) from ?_)
      refine ⟨?_, ?_⟩ <;> (omega)
set_option maxHeartbeats 4000000 in
set_option maxRecDepth 100000 in
theorem s_X12_isTale (p1 : Int32)  : Sf (f_X12_isTale p1) (fun (y : Int32) => ((y.toInt = 0 ∨ y.toInt = 1)) ∧ ((y.toInt = 1 ∧ 0 ≤ p1.toInt ∧ p1.toInt ≤ 5) ∨ (y.toInt = 0 ∧ (p1.toInt < 0 ∨ 5 < p1.toInt)))) := by
  have g1 := rgI p1
  have hFU : (100000 : Int) ≤ (FU : Int) := Int.ofNat_le.mpr FU_ge
  rw [f_X12_isTale]
  have t2 := t64 p1
  have l3 : (0 : Int64).toInt = 0 := by decide
  have l4 : (5 : Int64).toInt = 5 := by decide
  refine Sf_cb1 (s_X12_lies (Int32.toInt64 p1) 0 5 ) (fun r6_1 hp5 => ?_)
  have hp5 : ((r6_1.toInt = 0 ∨ r6_1.toInt = 1)) ∧ ((r6_1.toInt = 1 ∧ (0 : Int64).toInt ≤ (Int32.toInt64 p1).toInt ∧ (Int32.toInt64 p1).toInt ≤ (5 : Int64).toInt) ∨ (r6_1.toInt = 0 ∧ ((Int32.toInt64 p1).toInt < (0 : Int64).toInt ∨ (5 : Int64).toInt < (Int32.toInt64 p1).toInt))) := hp5
  obtain ⟨hq6, hq7⟩ := hp5
  have g8 := rgI r6_1
  refine Sf_bo (by omega) ?_
  refine Sf_some (show ((r6_1.toInt = 0 ∨ r6_1.toInt = 1)) ∧ ((r6_1.toInt = 1 ∧ 0 ≤ p1.toInt ∧ p1.toInt ≤ 5) ∨ (r6_1.toInt = 0 ∧ (p1.toInt < 0 ∨ 5 < p1.toInt))) from ?_)
  refine ⟨?_, ?_⟩ <;> (omega)
set_option maxHeartbeats 4000000 in
set_option maxRecDepth 100000 in
theorem s_X12_isDay (p1 : Int32)  : Sf (f_X12_isDay p1) (fun (y : Int32) => ((y.toInt = 0 ∨ y.toInt = 1)) ∧ ((y.toInt = 1 ∧ 0 ≤ p1.toInt ∧ p1.toInt ≤ 399) ∨ (y.toInt = 0 ∧ (p1.toInt < 0 ∨ 399 < p1.toInt)))) := by
  have g1 := rgI p1
  have hFU : (100000 : Int) ≤ (FU : Int) := Int.ofNat_le.mpr FU_ge
  rw [f_X12_isDay]
  have t2 := t64 p1
  have l3 : (0 : Int64).toInt = 0 := by decide
  have l4 : (399 : Int64).toInt = 399 := by decide
  refine Sf_cb1 (s_X12_lies (Int32.toInt64 p1) 0 399 ) (fun r6_1 hp5 => ?_)
  have hp5 : ((r6_1.toInt = 0 ∨ r6_1.toInt = 1)) ∧ ((r6_1.toInt = 1 ∧ (0 : Int64).toInt ≤ (Int32.toInt64 p1).toInt ∧ (Int32.toInt64 p1).toInt ≤ (399 : Int64).toInt) ∨ (r6_1.toInt = 0 ∧ ((Int32.toInt64 p1).toInt < (0 : Int64).toInt ∨ (399 : Int64).toInt < (Int32.toInt64 p1).toInt))) := hp5
  obtain ⟨hq6, hq7⟩ := hp5
  have g8 := rgI r6_1
  refine Sf_bo (by omega) ?_
  refine Sf_some (show ((r6_1.toInt = 0 ∨ r6_1.toInt = 1)) ∧ ((r6_1.toInt = 1 ∧ 0 ≤ p1.toInt ∧ p1.toInt ≤ 399) ∨ (r6_1.toInt = 0 ∧ (p1.toInt < 0 ∨ 399 < p1.toInt))) from ?_)
  refine ⟨?_, ?_⟩ <;> (omega)
set_option maxHeartbeats 4000000 in
set_option maxRecDepth 100000 in
theorem s_X12_isMinute (p1 : Int32)  : Sf (f_X12_isMinute p1) (fun (y : Int32) => ((y.toInt = 0 ∨ y.toInt = 1)) ∧ ((y.toInt = 1 ∧ 0 ≤ p1.toInt ∧ p1.toInt ≤ 1439) ∨ (y.toInt = 0 ∧ (p1.toInt < 0 ∨ 1439 < p1.toInt)))) := by
  have g1 := rgI p1
  have hFU : (100000 : Int) ≤ (FU : Int) := Int.ofNat_le.mpr FU_ge
  rw [f_X12_isMinute]
  have t2 := t64 p1
  have l3 : (0 : Int64).toInt = 0 := by decide
  have l4 : (1439 : Int64).toInt = 1439 := by decide
  refine Sf_cb1 (s_X12_lies (Int32.toInt64 p1) 0 1439 ) (fun r6_1 hp5 => ?_)
  have hp5 : ((r6_1.toInt = 0 ∨ r6_1.toInt = 1)) ∧ ((r6_1.toInt = 1 ∧ (0 : Int64).toInt ≤ (Int32.toInt64 p1).toInt ∧ (Int32.toInt64 p1).toInt ≤ (1439 : Int64).toInt) ∨ (r6_1.toInt = 0 ∧ ((Int32.toInt64 p1).toInt < (0 : Int64).toInt ∨ (1439 : Int64).toInt < (Int32.toInt64 p1).toInt))) := hp5
  obtain ⟨hq6, hq7⟩ := hp5
  have g8 := rgI r6_1
  refine Sf_bo (by omega) ?_
  refine Sf_some (show ((r6_1.toInt = 0 ∨ r6_1.toInt = 1)) ∧ ((r6_1.toInt = 1 ∧ 0 ≤ p1.toInt ∧ p1.toInt ≤ 1439) ∨ (r6_1.toInt = 0 ∧ (p1.toInt < 0 ∨ 1439 < p1.toInt))) from ?_)
  refine ⟨?_, ?_⟩ <;> (omega)
set_option maxHeartbeats 4000000 in
set_option maxRecDepth 100000 in
theorem s_X12_source (s_sources : Int32) (s_byStar : Nat → Int32) (s_minuteOf : Nat → Int32) (s_shape : Nat → Int32) (s_weekdays : Nat → Int32) (s_wide : Nat → Int32) (p1 : Int32) (p2 : Int32) (p3 : Int32) (p4 : Int32) (p5 : Int32) (hp0 : 0 ≤ s_sources.toInt) (hp1 : s_sources.toInt ≤ 10) : Sf (f_X12_source s_sources s_byStar s_minuteOf s_shape s_weekdays s_wide p1 p2 p3 p4 p5) (fun (y : Int32 × Int32 × (Nat → Int32) × (Nat → Int32) × (Nat → Int32) × (Nat → Int32) × (Nat → Int32)) => (0 ≤ (y.2.1).toInt ∧ (y.2.1).toInt ≤ 10)) := by
  have g1 := rgI s_sources
  have g2 := rgI p1
  have g3 := rgI p2
  have g4 := rgI p3
  have g5 := rgI p4
  have g6 := rgI p5
  have hFU : (100000 : Int) ≤ (FU : Int) := Int.ofNat_le.mpr FU_ge
  rw [f_X12_source]
  refine Sf_ite (fun h7 => ?_) (fun h7 => ?_)
  · skip
    have l8 : (10 : Int32).toInt = 10 := by decide
    have c9 := eqI h7
    have l10 : ((-1) : Int32).toInt = -1 := by decide
    refine Sf_some (show (0 ≤ s_sources.toInt ∧ s_sources.toInt ≤ 10) from ?_)
    (omega)
  · skip
    have l11 : (10 : Int32).toInt = 10 := by decide
    have c12 := neI h7
    refine Sf_cb1 (s_X12_isMinute p2 ) (fun r10_11 hp13 => ?_)
    have hp13 : ((r10_11.toInt = 0 ∨ r10_11.toInt = 1)) ∧ ((r10_11.toInt = 1 ∧ 0 ≤ p2.toInt ∧ p2.toInt ≤ 1439) ∨ (r10_11.toInt = 0 ∧ (p2.toInt < 0 ∨ 1439 < p2.toInt))) := hp13
    obtain ⟨hq14, hq15⟩ := hp13
    have g16 := rgI r10_11
    refine Sf_ite (fun h17 => ?_) (fun h17 => ?_)
    · skip
      have l18 : (0 : Int32).toInt = 0 := by decide
      have c19 := eqI h17
      have l20 : ((-1) : Int32).toInt = -1 := by decide
      refine Sf_some (show (0 ≤ s_sources.toInt ∧ s_sources.toInt ≤ 10) from ?_)
      (omega)
    · skip
      have l21 : (0 : Int32).toInt = 0 := by decide
      have c22 := neI h17
      have t23 := t64 p3
      have l24 : (0 : Int64).toInt = 0 := by decide
      have l25 : (30 : Int64).toInt = 30 := by decide
      refine Sf_cb1 (s_X12_lies (Int32.toInt64 p3) 0 30 ) (fun r22_26 hp26 => ?_)
      have hp26 : ((r22_26.toInt = 0 ∨ r22_26.toInt = 1)) ∧ ((r22_26.toInt = 1 ∧ (0 : Int64).toInt ≤ (Int32.toInt64 p3).toInt ∧ (Int32.toInt64 p3).toInt ≤ (30 : Int64).toInt) ∨ (r22_26.toInt = 0 ∧ ((Int32.toInt64 p3).toInt < (0 : Int64).toInt ∨ (30 : Int64).toInt < (Int32.toInt64 p3).toInt))) := hp26
      obtain ⟨hq27, hq28⟩ := hp26
      have g29 := rgI r22_26
      refine Sf_ite (fun h30 => ?_) (fun h30 => ?_)
      · skip
        have c31 := eqI h30
        have l32 : ((-1) : Int32).toInt = -1 := by decide
        refine Sf_some (show (0 ≤ s_sources.toInt ∧ s_sources.toInt ≤ 10) from ?_)
        (omega)
      · skip
        have c33 := neI h30
        have t34 := t64 p4
        have l35 : (3 : Int64).toInt = 3 := by decide
        refine Sf_cb1 (s_X12_lies (Int32.toInt64 p4) 0 3 ) (fun r35_41 hp36 => ?_)
        have hp36 : ((r35_41.toInt = 0 ∨ r35_41.toInt = 1)) ∧ ((r35_41.toInt = 1 ∧ (0 : Int64).toInt ≤ (Int32.toInt64 p4).toInt ∧ (Int32.toInt64 p4).toInt ≤ (3 : Int64).toInt) ∨ (r35_41.toInt = 0 ∧ ((Int32.toInt64 p4).toInt < (0 : Int64).toInt ∨ (3 : Int64).toInt < (Int32.toInt64 p4).toInt))) := hp36
        obtain ⟨hq37, hq38⟩ := hp36
        have g39 := rgI r35_41
        refine Sf_ite (fun h40 => ?_) (fun h40 => ?_)
        · skip
          have c41 := eqI h40
          have l42 : ((-1) : Int32).toInt = -1 := by decide
          refine Sf_some (show (0 ≤ s_sources.toInt ∧ s_sources.toInt ≤ 10) from ?_)
          (omega)
        · skip
          have c43 := neI h40
          have t44 := t64 p5
          have l45 : (127 : Int64).toInt = 127 := by decide
          refine Sf_cb1 (s_X12_lies (Int32.toInt64 p5) 0 127 ) (fun r48_56 hp46 => ?_)
          have hp46 : ((r48_56.toInt = 0 ∨ r48_56.toInt = 1)) ∧ ((r48_56.toInt = 1 ∧ (0 : Int64).toInt ≤ (Int32.toInt64 p5).toInt ∧ (Int32.toInt64 p5).toInt ≤ (127 : Int64).toInt) ∨ (r48_56.toInt = 0 ∧ ((Int32.toInt64 p5).toInt < (0 : Int64).toInt ∨ (127 : Int64).toInt < (Int32.toInt64 p5).toInt))) := hp46
          obtain ⟨hq47, hq48⟩ := hp46
          have g49 := rgI r48_56
          refine Sf_ite (fun h50 => ?_) (fun h50 => ?_)
          · skip
            have c51 := eqI h50
            have l52 : ((-1) : Int32).toInt = -1 := by decide
            refine Sf_some (show (0 ≤ s_sources.toInt ∧ s_sources.toInt ≤ 10) from ?_)
            (omega)
          · skip
            have c53 := neI h50
            refine Sf_wrZ (by omega) (by omega) (fun g65_64 hw54 => ?_)
            refine Sf_wrI (by omega) (by omega) (fun g75_69 hw55 => ?_)
            refine Sf_wrI (by omega) (by omega) (fun g85_74 hw56 => ?_)
            refine Sf_wrI (by omega) (by omega) (fun g96_79 hw57 => ?_)
            refine Sf_wrI (by omega) (by omega) (fun g107_84 hw58 => ?_)
            refine Sf_nmI (fun v115_89 hv59 => ?_)
            have g60 := rgI (s_sources + 1)
            first | have e61 := adN s_sources 1 (1) (by decide) (by omega) (by omega) | skip
            have q62 := eqI hv59
            have g63 := rgI (v115_89 - 1)
            first | have e64 := sbN v115_89 1 (1) (by decide) (by omega) (by omega) | skip
            refine Sf_some (show (0 ≤ v115_89.toInt ∧ v115_89.toInt ≤ 10) from ?_)
            (omega)
set_option maxHeartbeats 4000000 in
set_option maxRecDepth 100000 in
theorem s_X12_seed (s_seed : Int32) (p1 : Int32)  : Sf (f_X12_seed s_seed p1) (fun (y : Int32 × Int32) => (((y.1).toInt = 0 ∨ (y.1).toInt = 1))) := by
  have g1 := rgI s_seed
  have g2 := rgI p1
  have hFU : (100000 : Int) ≤ (FU : Int) := Int.ofNat_le.mpr FU_ge
  rw [f_X12_seed]
  have t3 := t64 p1
  have l4 : (0 : Int64).toInt = 0 := by decide
  have l5 : (999 : Int64).toInt = 999 := by decide
  refine Sf_cb1 (s_X12_lies (Int32.toInt64 p1) 0 999 ) (fun r6_1 hp6 => ?_)
  have hp6 : ((r6_1.toInt = 0 ∨ r6_1.toInt = 1)) ∧ ((r6_1.toInt = 1 ∧ (0 : Int64).toInt ≤ (Int32.toInt64 p1).toInt ∧ (Int32.toInt64 p1).toInt ≤ (999 : Int64).toInt) ∨ (r6_1.toInt = 0 ∧ ((Int32.toInt64 p1).toInt < (0 : Int64).toInt ∨ (999 : Int64).toInt < (Int32.toInt64 p1).toInt))) := hp6
  obtain ⟨hq7, hq8⟩ := hp6
  have g9 := rgI r6_1
  refine Sf_ite (fun h10 => ?_) (fun h10 => ?_)
  · skip
    have l11 : (0 : Int32).toInt = 0 := by decide
    have c12 := eqI h10
    refine Sf_some (show (((0 : Int32).toInt = 0 ∨ (0 : Int32).toInt = 1)) from ?_)
    (omega)
  · skip
    have l13 : (0 : Int32).toInt = 0 := by decide
    have c14 := neI h10
    have l15 : (1 : Int32).toInt = 1 := by decide
    refine Sf_some (show (((1 : Int32).toInt = 0 ∨ (1 : Int32).toInt = 1)) from ?_)
    (omega)
set_option maxHeartbeats 4000000 in
set_option maxRecDepth 100000 in
theorem s_X12_starAt (p1 : Int32) (p2 : Int32)  : Sf (f_X12_starAt p1 p2) (fun (y : Int32) => True) := by
  have g1 := rgI p1
  have g2 := rgI p2
  have hFU : (100000 : Int) ≤ (FU : Int) := Int.ofNat_le.mpr FU_ge
  rw [f_X12_starAt]
  exact Sf_some trivial
set_option maxHeartbeats 4000000 in
set_option maxRecDepth 100000 in
theorem s_X12_farOf (p1 : Int32) (p2 : Int32)  : Sf (f_X12_farOf p1 p2) (fun (y : Int32) => True) := by
  have g1 := rgI p1
  have g2 := rgI p2
  have hFU : (100000 : Int) ≤ (FU : Int) := Int.ofNat_le.mpr FU_ge
  rw [f_X12_farOf]
  refine Sf_ite (fun h3 => ?_) (fun h3 => ?_)
  · skip
    have c4 := leI h3
    rw [f_X12_farOf_J14]
    refine Sf_ite (fun h5 => ?_) (fun h5 => ?_)
    · skip
      have l6 : (1440 : Int32).toInt = 1440 := by decide
      have g7 := rgI (p1 - p2)
      first | have e8 := sbX p1 p2 (by omega) (by omega) | skip
      have g9 := rgI (1440 - (p1 - p2))
      first | have e10 := sbX 1440 (p1 - p2) (by omega) (by omega) | skip
      have c11 := leI h5
      exact Sf_some trivial
    · skip
      have l12 : (1440 : Int32).toInt = 1440 := by decide
      have g13 := rgI (p1 - p2)
      first | have e14 := sbX p1 p2 (by omega) (by omega) | skip
      have g15 := rgI (1440 - (p1 - p2))
      first | have e16 := sbX 1440 (p1 - p2) (by omega) (by omega) | skip
      have c17 := nleI h5
      exact Sf_some trivial
  · skip
    have c18 := nleI h3
    rw [f_X12_farOf_J14]
    refine Sf_ite (fun h19 => ?_) (fun h19 => ?_)
    · skip
      have l20 : (1440 : Int32).toInt = 1440 := by decide
      have g21 := rgI (p2 - p1)
      first | have e22 := sbX p2 p1 (by omega) (by omega) | skip
      have g23 := rgI (1440 - (p2 - p1))
      first | have e24 := sbX 1440 (p2 - p1) (by omega) (by omega) | skip
      have c25 := leI h19
      exact Sf_some trivial
    · skip
      have l26 : (1440 : Int32).toInt = 1440 := by decide
      have g27 := rgI (p2 - p1)
      first | have e28 := sbX p2 p1 (by omega) (by omega) | skip
      have g29 := rgI (1440 - (p2 - p1))
      first | have e30 := sbX 1440 (p2 - p1) (by omega) (by omega) | skip
      have c31 := nleI h19
      exact Sf_some trivial
set_option maxHeartbeats 4000000 in
set_option maxRecDepth 100000 in
theorem s_X12_star (p1 : Int32) (p2 : Int32)  : Sf (f_X12_star p1 p2) (fun (y : Int32) => True) := by
  have g1 := rgI p1
  have g2 := rgI p2
  have hFU : (100000 : Int) ≤ (FU : Int) := Int.ofNat_le.mpr FU_ge
  rw [f_X12_star]
  refine Sf_cb1 (s_X12_isDay p1 ) (fun r1_1 hp3 => ?_)
  have hp3 : ((r1_1.toInt = 0 ∨ r1_1.toInt = 1)) ∧ ((r1_1.toInt = 1 ∧ 0 ≤ p1.toInt ∧ p1.toInt ≤ 399) ∨ (r1_1.toInt = 0 ∧ (p1.toInt < 0 ∨ 399 < p1.toInt))) := hp3
  obtain ⟨hq4, hq5⟩ := hp3
  have g6 := rgI r1_1
  refine Sf_ite (fun h7 => ?_) (fun h7 => ?_)
  · skip
    have l8 : (0 : Int32).toInt = 0 := by decide
    have c9 := eqI h7
    exact Sf_some trivial
  · skip
    have l10 : (0 : Int32).toInt = 0 := by decide
    have c11 := neI h7
    refine Sf_cb1 (s_X12_isMinute p2 ) (fun r8_10 hp12 => ?_)
    have hp12 : ((r8_10.toInt = 0 ∨ r8_10.toInt = 1)) ∧ ((r8_10.toInt = 1 ∧ 0 ≤ p2.toInt ∧ p2.toInt ≤ 1439) ∨ (r8_10.toInt = 0 ∧ (p2.toInt < 0 ∨ 1439 < p2.toInt))) := hp12
    obtain ⟨hq13, hq14⟩ := hp12
    have g15 := rgI r8_10
    refine Sf_ite (fun h16 => ?_) (fun h16 => ?_)
    · skip
      have c17 := eqI h16
      exact Sf_some trivial
    · skip
      have c18 := neI h16
      refine Sf_cb1 (s_X12_starAt p1 p2 ) (fun r16_19 hp19 => ?_)
      have g20 := rgI r16_19
      exact Sf_some trivial
set_option maxHeartbeats 4000000 in
set_option maxRecDepth 100000 in
theorem s_X12_awayOf (s_byStar : Nat → Int32) (s_minuteOf : Nat → Int32) (p1 : Int32) (p2 : Int32) (p3 : Int32) (hp0 : 0 ≤ p1.toInt) (hp1 : p1.toInt < 10) : Sf (f_X12_awayOf s_byStar s_minuteOf p1 p2 p3) (fun (y : Int32) => True) := by
  have g1 := rgI p1
  have g2 := rgI p2
  have g3 := rgI p3
  have hFU : (100000 : Int) ≤ (FU : Int) := Int.ofNat_le.mpr FU_ge
  rw [f_X12_awayOf]
  refine Sf_rdI (by omega) (by omega) (fun v5_1 hv4 => ?_)
  have g5 := rgI v5_1
  refine Sf_ite (fun h6 => ?_) (fun h6 => ?_)
  · skip
    have l7 : (0 : Int32).toInt = 0 := by decide
    have c8 := eqI h6
    rw [f_X12_awayOf_J18]
    refine Sf_rdI (by omega) (by omega) (fun v23_6 hv9 => ?_)
    have g10 := rgI v23_6
    refine Sf_cb1 (s_X12_farOf p3 v23_6 ) (fun r24_10 hp11 => ?_)
    have g12 := rgI r24_10
    exact Sf_some trivial
  · skip
    have l13 : (0 : Int32).toInt = 0 := by decide
    have c14 := neI h6
    refine Sf_cb1 (s_X12_starAt p2 p3 ) (fun r11_19 hp15 => ?_)
    have g16 := rgI r11_19
    rw [f_X12_awayOf_J18]
    refine Sf_rdI (by omega) (by omega) (fun v23_6 hv17 => ?_)
    have g18 := rgI v23_6
    refine Sf_cb1 (s_X12_farOf r11_19 v23_6 ) (fun r24_10 hp19 => ?_)
    have g20 := rgI r24_10
    exact Sf_some trivial
set_option maxHeartbeats 4000000 in
set_option maxRecDepth 100000 in
theorem s_X12_isThere (s_byStar : Nat → Int32) (s_minuteOf : Nat → Int32) (s_weekdays : Nat → Int32) (s_wide : Nat → Int32) (p1 : Int32) (p2 : Int32) (p3 : Int32) (hp0 : 0 ≤ p1.toInt) (hp1 : p1.toInt < 10) : Sf (f_X12_isThere s_byStar s_minuteOf s_weekdays s_wide p1 p2 p3) (fun (y : Int32) => ((y.toInt = 0 ∨ y.toInt = 1))) := by
  have g1 := rgI p1
  have g2 := rgI p2
  have g3 := rgI p3
  have hFU : (100000 : Int) ≤ (FU : Int) := Int.ofNat_le.mpr FU_ge
  rw [f_X12_isThere]
  refine Sf_rdI (by omega) (by omega) (fun v5_1 hv4 => ?_)
  have g5 := rgI v5_1
  have l6 : (7 : Int32).toInt = 7 := by decide
  have g7 := rgI (jrem p2 7)
  have m8 := rm_ p2 7 (by decide)
  refine Sf_cb1 (s_X12_has v5_1 (jrem p2 7) ) (fun r10_5 hp9 => ?_)
  have hp9 : ((r10_5.toInt = 0 ∨ r10_5.toInt = 1)) := hp9
  have g10 := rgI r10_5
  refine Sf_ite (fun h11 => ?_) (fun h11 => ?_)
  · skip
    have l12 : (0 : Int32).toInt = 0 := by decide
    have c13 := eqI h11
    refine Sf_some (show (((0 : Int32).toInt = 0 ∨ (0 : Int32).toInt = 1)) from ?_)
    (omega)
  · skip
    have l14 : (0 : Int32).toInt = 0 := by decide
    have c15 := neI h11
    refine Sf_cb1 (s_X12_awayOf s_byStar s_minuteOf p1 p2 p3 (by omega) (by omega)) (fun r20_14 hp16 => ?_)
    have g17 := rgI r20_14
    refine Sf_rdI (by omega) (by omega) (fun v28_19 hv18 => ?_)
    have g19 := rgI v28_19
    refine Sf_ite (fun h20 => ?_) (fun h20 => ?_)
    · skip
      have c21 := ltI h20
      refine Sf_some (show (((0 : Int32).toInt = 0 ∨ (0 : Int32).toInt = 1)) from ?_)
      (omega)
    · skip
      have c22 := nltI h20
      have l23 : (1 : Int32).toInt = 1 := by decide
      refine Sf_some (show (((1 : Int32).toInt = 0 ∨ (1 : Int32).toInt = 1)) from ?_)
      (omega)
set_option maxHeartbeats 4000000 in
set_option maxRecDepth 100000 in
theorem s_X12_luckOf (s_seed : Int32) (p1 : Int32) (p2 : Int32) (p3 : Int32)  : Sf (f_X12_luckOf s_seed p1 p2 p3) (fun (y : Int32) => True) := by
  have g1 := rgI s_seed
  have g2 := rgI p1
  have g3 := rgI p2
  have g4 := rgI p3
  have hFU : (100000 : Int) ≤ (FU : Int) := Int.ofNat_le.mpr FU_ge
  rw [f_X12_luckOf]
  exact Sf_some trivial
set_option maxHeartbeats 4000000 in
set_option maxRecDepth 100000 in
theorem s_X12_note (s_notes : Int32) (s_noteDay : Nat → Int32) (s_noteMinute : Nat → Int32) (s_noteShape : Nat → Int32) (p1 : Int32) (p2 : Int32) (p3 : Int32) (hp0 : 0 ≤ s_notes.toInt) (hp1 : s_notes.toInt ≤ 40) : Sf (f_X12_note s_notes s_noteDay s_noteMinute s_noteShape p1 p2 p3) (fun (y : Int32 × Int32 × (Nat → Int32) × (Nat → Int32) × (Nat → Int32)) => (0 ≤ (y.2.1).toInt ∧ (y.2.1).toInt ≤ 40)) := by
  have g1 := rgI s_notes
  have g2 := rgI p1
  have g3 := rgI p2
  have g4 := rgI p3
  have hFU : (100000 : Int) ≤ (FU : Int) := Int.ofNat_le.mpr FU_ge
  rw [f_X12_note]
  refine Sf_ite (fun h5 => ?_) (fun h5 => ?_)
  · skip
    have l6 : (40 : Int32).toInt = 40 := by decide
    have c7 := eqI h5
    have l8 : ((-1) : Int32).toInt = -1 := by decide
    refine Sf_some (show (0 ≤ s_notes.toInt ∧ s_notes.toInt ≤ 40) from ?_)
    (omega)
  · skip
    have l9 : (40 : Int32).toInt = 40 := by decide
    have c10 := neI h5
    refine Sf_cb1 (s_X12_isDay p1 ) (fun r10_9 hp11 => ?_)
    have hp11 : ((r10_9.toInt = 0 ∨ r10_9.toInt = 1)) ∧ ((r10_9.toInt = 1 ∧ 0 ≤ p1.toInt ∧ p1.toInt ≤ 399) ∨ (r10_9.toInt = 0 ∧ (p1.toInt < 0 ∨ 399 < p1.toInt))) := hp11
    obtain ⟨hq12, hq13⟩ := hp11
    have g14 := rgI r10_9
    refine Sf_ite (fun h15 => ?_) (fun h15 => ?_)
    · skip
      have l16 : (0 : Int32).toInt = 0 := by decide
      have c17 := eqI h15
      have l18 : ((-1) : Int32).toInt = -1 := by decide
      refine Sf_some (show (0 ≤ s_notes.toInt ∧ s_notes.toInt ≤ 40) from ?_)
      (omega)
    · skip
      have l19 : (0 : Int32).toInt = 0 := by decide
      have c20 := neI h15
      refine Sf_cb1 (s_X12_isMinute p2 ) (fun r17_22 hp21 => ?_)
      have hp21 : ((r17_22.toInt = 0 ∨ r17_22.toInt = 1)) ∧ ((r17_22.toInt = 1 ∧ 0 ≤ p2.toInt ∧ p2.toInt ≤ 1439) ∨ (r17_22.toInt = 0 ∧ (p2.toInt < 0 ∨ 1439 < p2.toInt))) := hp21
      obtain ⟨hq22, hq23⟩ := hp21
      have g24 := rgI r17_22
      refine Sf_ite (fun h25 => ?_) (fun h25 => ?_)
      · skip
        have c26 := eqI h25
        have l27 : ((-1) : Int32).toInt = -1 := by decide
        refine Sf_some (show (0 ≤ s_notes.toInt ∧ s_notes.toInt ≤ 40) from ?_)
        (omega)
      · skip
        have c28 := neI h25
        have t29 := t64 p3
        have l30 : (0 : Int64).toInt = 0 := by decide
        have l31 : (3 : Int64).toInt = 3 := by decide
        refine Sf_cb1 (s_X12_lies (Int32.toInt64 p3) 0 3 ) (fun r29_35 hp32 => ?_)
        have hp32 : ((r29_35.toInt = 0 ∨ r29_35.toInt = 1)) ∧ ((r29_35.toInt = 1 ∧ (0 : Int64).toInt ≤ (Int32.toInt64 p3).toInt ∧ (Int32.toInt64 p3).toInt ≤ (3 : Int64).toInt) ∨ (r29_35.toInt = 0 ∧ ((Int32.toInt64 p3).toInt < (0 : Int64).toInt ∨ (3 : Int64).toInt < (Int32.toInt64 p3).toInt))) := hp32
        obtain ⟨hq33, hq34⟩ := hp32
        have g35 := rgI r29_35
        refine Sf_ite (fun h36 => ?_) (fun h36 => ?_)
        · skip
          have c37 := eqI h36
          have l38 : ((-1) : Int32).toInt = -1 := by decide
          refine Sf_some (show (0 ≤ s_notes.toInt ∧ s_notes.toInt ≤ 40) from ?_)
          (omega)
        · skip
          have c39 := neI h36
          refine Sf_ite (fun h40 => ?_) (fun h40 => ?_)
          · skip
            have c41 := leI h40
            rw [f_X12_note_J59]
            refine Sf_wrI (by omega) (by omega) (fun g68_48 hw42 => ?_)
            refine Sf_wrI (by omega) (by omega) (fun g78_53 hw43 => ?_)
            refine Sf_wrI (by omega) (by omega) (fun g88_58 hw44 => ?_)
            refine Sf_nmI (fun v96_63 hv45 => ?_)
            have g46 := rgI (s_notes + 1)
            first | have e47 := adN s_notes 1 (1) (by decide) (by omega) (by omega) | skip
            have q48 := eqI hv45
            have g49 := rgI (v96_63 - 1)
            first | have e50 := sbN v96_63 1 (1) (by decide) (by omega) (by omega) | skip
            refine Sf_some (show (0 ≤ v96_63.toInt ∧ v96_63.toInt ≤ 40) from ?_)
            (omega)
          · skip
            have c51 := nleI h40
            have g52 := rgI (s_notes - 1)
            first | have e53 := sbN s_notes 1 (1) (by decide) (by omega) (by omega) | skip
            refine Sf_rdI (by omega) (by omega) (fun v53_75 hv54 => ?_)
            have g55 := rgI v53_75
            refine Sf_ite (fun h56 => ?_) (fun h56 => ?_)
            · skip
              have c57 := leI h56
              rw [f_X12_note_J59]
              refine Sf_wrI (by omega) (by omega) (fun g68_48 hw58 => ?_)
              refine Sf_wrI (by omega) (by omega) (fun g78_53 hw59 => ?_)
              refine Sf_wrI (by omega) (by omega) (fun g88_58 hw60 => ?_)
              refine Sf_nmI (fun v96_63 hv61 => ?_)
              have g62 := rgI (s_notes + 1)
              first | have e63 := adN s_notes 1 (1) (by decide) (by omega) (by omega) | skip
              have q64 := eqI hv61
              have g65 := rgI (v96_63 - 1)
              first | have e66 := sbN v96_63 1 (1) (by decide) (by omega) (by omega) | skip
              refine Sf_some (show (0 ≤ v96_63.toInt ∧ v96_63.toInt ≤ 40) from ?_)
              (omega)
            · skip
              have c67 := nleI h56
              have l68 : ((-1) : Int32).toInt = -1 := by decide
              refine Sf_some (show (0 ≤ s_notes.toInt ∧ s_notes.toInt ≤ 40) from ?_)
              (omega)
set_option maxHeartbeats 4000000 in
set_option maxRecDepth 100000 in
theorem s_X12_isWithin (p1 : Int32)  : Sf (f_X12_isWithin p1) (fun (y : Int32) => ((y.toInt = 0 ∨ y.toInt = 1)) ∧ ((y.toInt = 1 ∧ 0 ≤ p1.toInt ∧ p1.toInt ≤ 700) ∨ (y.toInt = 0 ∧ (p1.toInt < 0 ∨ 700 < p1.toInt)))) := by
  have g1 := rgI p1
  have hFU : (100000 : Int) ≤ (FU : Int) := Int.ofNat_le.mpr FU_ge
  rw [f_X12_isWithin]
  have t2 := t64 p1
  have l3 : (0 : Int64).toInt = 0 := by decide
  have l4 : (700 : Int64).toInt = 700 := by decide
  refine Sf_cb1 (s_X12_lies (Int32.toInt64 p1) 0 700 ) (fun r6_1 hp5 => ?_)
  have hp5 : ((r6_1.toInt = 0 ∨ r6_1.toInt = 1)) ∧ ((r6_1.toInt = 1 ∧ (0 : Int64).toInt ≤ (Int32.toInt64 p1).toInt ∧ (Int32.toInt64 p1).toInt ≤ (700 : Int64).toInt) ∨ (r6_1.toInt = 0 ∧ ((Int32.toInt64 p1).toInt < (0 : Int64).toInt ∨ (700 : Int64).toInt < (Int32.toInt64 p1).toInt))) := hp5
  obtain ⟨hq6, hq7⟩ := hp5
  have g8 := rgI r6_1
  refine Sf_bo (by omega) ?_
  refine Sf_some (show ((r6_1.toInt = 0 ∨ r6_1.toInt = 1)) ∧ ((r6_1.toInt = 1 ∧ 0 ≤ p1.toInt ∧ p1.toInt ≤ 700) ∨ (r6_1.toInt = 0 ∧ (p1.toInt < 0 ∨ 700 < p1.toInt))) from ?_)
  refine ⟨?_, ?_⟩ <;> (omega)
set_option maxHeartbeats 4000000 in
set_option maxRecDepth 100000 in
theorem s_X12_isShape (p1 : Int32)  : Sf (f_X12_isShape p1) (fun (y : Int32) => ((y.toInt = 0 ∨ y.toInt = 1)) ∧ ((y.toInt = 1 ∧ 0 ≤ p1.toInt ∧ p1.toInt ≤ 3) ∨ (y.toInt = 0 ∧ (p1.toInt < 0 ∨ 3 < p1.toInt)))) := by
  have g1 := rgI p1
  have hFU : (100000 : Int) ≤ (FU : Int) := Int.ofNat_le.mpr FU_ge
  rw [f_X12_isShape]
  have t2 := t64 p1
  have l3 : (0 : Int64).toInt = 0 := by decide
  have l4 : (3 : Int64).toInt = 3 := by decide
  refine Sf_cb1 (s_X12_lies (Int32.toInt64 p1) 0 3 ) (fun r6_1 hp5 => ?_)
  have hp5 : ((r6_1.toInt = 0 ∨ r6_1.toInt = 1)) ∧ ((r6_1.toInt = 1 ∧ (0 : Int64).toInt ≤ (Int32.toInt64 p1).toInt ∧ (Int32.toInt64 p1).toInt ≤ (3 : Int64).toInt) ∨ (r6_1.toInt = 0 ∧ ((Int32.toInt64 p1).toInt < (0 : Int64).toInt ∨ (3 : Int64).toInt < (Int32.toInt64 p1).toInt))) := hp5
  obtain ⟨hq6, hq7⟩ := hp5
  have g8 := rgI r6_1
  refine Sf_bo (by omega) ?_
  refine Sf_some (show ((r6_1.toInt = 0 ∨ r6_1.toInt = 1)) ∧ ((r6_1.toInt = 1 ∧ 0 ≤ p1.toInt ∧ p1.toInt ≤ 3) ∨ (r6_1.toInt = 0 ∧ (p1.toInt < 0 ∨ 3 < p1.toInt))) from ?_)
  refine ⟨?_, ?_⟩ <;> (omega)
set_option maxHeartbeats 4000000 in
set_option maxRecDepth 100000 in
theorem s_X12_minuteBy (s_noteDay : Nat → Int32) (s_noteMinute : Nat → Int32) (p1 : Int32) (p2 : Int32) (hp0 : 0 ≤ p1.toInt) (hp1 : p1.toInt < 40) : Sf (f_X12_minuteBy s_noteDay s_noteMinute p1 p2) (fun (y : Int32) => True) := by
  have g1 := rgI p1
  have g2 := rgI p2
  have hFU : (100000 : Int) ≤ (FU : Int) := Int.ofNat_le.mpr FU_ge
  rw [f_X12_minuteBy]
  refine Sf_ite (fun h3 => ?_) (fun h3 => ?_)
  · skip
    have l4 : (0 : Int32).toInt = 0 := by decide
    have c5 := eqI h3
    refine Sf_rdI (by omega) (by omega) (fun v27_4 hv6 => ?_)
    have g7 := rgI v27_4
    exact Sf_some trivial
  · skip
    have l8 : (0 : Int32).toInt = 0 := by decide
    have c9 := neI h3
    refine Sf_rdI (by omega) (by omega) (fun v9_9 hv10 => ?_)
    have g11 := rgI v9_9
    refine Sf_rdI (by omega) (by omega) (fun v15_13 hv12 => ?_)
    have g13 := rgI v15_13
    refine Sf_cb1 (s_X12_starAt v9_9 v15_13 ) (fun r16_17 hp14 => ?_)
    have g15 := rgI r16_17
    exact Sf_some trivial
set_option maxHeartbeats 4000000 in
set_option maxRecDepth 100000 in
theorem s_X12_onArc_L6 (s_notes : Int32) (s_noteDay : Nat → Int32) (s_noteMinute : Nat → Int32) (s_noteShape : Nat → Int32) (p1 : Int32) (p2 : Int32) (p3 : Int32) (p4 : Int32) (p5 : Int32) (hp0 : 0 ≤ s_notes.toInt) (hp1 : s_notes.toInt ≤ 40) : ∀ (n : Nat) (x6_3 : Int32) (x7_4 : Int32), (0 ≤ x7_4.toInt) → (x7_4.toInt ≤ 40) → (41 - x7_4.toInt < (n : Int)) → Sf (f_X12_onArc_L6 s_notes s_noteDay s_noteMinute s_noteShape p1 p2 p3 p4 p5 n x6_3 x7_4) (fun (y : Int32) => True) := by
  have hFU : (100000 : Int) ≤ (FU : Int) := Int.ofNat_le.mpr FU_ge
  have g1 := rgI s_notes
  have g2 := rgI p1
  have g3 := rgI p2
  have g4 := rgI p3
  have g5 := rgI p4
  have g6 := rgI p5
  intro n
  induction n with
  | zero =>
    intro x6_3 x7_4 hi0 hi1 hm
    have g7 := rgI x6_3
    have g8 := rgI x7_4
    exact absurd hm (by omega)
  | succ n ih =>
    intro x6_3 x7_4 hi0 hi1 hm
    rw [f_X12_onArc_L6]
    have g9 := rgI x6_3
    have g10 := rgI x7_4
    refine Sf_ite (fun h11 => ?_) (fun h11 => ?_)
    · skip
      have c12 := leI h11
      exact Sf_some trivial
    · skip
      have c13 := nleI h11
      refine Sf_rdI (by omega) (by omega) (fun v21_9 hv14 => ?_)
      have g15 := rgI v21_9
      refine Sf_ite (fun h16 => ?_) (fun h16 => ?_)
      · skip
        have c17 := eqI h16
        refine Sf_rdI (by omega) (by omega) (fun v32_20 hv18 => ?_)
        have g19 := rgI v32_20
        refine Sf_ite (fun h20 => ?_) (fun h20 => ?_)
        · skip
          have c21 := ltI h20
          refine Sf_nmI (fun v70_27 hv22 => ?_)
          have g23 := rgI (x7_4 + 1)
          first | have e24 := adN x7_4 1 (1) (by decide) (by omega) (by omega) | skip
          have q25 := eqI hv22
          exact ih x6_3 v70_27 (by omega) (by omega) (by omega)
        · skip
          have c26 := nltI h20
          refine Sf_cb1 (s_X12_minuteBy s_noteDay s_noteMinute x7_4 p3 (by omega) (by omega)) (fun r43_31 hp27 => ?_)
          have g28 := rgI r43_31
          refine Sf_ite (fun h29 => ?_) (fun h29 => ?_)
          · skip
            have g30 := rgI (r43_31 - p4)
            first | have e31 := sbX r43_31 p4 (by omega) (by omega) | skip
            have g32 := rgI ((r43_31 - p4) + 1440)
            first | have e33 := adN (r43_31 - p4) 1440 (1440) (by decide) (by omega) (by omega) | skip
            have l34 : (1440 : Int32).toInt = 1440 := by decide
            have g35 := rgI (jrem ((r43_31 - p4) + 1440) 1440)
            have m36 := rm_ ((r43_31 - p4) + 1440) 1440 (by decide)
            have c37 := ltI h29
            refine Sf_nmI (fun v68_39 hv38 => ?_)
            have g39 := rgI (x6_3 + 0)
            first | have e40 := adN x6_3 0 (0) (by decide) (by omega) (by omega) | skip
            have q41 := eqI hv38
            refine Sf_nmI (fun v70_43 hv42 => ?_)
            have g43 := rgI (x7_4 + 1)
            first | have e44 := adN x7_4 1 (1) (by decide) (by omega) (by omega) | skip
            have q45 := eqI hv42
            exact ih v68_39 v70_43 (by omega) (by omega) (by omega)
          · skip
            have g46 := rgI (r43_31 - p4)
            first | have e47 := sbX r43_31 p4 (by omega) (by omega) | skip
            have g48 := rgI ((r43_31 - p4) + 1440)
            first | have e49 := adN (r43_31 - p4) 1440 (1440) (by decide) (by omega) (by omega) | skip
            have l50 : (1440 : Int32).toInt = 1440 := by decide
            have g51 := rgI (jrem ((r43_31 - p4) + 1440) 1440)
            have m52 := rm_ ((r43_31 - p4) + 1440) 1440 (by decide)
            have c53 := nltI h29
            refine Sf_nmI (fun v68_47 hv54 => ?_)
            have g55 := rgI (x6_3 + 1)
            first | have e56 := adN x6_3 1 (1) (by decide) (by omega) (by omega) | skip
            have q57 := eqI hv54
            refine Sf_nmI (fun v70_51 hv58 => ?_)
            have g59 := rgI (x7_4 + 1)
            first | have e60 := adN x7_4 1 (1) (by decide) (by omega) (by omega) | skip
            have q61 := eqI hv58
            exact ih v68_47 v70_51 (by omega) (by omega) (by omega)
      · skip
        have c62 := neI h16
        refine Sf_nmI (fun v70_16 hv63 => ?_)
        have g64 := rgI (x7_4 + 1)
        first | have e65 := adN x7_4 1 (1) (by decide) (by omega) (by omega) | skip
        have q66 := eqI hv63
        exact ih x6_3 v70_16 (by omega) (by omega) (by omega)
set_option maxHeartbeats 4000000 in
set_option maxRecDepth 100000 in
theorem s_X12_onArc (s_notes : Int32) (s_noteDay : Nat → Int32) (s_noteMinute : Nat → Int32) (s_noteShape : Nat → Int32) (p1 : Int32) (p2 : Int32) (p3 : Int32) (p4 : Int32) (p5 : Int32) (hp0 : 0 ≤ s_notes.toInt) (hp1 : s_notes.toInt ≤ 40) : Sf (f_X12_onArc s_notes s_noteDay s_noteMinute s_noteShape p1 p2 p3 p4 p5) (fun (y : Int32) => True) := by
  have g1 := rgI s_notes
  have g2 := rgI p1
  have g3 := rgI p2
  have g4 := rgI p3
  have g5 := rgI p4
  have g6 := rgI p5
  have hFU : (100000 : Int) ≤ (FU : Int) := Int.ofNat_le.mpr FU_ge
  rw [f_X12_onArc]
  have l7 : (0 : Int32).toInt = 0 := by decide
  refine s_X12_onArc_L6 s_notes s_noteDay s_noteMinute s_noteShape p1 p2 p3 p4 p5 (by omega) (by omega)  FU 0 0 (by omega) (by omega) (by omega)
set_option maxHeartbeats 4000000 in
set_option maxRecDepth 100000 in
theorem s_X12_manyOf_L5 (s_notes : Int32) (s_noteDay : Nat → Int32) (s_noteShape : Nat → Int32) (p1 : Int32) (p2 : Int32) (hp0 : 0 ≤ s_notes.toInt) (hp1 : s_notes.toInt ≤ 40) : ∀ (n : Nat) (x3_3 : Int32) (x4_4 : Int32), (0 ≤ x4_4.toInt) → (x4_4.toInt ≤ 40) → (41 - x4_4.toInt < (n : Int)) → Sf (f_X12_manyOf_L5 s_notes s_noteDay s_noteShape p1 p2 n x3_3 x4_4) (fun (y : Int32) => True) := by
  have hFU : (100000 : Int) ≤ (FU : Int) := Int.ofNat_le.mpr FU_ge
  have g1 := rgI s_notes
  have g2 := rgI p1
  have g3 := rgI p2
  intro n
  induction n with
  | zero =>
    intro x3_3 x4_4 hi0 hi1 hm
    have g4 := rgI x3_3
    have g5 := rgI x4_4
    exact absurd hm (by omega)
  | succ n ih =>
    intro x3_3 x4_4 hi0 hi1 hm
    rw [f_X12_manyOf_L5]
    have g6 := rgI x3_3
    have g7 := rgI x4_4
    refine Sf_ite (fun h8 => ?_) (fun h8 => ?_)
    · skip
      have c9 := leI h8
      exact Sf_some trivial
    · skip
      have c10 := nleI h8
      refine Sf_rdI (by omega) (by omega) (fun v21_9 hv11 => ?_)
      have g12 := rgI v21_9
      refine Sf_ite (fun h13 => ?_) (fun h13 => ?_)
      · skip
        have c14 := eqI h13
        refine Sf_rdI (by omega) (by omega) (fun v32_24 hv15 => ?_)
        have g16 := rgI v32_24
        refine Sf_ite (fun h17 => ?_) (fun h17 => ?_)
        · skip
          have c18 := ltI h17
          refine Sf_nmI (fun v43_31 hv19 => ?_)
          have g20 := rgI (x3_3 + 0)
          first | have e21 := adN x3_3 0 (0) (by decide) (by omega) (by omega) | skip
          have q22 := eqI hv19
          refine Sf_nmI (fun v44_35 hv23 => ?_)
          have g24 := rgI (x4_4 + 1)
          first | have e25 := adN x4_4 1 (1) (by decide) (by omega) (by omega) | skip
          have q26 := eqI hv23
          exact ih v43_31 v44_35 (by omega) (by omega) (by omega)
        · skip
          have c27 := nltI h17
          refine Sf_nmI (fun v43_39 hv28 => ?_)
          have g29 := rgI (x3_3 + 1)
          first | have e30 := adN x3_3 1 (1) (by decide) (by omega) (by omega) | skip
          have q31 := eqI hv28
          refine Sf_nmI (fun v44_43 hv32 => ?_)
          have g33 := rgI (x4_4 + 1)
          first | have e34 := adN x4_4 1 (1) (by decide) (by omega) (by omega) | skip
          have q35 := eqI hv32
          exact ih v43_39 v44_43 (by omega) (by omega) (by omega)
      · skip
        have c36 := neI h13
        refine Sf_nmI (fun v43_16 hv37 => ?_)
        have g38 := rgI (x3_3 + 0)
        first | have e39 := adN x3_3 0 (0) (by decide) (by omega) (by omega) | skip
        have q40 := eqI hv37
        refine Sf_nmI (fun v44_20 hv41 => ?_)
        have g42 := rgI (x4_4 + 1)
        first | have e43 := adN x4_4 1 (1) (by decide) (by omega) (by omega) | skip
        have q44 := eqI hv41
        exact ih v43_16 v44_20 (by omega) (by omega) (by omega)
set_option maxHeartbeats 4000000 in
set_option maxRecDepth 100000 in
theorem s_X12_manyOf (s_notes : Int32) (s_noteDay : Nat → Int32) (s_noteShape : Nat → Int32) (p1 : Int32) (p2 : Int32) (hp0 : 0 ≤ s_notes.toInt) (hp1 : s_notes.toInt ≤ 40) : Sf (f_X12_manyOf s_notes s_noteDay s_noteShape p1 p2) (fun (y : Int32) => True) := by
  have g1 := rgI s_notes
  have g2 := rgI p1
  have g3 := rgI p2
  have hFU : (100000 : Int) ≤ (FU : Int) := Int.ofNat_le.mpr FU_ge
  rw [f_X12_manyOf]
  have l4 : (0 : Int32).toInt = 0 := by decide
  refine s_X12_manyOf_L5 s_notes s_noteDay s_noteShape p1 p2 (by omega) (by omega)  FU 0 0 (by omega) (by omega) (by omega)
set_option maxHeartbeats 4000000 in
set_option maxRecDepth 100000 in
theorem s_X12_isOne_L11 (s_notes : Int32) (s_noteDay : Nat → Int32) (s_noteMinute : Nat → Int32) (s_noteShape : Nat → Int32) (p1 : Int32) (p2 : Int32) (p3 : Int32) (p4 : Int32) (r3_1 : Int32) (hp0 : 0 ≤ s_notes.toInt) (hp1 : s_notes.toInt ≤ 40) : ∀ (n : Nat) (x6_8 : Int32), (0 ≤ x6_8.toInt) → (x6_8.toInt ≤ 40) → (41 - x6_8.toInt < (n : Int)) → Sf (f_X12_isOne_L11 s_notes s_noteDay s_noteMinute s_noteShape p1 p2 p3 p4 r3_1 n x6_8) (fun (y : Int32) => ((y.toInt = 0 ∨ y.toInt = 1))) := by
  have hFU : (100000 : Int) ≤ (FU : Int) := Int.ofNat_le.mpr FU_ge
  have g1 := rgI s_notes
  have g2 := rgI p1
  have g3 := rgI p2
  have g4 := rgI p3
  have g5 := rgI p4
  have g6 := rgI r3_1
  intro n
  induction n with
  | zero =>
    intro x6_8 hi0 hi1 hm
    have g7 := rgI x6_8
    exact absurd hm (by omega)
  | succ n ih =>
    intro x6_8 hi0 hi1 hm
    rw [f_X12_isOne_L11]
    have g8 := rgI x6_8
    refine Sf_ite (fun h9 => ?_) (fun h9 => ?_)
    · skip
      have c10 := leI h9
      have l11 : (0 : Int32).toInt = 0 := by decide
      refine Sf_some (show (((0 : Int32).toInt = 0 ∨ (0 : Int32).toInt = 1)) from ?_)
      (omega)
    · skip
      have c12 := nleI h9
      refine Sf_rdI (by omega) (by omega) (fun v26_13 hv13 => ?_)
      have g14 := rgI v26_13
      refine Sf_ite (fun h15 => ?_) (fun h15 => ?_)
      · skip
        have c16 := eqI h15
        refine Sf_rdI (by omega) (by omega) (fun v37_24 hv17 => ?_)
        have g18 := rgI v37_24
        refine Sf_ite (fun h19 => ?_) (fun h19 => ?_)
        · skip
          have c20 := ltI h19
          refine Sf_nmI (fun v65_31 hv21 => ?_)
          have g22 := rgI (x6_8 + 1)
          first | have e23 := adN x6_8 1 (1) (by decide) (by omega) (by omega) | skip
          have q24 := eqI hv21
          exact ih v65_31 (by omega) (by omega) (by omega)
        · skip
          have c25 := nltI h19
          refine Sf_cb1 (s_X12_minuteBy s_noteDay s_noteMinute x6_8 p3 (by omega) (by omega)) (fun r50_35 hp26 => ?_)
          have g27 := rgI r50_35
          refine Sf_cb1 (s_X12_onArc s_notes s_noteDay s_noteMinute s_noteShape p1 p2 p3 r50_35 p4 (by omega) (by omega)) (fun r55_40 hp28 => ?_)
          have g29 := rgI r55_40
          refine Sf_ite (fun h30 => ?_) (fun h30 => ?_)
          · skip
            have c31 := eqI h30
            have l32 : (1 : Int32).toInt = 1 := by decide
            refine Sf_some (show (((1 : Int32).toInt = 0 ∨ (1 : Int32).toInt = 1)) from ?_)
            (omega)
          · skip
            have c33 := neI h30
            refine Sf_nmI (fun v65_48 hv34 => ?_)
            have g35 := rgI (x6_8 + 1)
            first | have e36 := adN x6_8 1 (1) (by decide) (by omega) (by omega) | skip
            have q37 := eqI hv34
            exact ih v65_48 (by omega) (by omega) (by omega)
      · skip
        have c38 := neI h15
        refine Sf_nmI (fun v65_20 hv39 => ?_)
        have g40 := rgI (x6_8 + 1)
        first | have e41 := adN x6_8 1 (1) (by decide) (by omega) (by omega) | skip
        have q42 := eqI hv39
        exact ih v65_20 (by omega) (by omega) (by omega)
set_option maxHeartbeats 4000000 in
set_option maxRecDepth 100000 in
theorem s_X12_isOne (s_notes : Int32) (s_noteDay : Nat → Int32) (s_noteMinute : Nat → Int32) (s_noteShape : Nat → Int32) (p1 : Int32) (p2 : Int32) (p3 : Int32) (p4 : Int32) (hp0 : 0 ≤ s_notes.toInt) (hp1 : s_notes.toInt ≤ 40) : Sf (f_X12_isOne s_notes s_noteDay s_noteMinute s_noteShape p1 p2 p3 p4) (fun (y : Int32) => ((y.toInt = 0 ∨ y.toInt = 1))) := by
  have g1 := rgI s_notes
  have g2 := rgI p1
  have g3 := rgI p2
  have g4 := rgI p3
  have g5 := rgI p4
  have hFU : (100000 : Int) ≤ (FU : Int) := Int.ofNat_le.mpr FU_ge
  rw [f_X12_isOne]
  refine Sf_cb1 (s_X12_manyOf s_notes s_noteDay s_noteShape p1 p2 (by omega) (by omega)) (fun r3_1 hp6 => ?_)
  have g7 := rgI r3_1
  have l8 : (0 : Int32).toInt = 0 := by decide
  refine s_X12_isOne_L11 s_notes s_noteDay s_noteMinute s_noteShape p1 p2 p3 p4 r3_1 (by omega) (by omega)  FU 0 (by omega) (by omega) (by omega)
set_option maxHeartbeats 4000000 in
set_option maxRecDepth 100000 in
theorem s_X12_oneBits (s_notes : Int32) (s_noteDay : Nat → Int32) (s_noteMinute : Nat → Int32) (s_noteShape : Nat → Int32) (p1 : Int32) (p2 : Int32) (p3 : Int32) (hp0 : 0 ≤ s_notes.toInt) (hp1 : s_notes.toInt ≤ 40) : Sf (f_X12_oneBits s_notes s_noteDay s_noteMinute s_noteShape p1 p2 p3) (fun (y : Int32) => True) := by
  have g1 := rgI s_notes
  have g2 := rgI p1
  have g3 := rgI p2
  have g4 := rgI p3
  have hFU : (100000 : Int) ≤ (FU : Int) := Int.ofNat_le.mpr FU_ge
  rw [f_X12_oneBits]
  have l5 : (1 : Int32).toInt = 1 := by decide
  refine Sf_cb1 (s_X12_isOne s_notes s_noteDay s_noteMinute s_noteShape p1 p2 1 p3 (by omega) (by omega)) (fun r5_1 hp6 => ?_)
  have hp6 : ((r5_1.toInt = 0 ∨ r5_1.toInt = 1)) := hp6
  have g7 := rgI r5_1
  refine Sf_ite (fun h8 => ?_) (fun h8 => ?_)
  · skip
    have l9 : (0 : Int32).toInt = 0 := by decide
    have c10 := eqI h8
    rw [f_X12_oneBits_J16]
    refine Sf_cb1 (s_X12_isOne s_notes s_noteDay s_noteMinute s_noteShape p1 p2 0 p3 (by omega) (by omega)) (fun r21_7 hp11 => ?_)
    have hp11 : ((r21_7.toInt = 0 ∨ r21_7.toInt = 1)) := hp11
    have g12 := rgI r21_7
    refine Sf_ite (fun h13 => ?_) (fun h13 => ?_)
    · skip
      have c14 := eqI h13
      exact Sf_some trivial
    · skip
      have c15 := neI h13
      exact Sf_some trivial
  · skip
    have l16 : (0 : Int32).toInt = 0 := by decide
    have c17 := neI h8
    rw [f_X12_oneBits_J16]
    refine Sf_cb1 (s_X12_isOne s_notes s_noteDay s_noteMinute s_noteShape p1 p2 0 p3 (by omega) (by omega)) (fun r21_7 hp18 => ?_)
    have hp18 : ((r21_7.toInt = 0 ∨ r21_7.toInt = 1)) := hp18
    have g19 := rgI r21_7
    refine Sf_ite (fun h20 => ?_) (fun h20 => ?_)
    · skip
      have c21 := eqI h20
      exact Sf_some trivial
    · skip
      have c22 := neI h20
      exact Sf_some trivial
set_option maxHeartbeats 4000000 in
set_option maxRecDepth 100000 in
theorem s_X12_one (s_notes : Int32) (s_noteDay : Nat → Int32) (s_noteMinute : Nat → Int32) (s_noteShape : Nat → Int32) (p1 : Int32) (p2 : Int32) (hp0 : 0 ≤ s_notes.toInt) (hp1 : s_notes.toInt ≤ 40) : Sf (f_X12_one s_notes s_noteDay s_noteMinute s_noteShape p1 p2) (fun (y : Int32) => True) := by
  have g1 := rgI s_notes
  have g2 := rgI p1
  have g3 := rgI p2
  have hFU : (100000 : Int) ≤ (FU : Int) := Int.ofNat_le.mpr FU_ge
  rw [f_X12_one]
  refine Sf_cb1 (s_X12_isShape p1 ) (fun r1_1 hp4 => ?_)
  have hp4 : ((r1_1.toInt = 0 ∨ r1_1.toInt = 1)) ∧ ((r1_1.toInt = 1 ∧ 0 ≤ p1.toInt ∧ p1.toInt ≤ 3) ∨ (r1_1.toInt = 0 ∧ (p1.toInt < 0 ∨ 3 < p1.toInt))) := hp4
  obtain ⟨hq5, hq6⟩ := hp4
  have g7 := rgI r1_1
  refine Sf_ite (fun h8 => ?_) (fun h8 => ?_)
  · skip
    have l9 : (0 : Int32).toInt = 0 := by decide
    have c10 := eqI h8
    exact Sf_some trivial
  · skip
    have l11 : (0 : Int32).toInt = 0 := by decide
    have c12 := neI h8
    refine Sf_cb1 (s_X12_isWithin p2 ) (fun r8_10 hp13 => ?_)
    have hp13 : ((r8_10.toInt = 0 ∨ r8_10.toInt = 1)) ∧ ((r8_10.toInt = 1 ∧ 0 ≤ p2.toInt ∧ p2.toInt ≤ 700) ∨ (r8_10.toInt = 0 ∧ (p2.toInt < 0 ∨ 700 < p2.toInt))) := hp13
    obtain ⟨hq14, hq15⟩ := hp13
    have g16 := rgI r8_10
    refine Sf_ite (fun h17 => ?_) (fun h17 => ?_)
    · skip
      have c18 := eqI h17
      exact Sf_some trivial
    · skip
      have c19 := neI h17
      have l20 : (400 : Int32).toInt = 400 := by decide
      refine Sf_cb1 (s_X12_manyOf s_notes s_noteDay s_noteShape p1 400 (by omega) (by omega)) (fun r19_19 hp21 => ?_)
      have g22 := rgI r19_19
      refine Sf_ite (fun h23 => ?_) (fun h23 => ?_)
      · skip
        have l24 : (1 : Int32).toInt = 1 := by decide
        have c25 := leI h23
        exact Sf_some trivial
      · skip
        have l26 : (1 : Int32).toInt = 1 := by decide
        have c27 := nleI h23
        refine Sf_cb1 (s_X12_oneBits s_notes s_noteDay s_noteMinute s_noteShape p1 400 p2 (by omega) (by omega)) (fun r32_28 hp28 => ?_)
        have g29 := rgI r32_28
        exact Sf_some trivial
set_option maxHeartbeats 4000000 in
set_option maxRecDepth 100000 in
theorem s_X12_known_L18 (s_notes : Int32) (s_noteDay : Nat → Int32) (s_noteMinute : Nat → Int32) (s_noteShape : Nat → Int32) (p1 : Int32) (p2 : Int32) (hp0 : 0 ≤ s_notes.toInt) (hp1 : s_notes.toInt ≤ 40) : ∀ (n : Nat) (x3_19 : Int32), (0 ≤ x3_19.toInt) → (x3_19.toInt ≤ 40) → (41 - x3_19.toInt < (n : Int)) → Sf (f_X12_known_L18 s_notes s_noteDay s_noteMinute s_noteShape p1 p2 n x3_19) (fun (y : Int32) => True) := by
  have hFU : (100000 : Int) ≤ (FU : Int) := Int.ofNat_le.mpr FU_ge
  have g1 := rgI s_notes
  have g2 := rgI p1
  have g3 := rgI p2
  intro n
  induction n with
  | zero =>
    intro x3_19 hi0 hi1 hm
    have g4 := rgI x3_19
    exact absurd hm (by omega)
  | succ n ih =>
    intro x3_19 hi0 hi1 hm
    rw [f_X12_known_L18]
    have g5 := rgI x3_19
    refine Sf_ite (fun h6 => ?_) (fun h6 => ?_)
    · skip
      have c7 := leI h6
      exact Sf_some trivial
    · skip
      have c8 := nleI h6
      refine Sf_rdI (by omega) (by omega) (fun v31_24 hv9 => ?_)
      have g10 := rgI v31_24
      refine Sf_ite (fun h11 => ?_) (fun h11 => ?_)
      · skip
        have c12 := eqI h11
        refine Sf_rdI (by omega) (by omega) (fun v43_35 hv13 => ?_)
        have g14 := rgI v43_35
        refine Sf_cb1 (s_X12_manyOf s_notes s_noteDay s_noteShape p1 v43_35 (by omega) (by omega)) (fun r44_39 hp15 => ?_)
        have g16 := rgI r44_39
        refine Sf_ite (fun h17 => ?_) (fun h17 => ?_)
        · skip
          have l18 : (2 : Int32).toInt = 2 := by decide
          have c19 := leI h17
          refine Sf_rdI (by omega) (by omega) (fun v61_47 hv20 => ?_)
          have g21 := rgI v61_47
          refine Sf_cb1 (s_X12_oneBits s_notes s_noteDay s_noteMinute s_noteShape p1 v61_47 p2 (by omega) (by omega)) (fun r63_51 hp22 => ?_)
          have g23 := rgI r63_51
          refine Sf_ite (fun h24 => ?_) (fun h24 => ?_)
          · skip
            have l25 : (1 : Int32).toInt = 1 := by decide
            have c26 := eqI h24
            refine Sf_rdI (by omega) (by omega) (fun v85_60 hv27 => ?_)
            have g28 := rgI v85_60
            exact Sf_some trivial
          · skip
            have l29 : (1 : Int32).toInt = 1 := by decide
            have c30 := neI h24
            refine Sf_ite (fun h31 => ?_) (fun h31 => ?_)
            · skip
              have c32 := eqI h31
              refine Sf_rdI (by omega) (by omega) (fun v85_72 hv33 => ?_)
              have g34 := rgI v85_72
              exact Sf_some trivial
            · skip
              have c35 := neI h31
              refine Sf_nmI (fun v87_68 hv36 => ?_)
              have g37 := rgI (x3_19 + 1)
              first | have e38 := adN x3_19 1 (1) (by decide) (by omega) (by omega) | skip
              have q39 := eqI hv36
              exact ih v87_68 (by omega) (by omega) (by omega)
        · skip
          have l40 : (2 : Int32).toInt = 2 := by decide
          have c41 := nleI h17
          refine Sf_nmI (fun v87_77 hv42 => ?_)
          have g43 := rgI (x3_19 + 1)
          first | have e44 := adN x3_19 1 (1) (by decide) (by omega) (by omega) | skip
          have q45 := eqI hv42
          exact ih v87_77 (by omega) (by omega) (by omega)
      · skip
        have c46 := neI h11
        refine Sf_nmI (fun v87_31 hv47 => ?_)
        have g48 := rgI (x3_19 + 1)
        first | have e49 := adN x3_19 1 (1) (by decide) (by omega) (by omega) | skip
        have q50 := eqI hv47
        exact ih v87_31 (by omega) (by omega) (by omega)
set_option maxHeartbeats 4000000 in
set_option maxRecDepth 100000 in
theorem s_X12_known (s_notes : Int32) (s_noteDay : Nat → Int32) (s_noteMinute : Nat → Int32) (s_noteShape : Nat → Int32) (p1 : Int32) (p2 : Int32) (hp0 : 0 ≤ s_notes.toInt) (hp1 : s_notes.toInt ≤ 40) : Sf (f_X12_known s_notes s_noteDay s_noteMinute s_noteShape p1 p2) (fun (y : Int32) => True) := by
  have g1 := rgI s_notes
  have g2 := rgI p1
  have g3 := rgI p2
  have hFU : (100000 : Int) ≤ (FU : Int) := Int.ofNat_le.mpr FU_ge
  rw [f_X12_known]
  refine Sf_cb1 (s_X12_isShape p1 ) (fun r1_1 hp4 => ?_)
  have hp4 : ((r1_1.toInt = 0 ∨ r1_1.toInt = 1)) ∧ ((r1_1.toInt = 1 ∧ 0 ≤ p1.toInt ∧ p1.toInt ≤ 3) ∨ (r1_1.toInt = 0 ∧ (p1.toInt < 0 ∨ 3 < p1.toInt))) := hp4
  obtain ⟨hq5, hq6⟩ := hp4
  have g7 := rgI r1_1
  refine Sf_ite (fun h8 => ?_) (fun h8 => ?_)
  · skip
    have l9 : (0 : Int32).toInt = 0 := by decide
    have c10 := eqI h8
    exact Sf_some trivial
  · skip
    have l11 : (0 : Int32).toInt = 0 := by decide
    have c12 := neI h8
    refine Sf_cb1 (s_X12_isWithin p2 ) (fun r8_10 hp13 => ?_)
    have hp13 : ((r8_10.toInt = 0 ∨ r8_10.toInt = 1)) ∧ ((r8_10.toInt = 1 ∧ 0 ≤ p2.toInt ∧ p2.toInt ≤ 700) ∨ (r8_10.toInt = 0 ∧ (p2.toInt < 0 ∨ 700 < p2.toInt))) := hp13
    obtain ⟨hq14, hq15⟩ := hp13
    have g16 := rgI r8_10
    refine Sf_ite (fun h17 => ?_) (fun h17 => ?_)
    · skip
      have c18 := eqI h17
      exact Sf_some trivial
    · skip
      have c19 := neI h17
      refine s_X12_known_L18 s_notes s_noteDay s_noteMinute s_noteShape p1 p2 (by omega) (by omega)  FU 0 (by omega) (by omega) (by omega)
set_option maxHeartbeats 4000000 in
set_option maxRecDepth 100000 in
theorem s_X12_row_L46 (s_notes : Int32) (s_noteDay : Nat → Int32) (s_noteMinute : Nat → Int32) (s_noteShape : Nat → Int32) (p1 : Int32) (p2 : Int32) (K130 : Int32 → Int32 → Option (Int32)) (hp0 : 0 ≤ s_notes.toInt) (hp1 : s_notes.toInt ≤ 40) (hK130 : ∀ (a0 : Int32) (a1 : Int32), Sf (K130 a0 a1) (fun (y : Int32) => True)) : ∀ (n : Nat) (x4_46 : Int32) (x5_47 : Int32) (x6_48 : Int32), (0 ≤ x6_48.toInt) → (x6_48.toInt ≤ 40) → (41 - x6_48.toInt < (n : Int)) → Sf (f_X12_row_L46 s_notes s_noteDay s_noteMinute s_noteShape p1 p2 K130 n x4_46 x5_47 x6_48) (fun (y : Int32) => True) := by
  have hFU : (100000 : Int) ≤ (FU : Int) := Int.ofNat_le.mpr FU_ge
  have g1 := rgI s_notes
  have g2 := rgI p1
  have g3 := rgI p2
  intro n
  induction n with
  | zero =>
    intro x4_46 x5_47 x6_48 hi0 hi1 hm
    have g4 := rgI x4_46
    have g5 := rgI x5_47
    have g6 := rgI x6_48
    exact absurd hm (by omega)
  | succ n ih =>
    intro x4_46 x5_47 x6_48 hi0 hi1 hm
    rw [f_X12_row_L46]
    have g7 := rgI x4_46
    have g8 := rgI x5_47
    have g9 := rgI x6_48
    refine Sf_ite (fun h10 => ?_) (fun h10 => ?_)
    · skip
      have c11 := leI h10
      exact hK130 x4_46 x5_47 
    · skip
      have c12 := nleI h10
      refine Sf_rdI (by omega) (by omega) (fun v61_52 hv13 => ?_)
      have g14 := rgI v61_52
      refine Sf_ite (fun h15 => ?_) (fun h15 => ?_)
      · skip
        have c16 := eqI h15
        have l17 : (1 : Int32).toInt = 1 := by decide
        refine Sf_cb1 (s_X12_minuteBy s_noteDay s_noteMinute x6_48 1 (by omega) (by omega)) (fun r73_59 hp18 => ?_)
        have g19 := rgI r73_59
        have l20 : (400 : Int32).toInt = 400 := by decide
        refine Sf_cb1 (s_X12_onArc s_notes s_noteDay s_noteMinute s_noteShape p1 400 1 r73_59 p2 (by omega) (by omega)) (fun r87_65 hp21 => ?_)
        have g22 := rgI r87_65
        refine Sf_ite (fun h23 => ?_) (fun h23 => ?_)
        · skip
          have c24 := ltI h23
          refine Sf_nmI (fun v124_74 hv25 => ?_)
          have g26 := rgI (x6_48 + 1)
          first | have e27 := adN x6_48 1 (1) (by decide) (by omega) (by omega) | skip
          have q28 := eqI hv25
          exact ih x4_46 x5_47 v124_74 (by omega) (by omega) (by omega)
        · skip
          have c29 := nltI h23
          refine Sf_ite (fun h30 => ?_) (fun h30 => ?_)
          · skip
            have c31 := eqI h30
            refine Sf_ite (fun h32 => ?_) (fun h32 => ?_)
            · skip
              have c33 := ltI h32
              rw [f_X12_row_J116]
              refine Sf_nmI (fun v124_81 hv34 => ?_)
              have g35 := rgI (x6_48 + 1)
              first | have e36 := adN x6_48 1 (1) (by decide) (by omega) (by omega) | skip
              have q37 := eqI hv34
              exact ih r87_65 r73_59 v124_81 (by omega) (by omega) (by omega)
            · skip
              have c38 := nltI h32
              refine Sf_nmI (fun v124_91 hv39 => ?_)
              have g40 := rgI (x6_48 + 1)
              first | have e41 := adN x6_48 1 (1) (by decide) (by omega) (by omega) | skip
              have q42 := eqI hv39
              exact ih x4_46 x5_47 v124_91 (by omega) (by omega) (by omega)
          · skip
            have c43 := neI h30
            rw [f_X12_row_J116]
            refine Sf_nmI (fun v124_81 hv44 => ?_)
            have g45 := rgI (x6_48 + 1)
            first | have e46 := adN x6_48 1 (1) (by decide) (by omega) (by omega) | skip
            have q47 := eqI hv44
            exact ih r87_65 r73_59 v124_81 (by omega) (by omega) (by omega)
      · skip
        have c48 := neI h15
        refine Sf_nmI (fun v124_95 hv49 => ?_)
        have g50 := rgI (x6_48 + 1)
        first | have e51 := adN x6_48 1 (1) (by decide) (by omega) (by omega) | skip
        have q52 := eqI hv49
        exact ih x4_46 x5_47 v124_95 (by omega) (by omega) (by omega)
set_option maxHeartbeats 4000000 in
set_option maxRecDepth 100000 in
theorem s_X12_row (s_notes : Int32) (s_noteDay : Nat → Int32) (s_noteMinute : Nat → Int32) (s_noteShape : Nat → Int32) (p1 : Int32) (p2 : Int32) (p3 : Int32) (hp0 : 0 ≤ s_notes.toInt) (hp1 : s_notes.toInt ≤ 40) : Sf (f_X12_row s_notes s_noteDay s_noteMinute s_noteShape p1 p2 p3) (fun (y : Int32) => True) := by
  have g1 := rgI s_notes
  have g2 := rgI p1
  have g3 := rgI p2
  have g4 := rgI p3
  have hFU : (100000 : Int) ≤ (FU : Int) := Int.ofNat_le.mpr FU_ge
  rw [f_X12_row]
  refine Sf_cb1 (s_X12_isShape p1 ) (fun r1_1 hp5 => ?_)
  have hp5 : ((r1_1.toInt = 0 ∨ r1_1.toInt = 1)) ∧ ((r1_1.toInt = 1 ∧ 0 ≤ p1.toInt ∧ p1.toInt ≤ 3) ∨ (r1_1.toInt = 0 ∧ (p1.toInt < 0 ∨ 3 < p1.toInt))) := hp5
  obtain ⟨hq6, hq7⟩ := hp5
  have g8 := rgI r1_1
  refine Sf_ite (fun h9 => ?_) (fun h9 => ?_)
  · skip
    have l10 : (0 : Int32).toInt = 0 := by decide
    have c11 := eqI h9
    exact Sf_some trivial
  · skip
    have l12 : (0 : Int32).toInt = 0 := by decide
    have c13 := neI h9
    refine Sf_cb1 (s_X12_isWithin p2 ) (fun r8_10 hp14 => ?_)
    have hp14 : ((r8_10.toInt = 0 ∨ r8_10.toInt = 1)) ∧ ((r8_10.toInt = 1 ∧ 0 ≤ p2.toInt ∧ p2.toInt ≤ 700) ∨ (r8_10.toInt = 0 ∧ (p2.toInt < 0 ∨ 700 < p2.toInt))) := hp14
    obtain ⟨hq15, hq16⟩ := hp14
    have g17 := rgI r8_10
    refine Sf_ite (fun h18 => ?_) (fun h18 => ?_)
    · skip
      have c19 := eqI h18
      exact Sf_some trivial
    · skip
      have c20 := neI h18
      have t21 := t64 p3
      have l22 : (0 : Int64).toInt = 0 := by decide
      have l23 : (1 : Int64).toInt = 1 := by decide
      refine Sf_cb1 (s_X12_lies (Int32.toInt64 p3) 0 1 ) (fun r18_19 hp24 => ?_)
      have hp24 : ((r18_19.toInt = 0 ∨ r18_19.toInt = 1)) ∧ ((r18_19.toInt = 1 ∧ (0 : Int64).toInt ≤ (Int32.toInt64 p3).toInt ∧ (Int32.toInt64 p3).toInt ≤ (1 : Int64).toInt) ∨ (r18_19.toInt = 0 ∧ ((Int32.toInt64 p3).toInt < (0 : Int64).toInt ∨ (1 : Int64).toInt < (Int32.toInt64 p3).toInt))) := hp24
      obtain ⟨hq25, hq26⟩ := hp24
      have g27 := rgI r18_19
      refine Sf_ite (fun h28 => ?_) (fun h28 => ?_)
      · skip
        have c29 := eqI h28
        exact Sf_some trivial
      · skip
        have c30 := neI h28
        have l31 : (400 : Int32).toInt = 400 := by decide
        refine Sf_cb1 (s_X12_manyOf s_notes s_noteDay s_noteShape p1 400 (by omega) (by omega)) (fun r29_28 hp32 => ?_)
        have g33 := rgI r29_28
        refine Sf_ite (fun h34 => ?_) (fun h34 => ?_)
        · skip
          have c35 := eqI h34
          exact Sf_some trivial
        · skip
          have c36 := neI h34
          refine s_X12_row_L46 s_notes s_noteDay s_noteMinute s_noteShape p1 p2 (f_X12_row_J130 p3) (by omega) (by omega) ?_ FU 0 0 0 (by omega) (by omega) (by omega)
          · intro z37 z38
            have g39 := rgI z37
            have g40 := rgI z38
            rw [f_X12_row_J130]
            refine Sf_ite (fun h41 => ?_) (fun h41 => ?_)
            · skip
              have c42 := eqI h41
              exact Sf_some trivial
            · skip
              have c43 := neI h41
              exact Sf_some trivial
set_option maxHeartbeats 4000000 in
set_option maxRecDepth 100000 in
theorem s_X12_blip (s_blips : Int32) (s_time : Nat → Int32) (p1 : Int32) (hp0 : 0 ≤ s_blips.toInt) (hp1 : s_blips.toInt ≤ 40) : Sf (f_X12_blip s_blips s_time p1) (fun (y : Int32 × Int32 × (Nat → Int32)) => (0 ≤ (y.2.1).toInt ∧ (y.2.1).toInt ≤ 40)) := by
  have g1 := rgI s_blips
  have g2 := rgI p1
  have hFU : (100000 : Int) ≤ (FU : Int) := Int.ofNat_le.mpr FU_ge
  rw [f_X12_blip]
  refine Sf_ite (fun h3 => ?_) (fun h3 => ?_)
  · skip
    have l4 : (40 : Int32).toInt = 40 := by decide
    have c5 := eqI h3
    have l6 : ((-1) : Int32).toInt = -1 := by decide
    refine Sf_some (show (0 ≤ s_blips.toInt ∧ s_blips.toInt ≤ 40) from ?_)
    (omega)
  · skip
    have l7 : (40 : Int32).toInt = 40 := by decide
    have c8 := neI h3
    have t9 := t64 p1
    have l10 : (0 : Int64).toInt = 0 := by decide
    have l11 : (1000000000 : Int64).toInt = 1000000000 := by decide
    refine Sf_cb1 (s_X12_lies (Int32.toInt64 p1) 0 1000000000 ) (fun r15_7 hp12 => ?_)
    have hp12 : ((r15_7.toInt = 0 ∨ r15_7.toInt = 1)) ∧ ((r15_7.toInt = 1 ∧ (0 : Int64).toInt ≤ (Int32.toInt64 p1).toInt ∧ (Int32.toInt64 p1).toInt ≤ (1000000000 : Int64).toInt) ∨ (r15_7.toInt = 0 ∧ ((Int32.toInt64 p1).toInt < (0 : Int64).toInt ∨ (1000000000 : Int64).toInt < (Int32.toInt64 p1).toInt))) := hp12
    obtain ⟨hq13, hq14⟩ := hp12
    have g15 := rgI r15_7
    refine Sf_ite (fun h16 => ?_) (fun h16 => ?_)
    · skip
      have l17 : (0 : Int32).toInt = 0 := by decide
      have c18 := eqI h16
      have l19 : ((-1) : Int32).toInt = -1 := by decide
      refine Sf_some (show (0 ≤ s_blips.toInt ∧ s_blips.toInt ≤ 40) from ?_)
      (omega)
    · skip
      have l20 : (0 : Int32).toInt = 0 := by decide
      have c21 := neI h16
      refine Sf_ite (fun h22 => ?_) (fun h22 => ?_)
      · skip
        have c23 := leI h22
        rw [f_X12_blip_J45]
        refine Sf_wrI (by omega) (by omega) (fun g54_18 hw24 => ?_)
        refine Sf_nmI (fun v62_23 hv25 => ?_)
        have g26 := rgI (s_blips + 1)
        first | have e27 := adN s_blips 1 (1) (by decide) (by omega) (by omega) | skip
        have q28 := eqI hv25
        have g29 := rgI (v62_23 - 1)
        first | have e30 := sbN v62_23 1 (1) (by decide) (by omega) (by omega) | skip
        refine Sf_some (show (0 ≤ v62_23.toInt ∧ v62_23.toInt ≤ 40) from ?_)
        (omega)
      · skip
        have c31 := nleI h22
        have g32 := rgI (s_blips - 1)
        first | have e33 := sbN s_blips 1 (1) (by decide) (by omega) (by omega) | skip
        refine Sf_rdI (by omega) (by omega) (fun v39_33 hv34 => ?_)
        have g35 := rgI v39_33
        refine Sf_ite (fun h36 => ?_) (fun h36 => ?_)
        · skip
          have c37 := ltI h36
          rw [f_X12_blip_J45]
          refine Sf_wrI (by omega) (by omega) (fun g54_18 hw38 => ?_)
          refine Sf_nmI (fun v62_23 hv39 => ?_)
          have g40 := rgI (s_blips + 1)
          first | have e41 := adN s_blips 1 (1) (by decide) (by omega) (by omega) | skip
          have q42 := eqI hv39
          have g43 := rgI (v62_23 - 1)
          first | have e44 := sbN v62_23 1 (1) (by decide) (by omega) (by omega) | skip
          refine Sf_some (show (0 ≤ v62_23.toInt ∧ v62_23.toInt ≤ 40) from ?_)
          (omega)
        · skip
          have c45 := nltI h36
          have l46 : ((-1) : Int32).toInt = -1 := by decide
          refine Sf_some (show (0 ≤ s_blips.toInt ∧ s_blips.toInt ≤ 40) from ?_)
          (omega)
set_option maxHeartbeats 4000000 in
set_option maxRecDepth 100000 in
theorem s_X12_isFit_L16 (s_blips : Int32) (s_time : Nat → Int32) (p1 : Int32) (p2 : Int32) (x3_2 : Int32) (K69 : Int32 → Option (Int32)) (hp0 : 0 ≤ s_blips.toInt) (hp1 : s_blips.toInt ≤ 40) (hp2 : 1 ≤ p1.toInt) (hp3 : 0 ≤ x3_2.toInt) (hp4 : x3_2.toInt < 40) (hK69 : ∀ (a0 : Int32), Sf (K69 a0) (fun (y : Int32) => ((y.toInt = 0 ∨ y.toInt = 1)))) : ∀ (n : Nat) (x4_18 : Int32) (x5_19 : Int32), (0 ≤ x5_19.toInt) → (x5_19.toInt ≤ 40) → (41 - x5_19.toInt < (n : Int)) → Sf (f_X12_isFit_L16 s_blips s_time p1 p2 x3_2 K69 n x4_18 x5_19) (fun (y : Int32) => ((y.toInt = 0 ∨ y.toInt = 1))) := by
  have hFU : (100000 : Int) ≤ (FU : Int) := Int.ofNat_le.mpr FU_ge
  have g1 := rgI s_blips
  have g2 := rgI p1
  have g3 := rgI p2
  have g4 := rgI x3_2
  intro n
  induction n with
  | zero =>
    intro x4_18 x5_19 hi0 hi1 hm
    have g5 := rgI x4_18
    have g6 := rgI x5_19
    exact absurd hm (by omega)
  | succ n ih =>
    intro x4_18 x5_19 hi0 hi1 hm
    rw [f_X12_isFit_L16]
    have g7 := rgI x4_18
    have g8 := rgI x5_19
    refine Sf_ite (fun h9 => ?_) (fun h9 => ?_)
    · skip
      have c10 := leI h9
      exact hK69 x4_18 
    · skip
      have c11 := nleI h9
      refine Sf_rdI (by omega) (by omega) (fun v33_23 hv12 => ?_)
      have g13 := rgI v33_23
      refine Sf_dvI (by omega) ?_
      refine Sf_rdI (by omega) (by omega) (fun v41_29 hv14 => ?_)
      have g15 := rgI v41_29
      refine Sf_dvI (by omega) ?_
      refine Sf_dvI (by omega) ?_
      refine Sf_ite (fun h16 => ?_) (fun h16 => ?_)
      · skip
        have l17 : (2 : Int32).toInt = 2 := by decide
        have g18 := rgI (2 * p2)
        first | have e19 := mlY 2 p2 (2) (by decide) (by omega) (by omega) | skip
        have g20 := rgI (jrem v33_23 p1)
        have m21 := rm_ v33_23 p1 (by omega)
        have g22 := rgI (jrem v41_29 p1)
        have m23 := rm_ v41_29 p1 (by omega)
        have g24 := rgI ((jrem v33_23 p1) - (jrem v41_29 p1))
        first | have e25 := sbX (jrem v33_23 p1) (jrem v41_29 p1) (by omega) (by omega) | skip
        have g26 := rgI (((jrem v33_23 p1) - (jrem v41_29 p1)) + p1)
        first | have e27 := adX ((jrem v33_23 p1) - (jrem v41_29 p1)) p1 (by omega) (by omega) | skip
        have g28 := rgI (jrem (((jrem v33_23 p1) - (jrem v41_29 p1)) + p1) p1)
        have m29 := rm_ (((jrem v33_23 p1) - (jrem v41_29 p1)) + p1) p1 (by omega)
        have c30 := ltI h16
        refine Sf_nmI (fun v61_40 hv31 => ?_)
        have g32 := rgI (x4_18 + 0)
        first | have e33 := adN x4_18 0 (0) (by decide) (by omega) (by omega) | skip
        have q34 := eqI hv31
        refine Sf_nmI (fun v63_44 hv35 => ?_)
        have g36 := rgI (x5_19 + 1)
        first | have e37 := adN x5_19 1 (1) (by decide) (by omega) (by omega) | skip
        have q38 := eqI hv35
        exact ih v61_40 v63_44 (by omega) (by omega) (by omega)
      · skip
        have l39 : (2 : Int32).toInt = 2 := by decide
        have g40 := rgI (2 * p2)
        first | have e41 := mlY 2 p2 (2) (by decide) (by omega) (by omega) | skip
        have g42 := rgI (jrem v33_23 p1)
        have m43 := rm_ v33_23 p1 (by omega)
        have g44 := rgI (jrem v41_29 p1)
        have m45 := rm_ v41_29 p1 (by omega)
        have g46 := rgI ((jrem v33_23 p1) - (jrem v41_29 p1))
        first | have e47 := sbX (jrem v33_23 p1) (jrem v41_29 p1) (by omega) (by omega) | skip
        have g48 := rgI (((jrem v33_23 p1) - (jrem v41_29 p1)) + p1)
        first | have e49 := adX ((jrem v33_23 p1) - (jrem v41_29 p1)) p1 (by omega) (by omega) | skip
        have g50 := rgI (jrem (((jrem v33_23 p1) - (jrem v41_29 p1)) + p1) p1)
        have m51 := rm_ (((jrem v33_23 p1) - (jrem v41_29 p1)) + p1) p1 (by omega)
        have c52 := nltI h16
        refine Sf_nmI (fun v61_48 hv53 => ?_)
        have g54 := rgI (x4_18 + 1)
        first | have e55 := adN x4_18 1 (1) (by decide) (by omega) (by omega) | skip
        have q56 := eqI hv53
        refine Sf_nmI (fun v63_52 hv57 => ?_)
        have g58 := rgI (x5_19 + 1)
        first | have e59 := adN x5_19 1 (1) (by decide) (by omega) (by omega) | skip
        have q60 := eqI hv57
        exact ih v61_48 v63_52 (by omega) (by omega) (by omega)
set_option maxHeartbeats 4000000 in
set_option maxRecDepth 100000 in
theorem s_X12_isFit_L2 (s_blips : Int32) (s_time : Nat → Int32) (p1 : Int32) (p2 : Int32) (hp0 : 0 ≤ s_blips.toInt) (hp1 : s_blips.toInt ≤ 40) (hp2 : 1 ≤ p1.toInt) : ∀ (n : Nat) (x3_2 : Int32), (0 ≤ x3_2.toInt) → (x3_2.toInt ≤ 40) → (41 - x3_2.toInt < (n : Int)) → Sf (f_X12_isFit_L2 s_blips s_time p1 p2 n x3_2) (fun (y : Int32) => ((y.toInt = 0 ∨ y.toInt = 1))) := by
  have hFU : (100000 : Int) ≤ (FU : Int) := Int.ofNat_le.mpr FU_ge
  have g1 := rgI s_blips
  have g2 := rgI p1
  have g3 := rgI p2
  intro n
  induction n with
  | zero =>
    intro x3_2 hi0 hi1 hm
    have g4 := rgI x3_2
    exact absurd hm (by omega)
  | succ n ih =>
    intro x3_2 hi0 hi1 hm
    rw [f_X12_isFit_L2]
    have g5 := rgI x3_2
    refine Sf_ite (fun h6 => ?_) (fun h6 => ?_)
    · skip
      have c7 := leI h6
      have l8 : (0 : Int32).toInt = 0 := by decide
      refine Sf_some (show (((0 : Int32).toInt = 0 ∨ (0 : Int32).toInt = 1)) from ?_)
      (omega)
    · skip
      have c9 := nleI h6
      have l10 : (0 : Int32).toInt = 0 := by decide
      refine s_X12_isFit_L16 s_blips s_time p1 p2 x3_2 (f_X12_isFit_J69 s_blips x3_2 (f_X12_isFit_L2 s_blips s_time p1 p2 n)) (by omega) (by omega) (by omega) (by omega) (by omega) ?_ FU 0 0 (by omega) (by omega) (by omega)
      · intro z11
        have g12 := rgI z11
        rw [f_X12_isFit_J69]
        refine Sf_ite (fun h13 => ?_) (fun h13 => ?_)
        · skip
          have c14 := eqI h13
          have l15 : (1 : Int32).toInt = 1 := by decide
          refine Sf_some (show (((1 : Int32).toInt = 0 ∨ (1 : Int32).toInt = 1)) from ?_)
          (omega)
        · skip
          have c16 := neI h13
          refine Sf_nmI (fun v80_13 hv17 => ?_)
          have g18 := rgI (x3_2 + 1)
          first | have e19 := adN x3_2 1 (1) (by decide) (by omega) (by omega) | skip
          have q20 := eqI hv17
          exact ih v80_13 (by omega) (by omega) (by omega)
set_option maxHeartbeats 4000000 in
set_option maxRecDepth 100000 in
theorem s_X12_isFit (s_blips : Int32) (s_time : Nat → Int32) (p1 : Int32) (p2 : Int32) (hp0 : 0 ≤ s_blips.toInt) (hp1 : s_blips.toInt ≤ 40) (hp2 : 1 ≤ p1.toInt) : Sf (f_X12_isFit s_blips s_time p1 p2) (fun (y : Int32) => ((y.toInt = 0 ∨ y.toInt = 1))) := by
  have g1 := rgI s_blips
  have g2 := rgI p1
  have g3 := rgI p2
  have hFU : (100000 : Int) ≤ (FU : Int) := Int.ofNat_le.mpr FU_ge
  rw [f_X12_isFit]
  have l4 : (0 : Int32).toInt = 0 := by decide
  refine s_X12_isFit_L2 s_blips s_time p1 p2 (by omega) (by omega) (by omega)  FU 0 (by omega) (by omega) (by omega)
set_option maxHeartbeats 4000000 in
set_option maxRecDepth 100000 in
theorem s_X12_isBeat (p1 : Int32)  : Sf (f_X12_isBeat p1) (fun (y : Int32) => ((y.toInt = 0 ∨ y.toInt = 1)) ∧ ((y.toInt = 1 ∧ 1 ≤ p1.toInt ∧ p1.toInt ≤ 1000000) ∨ (y.toInt = 0 ∧ (p1.toInt < 1 ∨ 1000000 < p1.toInt)))) := by
  have g1 := rgI p1
  have hFU : (100000 : Int) ≤ (FU : Int) := Int.ofNat_le.mpr FU_ge
  rw [f_X12_isBeat]
  have t2 := t64 p1
  have l3 : (1 : Int64).toInt = 1 := by decide
  have l4 : (1000000 : Int64).toInt = 1000000 := by decide
  refine Sf_cb1 (s_X12_lies (Int32.toInt64 p1) 1 1000000 ) (fun r6_1 hp5 => ?_)
  have hp5 : ((r6_1.toInt = 0 ∨ r6_1.toInt = 1)) ∧ ((r6_1.toInt = 1 ∧ (1 : Int64).toInt ≤ (Int32.toInt64 p1).toInt ∧ (Int32.toInt64 p1).toInt ≤ (1000000 : Int64).toInt) ∨ (r6_1.toInt = 0 ∧ ((Int32.toInt64 p1).toInt < (1 : Int64).toInt ∨ (1000000 : Int64).toInt < (Int32.toInt64 p1).toInt))) := hp5
  obtain ⟨hq6, hq7⟩ := hp5
  have g8 := rgI r6_1
  refine Sf_bo (by omega) ?_
  refine Sf_some (show ((r6_1.toInt = 0 ∨ r6_1.toInt = 1)) ∧ ((r6_1.toInt = 1 ∧ 1 ≤ p1.toInt ∧ p1.toInt ≤ 1000000) ∨ (r6_1.toInt = 0 ∧ (p1.toInt < 1 ∨ 1000000 < p1.toInt))) from ?_)
  refine ⟨?_, ?_⟩ <;> (omega)
set_option maxHeartbeats 4000000 in
set_option maxRecDepth 100000 in
theorem s_X12_fits (s_blips : Int32) (s_time : Nat → Int32) (p1 : Int32) (p2 : Int32) (hp0 : 0 ≤ s_blips.toInt) (hp1 : s_blips.toInt ≤ 40) : Sf (f_X12_fits s_blips s_time p1 p2) (fun (y : Int32) => True) := by
  have g1 := rgI s_blips
  have g2 := rgI p1
  have g3 := rgI p2
  have hFU : (100000 : Int) ≤ (FU : Int) := Int.ofNat_le.mpr FU_ge
  rw [f_X12_fits]
  refine Sf_cb1 (s_X12_isBeat p1 ) (fun r1_1 hp4 => ?_)
  have hp4 : ((r1_1.toInt = 0 ∨ r1_1.toInt = 1)) ∧ ((r1_1.toInt = 1 ∧ 1 ≤ p1.toInt ∧ p1.toInt ≤ 1000000) ∨ (r1_1.toInt = 0 ∧ (p1.toInt < 1 ∨ 1000000 < p1.toInt))) := hp4
  obtain ⟨hq5, hq6⟩ := hp4
  have g7 := rgI r1_1
  refine Sf_ite (fun h8 => ?_) (fun h8 => ?_)
  · skip
    have l9 : (0 : Int32).toInt = 0 := by decide
    have c10 := eqI h8
    exact Sf_some trivial
  · skip
    have l11 : (0 : Int32).toInt = 0 := by decide
    have c12 := neI h8
    have t13 := t64 p2
    have l14 : (0 : Int64).toInt = 0 := by decide
    have l15 : (1000 : Int64).toInt = 1000 := by decide
    refine Sf_cb1 (s_X12_lies (Int32.toInt64 p2) 0 1000 ) (fun r13_10 hp16 => ?_)
    have hp16 : ((r13_10.toInt = 0 ∨ r13_10.toInt = 1)) ∧ ((r13_10.toInt = 1 ∧ (0 : Int64).toInt ≤ (Int32.toInt64 p2).toInt ∧ (Int32.toInt64 p2).toInt ≤ (1000 : Int64).toInt) ∨ (r13_10.toInt = 0 ∧ ((Int32.toInt64 p2).toInt < (0 : Int64).toInt ∨ (1000 : Int64).toInt < (Int32.toInt64 p2).toInt))) := hp16
    obtain ⟨hq17, hq18⟩ := hp16
    have g19 := rgI r13_10
    refine Sf_ite (fun h20 => ?_) (fun h20 => ?_)
    · skip
      have c21 := eqI h20
      exact Sf_some trivial
    · skip
      have c22 := neI h20
      refine Sf_ite (fun h23 => ?_) (fun h23 => ?_)
      · skip
        have l24 : (2 : Int32).toInt = 2 := by decide
        have g25 := rgI (2 * p2)
        first | have e26 := mlY 2 p2 (2) (by decide) (by omega) (by omega) | skip
        have c27 := leI h23
        exact Sf_some trivial
      · skip
        have l28 : (2 : Int32).toInt = 2 := by decide
        have g29 := rgI (2 * p2)
        first | have e30 := mlY 2 p2 (2) (by decide) (by omega) (by omega) | skip
        have c31 := nleI h23
        refine Sf_ite (fun h32 => ?_) (fun h32 => ?_)
        · skip
          have l33 : (1 : Int32).toInt = 1 := by decide
          have c34 := leI h32
          exact Sf_some trivial
        · skip
          have l35 : (1 : Int32).toInt = 1 := by decide
          have c36 := nleI h32
          refine Sf_cb1 (s_X12_isFit s_blips s_time p1 p2 (by omega) (by omega) (by omega)) (fun r37_27 hp37 => ?_)
          have hp37 : ((r37_27.toInt = 0 ∨ r37_27.toInt = 1)) := hp37
          have g38 := rgI r37_27
          refine Sf_ite (fun h39 => ?_) (fun h39 => ?_)
          · skip
            have c40 := eqI h39
            exact Sf_some trivial
          · skip
            have c41 := neI h39
            exact Sf_some trivial
set_option maxHeartbeats 4000000 in
set_option maxRecDepth 100000 in
theorem s_X12_canBeat (s_blips : Int32) (p1 : Int32) (p2 : Int32) (p3 : Int32) (hp0 : 0 ≤ s_blips.toInt) (hp1 : s_blips.toInt ≤ 40) : Sf (f_X12_canBeat s_blips p1 p2 p3) (fun (y : Int32) => ((y.toInt = 0 ∨ y.toInt = 1)) ∧ (y.toInt = 0 ∨ (1 ≤ p1.toInt ∧ p1.toInt ≤ p2.toInt ∧ p2.toInt ≤ 1000000 ∧ p2.toInt ≤ p1.toInt + 2000 ∧ 2 ≤ s_blips.toInt))) := by
  have g1 := rgI s_blips
  have g2 := rgI p1
  have g3 := rgI p2
  have g4 := rgI p3
  have hFU : (100000 : Int) ≤ (FU : Int) := Int.ofNat_le.mpr FU_ge
  rw [f_X12_canBeat]
  refine Sf_cb1 (s_X12_isBeat p1 ) (fun r1_1 hp5 => ?_)
  have hp5 : ((r1_1.toInt = 0 ∨ r1_1.toInt = 1)) ∧ ((r1_1.toInt = 1 ∧ 1 ≤ p1.toInt ∧ p1.toInt ≤ 1000000) ∨ (r1_1.toInt = 0 ∧ (p1.toInt < 1 ∨ 1000000 < p1.toInt))) := hp5
  obtain ⟨hq6, hq7⟩ := hp5
  have g8 := rgI r1_1
  refine Sf_ite (fun h9 => ?_) (fun h9 => ?_)
  · skip
    have l10 : (0 : Int32).toInt = 0 := by decide
    have c11 := eqI h9
    refine Sf_some (show (((0 : Int32).toInt = 0 ∨ (0 : Int32).toInt = 1)) ∧ ((0 : Int32).toInt = 0 ∨ (1 ≤ p1.toInt ∧ p1.toInt ≤ p2.toInt ∧ p2.toInt ≤ 1000000 ∧ p2.toInt ≤ p1.toInt + 2000 ∧ 2 ≤ s_blips.toInt)) from ?_)
    refine ⟨?_, ?_⟩ <;> (omega)
  · skip
    have l12 : (0 : Int32).toInt = 0 := by decide
    have c13 := neI h9
    refine Sf_cb1 (s_X12_isBeat p2 ) (fun r8_10 hp14 => ?_)
    have hp14 : ((r8_10.toInt = 0 ∨ r8_10.toInt = 1)) ∧ ((r8_10.toInt = 1 ∧ 1 ≤ p2.toInt ∧ p2.toInt ≤ 1000000) ∨ (r8_10.toInt = 0 ∧ (p2.toInt < 1 ∨ 1000000 < p2.toInt))) := hp14
    obtain ⟨hq15, hq16⟩ := hp14
    have g17 := rgI r8_10
    refine Sf_ite (fun h18 => ?_) (fun h18 => ?_)
    · skip
      have c19 := eqI h18
      refine Sf_some (show (((0 : Int32).toInt = 0 ∨ (0 : Int32).toInt = 1)) ∧ ((0 : Int32).toInt = 0 ∨ (1 ≤ p1.toInt ∧ p1.toInt ≤ p2.toInt ∧ p2.toInt ≤ 1000000 ∧ p2.toInt ≤ p1.toInt + 2000 ∧ 2 ≤ s_blips.toInt)) from ?_)
      refine ⟨?_, ?_⟩ <;> (omega)
    · skip
      have c20 := neI h18
      have t21 := t64 p2
      have t22 := t64 p1
      have g23 := rgI (p1 + 2000)
      first | have e24 := adN p1 2000 (2000) (by decide) (by omega) (by omega) | skip
      have t25 := t64 (p1 + 2000)
      refine Sf_cb1 (s_X12_lies (Int32.toInt64 p2) (Int32.toInt64 p1) (Int32.toInt64 (p1 + 2000)) ) (fun r24_19 hp26 => ?_)
      have hp26 : ((r24_19.toInt = 0 ∨ r24_19.toInt = 1)) ∧ ((r24_19.toInt = 1 ∧ (Int32.toInt64 p1).toInt ≤ (Int32.toInt64 p2).toInt ∧ (Int32.toInt64 p2).toInt ≤ (Int32.toInt64 (p1 + 2000)).toInt) ∨ (r24_19.toInt = 0 ∧ ((Int32.toInt64 p2).toInt < (Int32.toInt64 p1).toInt ∨ (Int32.toInt64 (p1 + 2000)).toInt < (Int32.toInt64 p2).toInt))) := hp26
      obtain ⟨hq27, hq28⟩ := hp26
      have g29 := rgI r24_19
      refine Sf_ite (fun h30 => ?_) (fun h30 => ?_)
      · skip
        have c31 := eqI h30
        refine Sf_some (show (((0 : Int32).toInt = 0 ∨ (0 : Int32).toInt = 1)) ∧ ((0 : Int32).toInt = 0 ∨ (1 ≤ p1.toInt ∧ p1.toInt ≤ p2.toInt ∧ p2.toInt ≤ 1000000 ∧ p2.toInt ≤ p1.toInt + 2000 ∧ 2 ≤ s_blips.toInt)) from ?_)
        refine ⟨?_, ?_⟩ <;> (omega)
      · skip
        have c32 := neI h30
        have t33 := t64 p3
        have l34 : (0 : Int64).toInt = 0 := by decide
        have l35 : (1000 : Int64).toInt = 1000 := by decide
        refine Sf_cb1 (s_X12_lies (Int32.toInt64 p3) 0 1000 ) (fun r36_28 hp36 => ?_)
        have hp36 : ((r36_28.toInt = 0 ∨ r36_28.toInt = 1)) ∧ ((r36_28.toInt = 1 ∧ (0 : Int64).toInt ≤ (Int32.toInt64 p3).toInt ∧ (Int32.toInt64 p3).toInt ≤ (1000 : Int64).toInt) ∨ (r36_28.toInt = 0 ∧ ((Int32.toInt64 p3).toInt < (0 : Int64).toInt ∨ (1000 : Int64).toInt < (Int32.toInt64 p3).toInt))) := hp36
        obtain ⟨hq37, hq38⟩ := hp36
        have g39 := rgI r36_28
        refine Sf_ite (fun h40 => ?_) (fun h40 => ?_)
        · skip
          have c41 := eqI h40
          refine Sf_some (show (((0 : Int32).toInt = 0 ∨ (0 : Int32).toInt = 1)) ∧ ((0 : Int32).toInt = 0 ∨ (1 ≤ p1.toInt ∧ p1.toInt ≤ p2.toInt ∧ p2.toInt ≤ 1000000 ∧ p2.toInt ≤ p1.toInt + 2000 ∧ 2 ≤ s_blips.toInt)) from ?_)
          refine ⟨?_, ?_⟩ <;> (omega)
        · skip
          have c42 := neI h40
          refine Sf_ite (fun h43 => ?_) (fun h43 => ?_)
          · skip
            have l44 : (2 : Int32).toInt = 2 := by decide
            have g45 := rgI (2 * p3)
            first | have e46 := mlY 2 p3 (2) (by decide) (by omega) (by omega) | skip
            have c47 := leI h43
            refine Sf_some (show (((0 : Int32).toInt = 0 ∨ (0 : Int32).toInt = 1)) ∧ ((0 : Int32).toInt = 0 ∨ (1 ≤ p1.toInt ∧ p1.toInt ≤ p2.toInt ∧ p2.toInt ≤ 1000000 ∧ p2.toInt ≤ p1.toInt + 2000 ∧ 2 ≤ s_blips.toInt)) from ?_)
            refine ⟨?_, ?_⟩ <;> (omega)
          · skip
            have l48 : (2 : Int32).toInt = 2 := by decide
            have g49 := rgI (2 * p3)
            first | have e50 := mlY 2 p3 (2) (by decide) (by omega) (by omega) | skip
            have c51 := nleI h43
            refine Sf_ite (fun h52 => ?_) (fun h52 => ?_)
            · skip
              have l53 : (1 : Int32).toInt = 1 := by decide
              have c54 := leI h52
              refine Sf_some (show (((0 : Int32).toInt = 0 ∨ (0 : Int32).toInt = 1)) ∧ ((0 : Int32).toInt = 0 ∨ (1 ≤ p1.toInt ∧ p1.toInt ≤ p2.toInt ∧ p2.toInt ≤ 1000000 ∧ p2.toInt ≤ p1.toInt + 2000 ∧ 2 ≤ s_blips.toInt)) from ?_)
              refine ⟨?_, ?_⟩ <;> (omega)
            · skip
              have l55 : (1 : Int32).toInt = 1 := by decide
              have c56 := nleI h52
              refine Sf_some (show (((1 : Int32).toInt = 0 ∨ (1 : Int32).toInt = 1)) ∧ ((1 : Int32).toInt = 0 ∨ (1 ≤ p1.toInt ∧ p1.toInt ≤ p2.toInt ∧ p2.toInt ≤ 1000000 ∧ p2.toInt ≤ p1.toInt + 2000 ∧ 2 ≤ s_blips.toInt)) from ?_)
              refine ⟨?_, ?_⟩ <;> (omega)
set_option maxHeartbeats 4000000 in
set_option maxRecDepth 100000 in
theorem s_X12_fitsAll_L18 (s_blips : Int32) (s_time : Nat → Int32) (p2 : Int32) (p3 : Int32) (hp0 : 0 ≤ s_blips.toInt) (hp1 : s_blips.toInt ≤ 40) (hp2 : p2.toInt ≤ 1000000) : ∀ (n : Nat) (x4_5 : Int32) (fitLeast__6 : Int32) (fitMany__7 : Int32) (fitMost__8 : Int32), (1 ≤ x4_5.toInt) → (x4_5.toInt ≤ p2.toInt + 1) → (p2.toInt ≤ x4_5.toInt + 2000) → ((fitMany__7.toInt = 0 ∧ fitLeast__6.toInt = -1) ∨ (1 ≤ fitMany__7.toInt ∧ fitMany__7.toInt ≤ x4_5.toInt ∧ 1 ≤ fitLeast__6.toInt ∧ fitLeast__6.toInt ≤ fitMost__8.toInt ∧ fitMost__8.toInt < x4_5.toInt ∧ (fitMany__7.toInt = 1 ∨ fitLeast__6.toInt < fitMost__8.toInt))) → (p2.toInt - x4_5.toInt + 2 < (n : Int)) → Sf (f_X12_fitsAll_L18 s_blips s_time p2 p3 n x4_5 fitLeast__6 fitMany__7 fitMost__8) (fun (y : Int32 × Int32 × Int32) => (((y.1).toInt = 0 ∧ (y.2.1).toInt = -1) ∨ (1 ≤ (y.1).toInt ∧ 1 ≤ (y.2.1).toInt ∧ (y.2.1).toInt ≤ (y.2.2).toInt ∧ (y.2.2).toInt ≤ 1000000 ∧ ((y.1).toInt = 1 ∨ (y.2.1).toInt < (y.2.2).toInt)))) := by
  have hFU : (100000 : Int) ≤ (FU : Int) := Int.ofNat_le.mpr FU_ge
  have g1 := rgI s_blips
  have g2 := rgI p2
  have g3 := rgI p3
  intro n
  induction n with
  | zero =>
    intro x4_5 fitLeast__6 fitMany__7 fitMost__8 hi0 hi1 hi2 hi3 hm
    have g4 := rgI x4_5
    have g5 := rgI fitLeast__6
    have g6 := rgI fitMany__7
    have g7 := rgI fitMost__8
    exact absurd hm (by omega)
  | succ n ih =>
    intro x4_5 fitLeast__6 fitMany__7 fitMost__8 hi0 hi1 hi2 hi3 hm
    rw [f_X12_fitsAll_L18]
    have g8 := rgI x4_5
    have g9 := rgI fitLeast__6
    have g10 := rgI fitMany__7
    have g11 := rgI fitMost__8
    refine Sf_ite (fun h12 => ?_) (fun h12 => ?_)
    · skip
      have c13 := ltI h12
      refine Sf_some (show ((fitMany__7.toInt = 0 ∧ fitLeast__6.toInt = -1) ∨ (1 ≤ fitMany__7.toInt ∧ 1 ≤ fitLeast__6.toInt ∧ fitLeast__6.toInt ≤ fitMost__8.toInt ∧ fitMost__8.toInt ≤ 1000000 ∧ (fitMany__7.toInt = 1 ∨ fitLeast__6.toInt < fitMost__8.toInt))) from ?_)
      (omega)
    · skip
      have c14 := nltI h12
      refine Sf_cb1 (s_X12_isFit s_blips s_time x4_5 p3 (by omega) (by omega) (by omega)) (fun r28_15 hp15 => ?_)
      have hp15 : ((r28_15.toInt = 0 ∨ r28_15.toInt = 1)) := hp15
      have g16 := rgI r28_15
      refine Sf_ite (fun h17 => ?_) (fun h17 => ?_)
      · skip
        have l18 : (0 : Int32).toInt = 0 := by decide
        have c19 := eqI h17
        refine Sf_nmI (fun v74_37 hv20 => ?_)
        have g21 := rgI (x4_5 + 1)
        first | have e22 := adN x4_5 1 (1) (by decide) (by omega) (by omega) | skip
        have q23 := eqI hv20
        exact ih v74_37 fitLeast__6 fitMany__7 fitMost__8 (by omega) (by omega) (by omega) (by omega) (by omega)
      · skip
        have l24 : (0 : Int32).toInt = 0 := by decide
        have c25 := neI h17
        refine Sf_nmI (fun v44_23 hv26 => ?_)
        have g27 := rgI (fitMany__7 + 1)
        first | have e28 := adN fitMany__7 1 (1) (by decide) (by omega) (by omega) | skip
        have q29 := eqI hv26
        refine Sf_ite (fun h30 => ?_) (fun h30 => ?_)
        · skip
          have l31 : ((-1) : Int32).toInt = -1 := by decide
          have c32 := eqI h30
          rw [f_X12_fitsAll_J65]
          refine Sf_nmI (fun v74_30 hv33 => ?_)
          have g34 := rgI (x4_5 + 1)
          first | have e35 := adN x4_5 1 (1) (by decide) (by omega) (by omega) | skip
          have q36 := eqI hv33
          exact ih v74_30 x4_5 v44_23 x4_5 (by omega) (by omega) (by omega) (by omega) (by omega)
        · skip
          have l37 : ((-1) : Int32).toInt = -1 := by decide
          have c38 := neI h30
          rw [f_X12_fitsAll_J65]
          refine Sf_nmI (fun v74_30 hv39 => ?_)
          have g40 := rgI (x4_5 + 1)
          first | have e41 := adN x4_5 1 (1) (by decide) (by omega) (by omega) | skip
          have q42 := eqI hv39
          exact ih v74_30 fitLeast__6 v44_23 x4_5 (by omega) (by omega) (by omega) (by omega) (by omega)
set_option maxHeartbeats 4000000 in
set_option maxRecDepth 100000 in
theorem s_X12_fitsAll (s_blips : Int32) (s_fitMany : Int32) (s_fitLeast : Int32) (s_fitMost : Int32) (s_time : Nat → Int32) (p1 : Int32) (p2 : Int32) (p3 : Int32) (hp0 : 0 ≤ s_blips.toInt) (hp1 : s_blips.toInt ≤ 40) (hp2 : 1 ≤ p1.toInt) (hp3 : p1.toInt ≤ p2.toInt) (hp4 : p2.toInt ≤ 1000000) (hp5 : p2.toInt ≤ p1.toInt + 2000) : Sf (f_X12_fitsAll s_blips s_fitMany s_fitLeast s_fitMost s_time p1 p2 p3) (fun (y : Int32 × Int32 × Int32) => (((y.1).toInt = 0 ∧ (y.2.1).toInt = -1) ∨ (1 ≤ (y.1).toInt ∧ 1 ≤ (y.2.1).toInt ∧ (y.2.1).toInt ≤ (y.2.2).toInt ∧ (y.2.2).toInt ≤ 1000000 ∧ ((y.1).toInt = 1 ∨ (y.2.1).toInt < (y.2.2).toInt)))) := by
  have g1 := rgI s_blips
  have g2 := rgI s_fitMany
  have g3 := rgI s_fitLeast
  have g4 := rgI s_fitMost
  have g5 := rgI p1
  have g6 := rgI p2
  have g7 := rgI p3
  have hFU : (100000 : Int) ≤ (FU : Int) := Int.ofNat_le.mpr FU_ge
  rw [f_X12_fitsAll]
  have l8 : ((-1) : Int32).toInt = -1 := by decide
  have l9 : (0 : Int32).toInt = 0 := by decide
  refine s_X12_fitsAll_L18 s_blips s_time p2 p3 (by omega) (by omega) (by omega)  FU p1 (-1) 0 (-1) (by omega) (by omega) (by omega) (by omega) (by omega)
set_option maxHeartbeats 4000000 in
set_option maxRecDepth 100000 in
theorem s_X12_beats (s_blips : Int32) (s_fitMany : Int32) (s_fitLeast : Int32) (s_fitMost : Int32) (s_time : Nat → Int32) (p1 : Int32) (p2 : Int32) (p3 : Int32) (p4 : Int32) (hp0 : 0 ≤ s_blips.toInt) (hp1 : s_blips.toInt ≤ 40) : Sf (f_X12_beats s_blips s_fitMany s_fitLeast s_fitMost s_time p1 p2 p3 p4) (fun (y : Int32 × Int32 × Int32 × Int32) => True) := by
  have g1 := rgI s_blips
  have g2 := rgI s_fitMany
  have g3 := rgI s_fitLeast
  have g4 := rgI s_fitMost
  have g5 := rgI p1
  have g6 := rgI p2
  have g7 := rgI p3
  have g8 := rgI p4
  have hFU : (100000 : Int) ≤ (FU : Int) := Int.ofNat_le.mpr FU_ge
  rw [f_X12_beats]
  refine Sf_cb1 (s_X12_canBeat s_blips p1 p2 p3 (by omega) (by omega)) (fun r4_1 hp9 => ?_)
  have hp9 : ((r4_1.toInt = 0 ∨ r4_1.toInt = 1)) ∧ (r4_1.toInt = 0 ∨ (1 ≤ p1.toInt ∧ p1.toInt ≤ p2.toInt ∧ p2.toInt ≤ 1000000 ∧ p2.toInt ≤ p1.toInt + 2000 ∧ 2 ≤ s_blips.toInt)) := hp9
  obtain ⟨hq10, hq11⟩ := hp9
  have g12 := rgI r4_1
  refine Sf_ite (fun h13 => ?_) (fun h13 => ?_)
  · skip
    have l14 : (0 : Int32).toInt = 0 := by decide
    have c15 := eqI h13
    exact Sf_some trivial
  · skip
    have l16 : (0 : Int32).toInt = 0 := by decide
    have c17 := neI h13
    have t18 := t64 p4
    have l19 : (0 : Int64).toInt = 0 := by decide
    have l20 : (2 : Int64).toInt = 2 := by decide
    refine Sf_cb1 (s_X12_lies (Int32.toInt64 p4) 0 2 ) (fun r17_13 hp21 => ?_)
    have hp21 : ((r17_13.toInt = 0 ∨ r17_13.toInt = 1)) ∧ ((r17_13.toInt = 1 ∧ (0 : Int64).toInt ≤ (Int32.toInt64 p4).toInt ∧ (Int32.toInt64 p4).toInt ≤ (2 : Int64).toInt) ∨ (r17_13.toInt = 0 ∧ ((Int32.toInt64 p4).toInt < (0 : Int64).toInt ∨ (2 : Int64).toInt < (Int32.toInt64 p4).toInt))) := hp21
    obtain ⟨hq22, hq23⟩ := hp21
    have g24 := rgI r17_13
    refine Sf_ite (fun h25 => ?_) (fun h25 => ?_)
    · skip
      have c26 := eqI h25
      exact Sf_some trivial
    · skip
      have c27 := neI h25
      refine Sf_cb3 (s_X12_fitsAll s_blips s_fitMany s_fitLeast s_fitMost s_time p1 p2 p3 (by omega) (by omega) (by omega) (by omega) (by omega) (by omega)) (fun o_fitMany29_21 o_fitLeast29_22 o_fitMost29_23 hp28 => ?_)
      have hp28 : ((o_fitMany29_21.toInt = 0 ∧ o_fitLeast29_22.toInt = -1) ∨ (1 ≤ o_fitMany29_21.toInt ∧ 1 ≤ o_fitLeast29_22.toInt ∧ o_fitLeast29_22.toInt ≤ o_fitMost29_23.toInt ∧ o_fitMost29_23.toInt ≤ 1000000 ∧ (o_fitMany29_21.toInt = 1 ∨ o_fitLeast29_22.toInt < o_fitMost29_23.toInt))) := hp28
      have g29 := rgI o_fitMany29_21
      have g30 := rgI o_fitLeast29_22
      have g31 := rgI o_fitMost29_23
      refine Sf_ite (fun h32 => ?_) (fun h32 => ?_)
      · skip
        have c33 := eqI h32
        exact Sf_some trivial
      · skip
        have c34 := neI h32
        refine Sf_ite (fun h35 => ?_) (fun h35 => ?_)
        · skip
          have l36 : (1 : Int32).toInt = 1 := by decide
          have c37 := eqI h35
          exact Sf_some trivial
        · skip
          have l38 : (1 : Int32).toInt = 1 := by decide
          have c39 := neI h35
          exact Sf_some trivial
set_option maxHeartbeats 4000000 in
set_option maxRecDepth 100000 in
theorem s_X12_countOf (s_time : Nat → Int32) (p1 : Int32) (p2 : Int32) (hp0 : 0 ≤ p1.toInt) (hp1 : p1.toInt < 40) (hp2 : 1 ≤ p2.toInt) : Sf (f_X12_countOf s_time p1 p2) (fun (y : Int32) => True) := by
  have g1 := rgI p1
  have g2 := rgI p2
  have hFU : (100000 : Int) ≤ (FU : Int) := Int.ofNat_le.mpr FU_ge
  rw [f_X12_countOf]
  refine Sf_rdI (by omega) (by omega) (fun v8_1 hv3 => ?_)
  have g4 := rgI v8_1
  have l5 : (0 : Int32).toInt = 0 := by decide
  refine Sf_rdI (by omega) (by omega) (fun v14_5 hv6 => ?_)
  have g7 := rgI v14_5
  refine Sf_dvL (by exact dl_ p2 (by omega)) ?_
  exact Sf_some trivial
set_option maxHeartbeats 4000000 in
set_option maxRecDepth 100000 in
theorem s_X12_counted (s_blips : Int32) (s_time : Nat → Int32) (p1 : Int32) (p2 : Int32) (hp0 : 0 ≤ s_blips.toInt) (hp1 : s_blips.toInt ≤ 40) : Sf (f_X12_counted s_blips s_time p1 p2) (fun (y : Int32) => True) := by
  have g1 := rgI s_blips
  have g2 := rgI p1
  have g3 := rgI p2
  have hFU : (100000 : Int) ≤ (FU : Int) := Int.ofNat_le.mpr FU_ge
  rw [f_X12_counted]
  have t4 := t64 p1
  have l5 : (0 : Int64).toInt = 0 := by decide
  have g6 := rgI (s_blips - 1)
  first | have e7 := sbN s_blips 1 (1) (by decide) (by omega) (by omega) | skip
  have t8 := t64 (s_blips - 1)
  refine Sf_cb1 (s_X12_lies (Int32.toInt64 p1) 0 (Int32.toInt64 (s_blips - 1)) ) (fun r10_1 hp9 => ?_)
  have hp9 : ((r10_1.toInt = 0 ∨ r10_1.toInt = 1)) ∧ ((r10_1.toInt = 1 ∧ (0 : Int64).toInt ≤ (Int32.toInt64 p1).toInt ∧ (Int32.toInt64 p1).toInt ≤ (Int32.toInt64 (s_blips - 1)).toInt) ∨ (r10_1.toInt = 0 ∧ ((Int32.toInt64 p1).toInt < (0 : Int64).toInt ∨ (Int32.toInt64 (s_blips - 1)).toInt < (Int32.toInt64 p1).toInt))) := hp9
  obtain ⟨hq10, hq11⟩ := hp9
  have g12 := rgI r10_1
  refine Sf_ite (fun h13 => ?_) (fun h13 => ?_)
  · skip
    have l14 : (0 : Int32).toInt = 0 := by decide
    have c15 := eqI h13
    exact Sf_some trivial
  · skip
    have l16 : (0 : Int32).toInt = 0 := by decide
    have c17 := neI h13
    refine Sf_cb1 (s_X12_isBeat p2 ) (fun r17_10 hp18 => ?_)
    have hp18 : ((r17_10.toInt = 0 ∨ r17_10.toInt = 1)) ∧ ((r17_10.toInt = 1 ∧ 1 ≤ p2.toInt ∧ p2.toInt ≤ 1000000) ∨ (r17_10.toInt = 0 ∧ (p2.toInt < 1 ∨ 1000000 < p2.toInt))) := hp18
    obtain ⟨hq19, hq20⟩ := hp18
    have g21 := rgI r17_10
    refine Sf_ite (fun h22 => ?_) (fun h22 => ?_)
    · skip
      have c23 := eqI h22
      exact Sf_some trivial
    · skip
      have c24 := neI h22
      refine Sf_cb1 (s_X12_countOf s_time p1 p2 (by omega) (by omega) (by omega)) (fun r26_19 hp25 => ?_)
      have g26 := rgI r26_19
      exact Sf_some trivial
set_option maxHeartbeats 4000000 in
set_option maxRecDepth 100000 in
theorem s_X12_sure_L32 (s_blips : Int32) (s_time : Nat → Int32) (o_fitMany16_9 : Int32) (o_fitLeast16_10 : Int32) (o_fitMost16_11 : Int32) (hp0 : 0 ≤ s_blips.toInt) (hp1 : s_blips.toInt ≤ 40) (hp2 : 1 ≤ o_fitLeast16_10.toInt) (hp3 : 1 ≤ o_fitMost16_11.toInt) : ∀ (n : Nat) (x4_20 : Int32), (0 ≤ x4_20.toInt) → (x4_20.toInt ≤ 40) → (41 - x4_20.toInt < (n : Int)) → Sf (f_X12_sure_L32 s_blips s_time o_fitMany16_9 o_fitLeast16_10 o_fitMost16_11 n x4_20) (fun (y : Int32 × Int32 × Int32 × Int32) => True) := by
  have hFU : (100000 : Int) ≤ (FU : Int) := Int.ofNat_le.mpr FU_ge
  have g1 := rgI s_blips
  have g2 := rgI o_fitMany16_9
  have g3 := rgI o_fitLeast16_10
  have g4 := rgI o_fitMost16_11
  intro n
  induction n with
  | zero =>
    intro x4_20 hi0 hi1 hm
    have g5 := rgI x4_20
    exact absurd hm (by omega)
  | succ n ih =>
    intro x4_20 hi0 hi1 hm
    rw [f_X12_sure_L32]
    have g6 := rgI x4_20
    refine Sf_ite (fun h7 => ?_) (fun h7 => ?_)
    · skip
      have c8 := leI h7
      exact Sf_some trivial
    · skip
      have c9 := nleI h7
      refine Sf_cb1 (s_X12_countOf s_time x4_20 o_fitLeast16_10 (by omega) (by omega) (by omega)) (fun r48_28 hp10 => ?_)
      have g11 := rgI r48_28
      refine Sf_cb1 (s_X12_countOf s_time x4_20 o_fitMost16_11 (by omega) (by omega) (by omega)) (fun r58_33 hp12 => ?_)
      have g13 := rgI r58_33
      refine Sf_ite (fun h14 => ?_) (fun h14 => ?_)
      · skip
        have c15 := eqI h14
        refine Sf_nmI (fun v66_41 hv16 => ?_)
        have g17 := rgI (x4_20 + 1)
        first | have e18 := adN x4_20 1 (1) (by decide) (by omega) (by omega) | skip
        have q19 := eqI hv16
        exact ih v66_41 (by omega) (by omega) (by omega)
      · skip
        have c20 := neI h14
        exact Sf_some trivial
set_option maxHeartbeats 4000000 in
set_option maxRecDepth 100000 in
theorem s_X12_sure (s_blips : Int32) (s_fitMany : Int32) (s_fitLeast : Int32) (s_fitMost : Int32) (s_time : Nat → Int32) (p1 : Int32) (p2 : Int32) (p3 : Int32) (hp0 : 0 ≤ s_blips.toInt) (hp1 : s_blips.toInt ≤ 40) : Sf (f_X12_sure s_blips s_fitMany s_fitLeast s_fitMost s_time p1 p2 p3) (fun (y : Int32 × Int32 × Int32 × Int32) => True) := by
  have g1 := rgI s_blips
  have g2 := rgI s_fitMany
  have g3 := rgI s_fitLeast
  have g4 := rgI s_fitMost
  have g5 := rgI p1
  have g6 := rgI p2
  have g7 := rgI p3
  have hFU : (100000 : Int) ≤ (FU : Int) := Int.ofNat_le.mpr FU_ge
  rw [f_X12_sure]
  refine Sf_cb1 (s_X12_canBeat s_blips p1 p2 p3 (by omega) (by omega)) (fun r4_1 hp8 => ?_)
  have hp8 : ((r4_1.toInt = 0 ∨ r4_1.toInt = 1)) ∧ (r4_1.toInt = 0 ∨ (1 ≤ p1.toInt ∧ p1.toInt ≤ p2.toInt ∧ p2.toInt ≤ 1000000 ∧ p2.toInt ≤ p1.toInt + 2000 ∧ 2 ≤ s_blips.toInt)) := hp8
  obtain ⟨hq9, hq10⟩ := hp8
  have g11 := rgI r4_1
  refine Sf_ite (fun h12 => ?_) (fun h12 => ?_)
  · skip
    have l13 : (0 : Int32).toInt = 0 := by decide
    have c14 := eqI h12
    exact Sf_some trivial
  · skip
    have l15 : (0 : Int32).toInt = 0 := by decide
    have c16 := neI h12
    refine Sf_cb3 (s_X12_fitsAll s_blips s_fitMany s_fitLeast s_fitMost s_time p1 p2 p3 (by omega) (by omega) (by omega) (by omega) (by omega) (by omega)) (fun o_fitMany16_9 o_fitLeast16_10 o_fitMost16_11 hp17 => ?_)
    have hp17 : ((o_fitMany16_9.toInt = 0 ∧ o_fitLeast16_10.toInt = -1) ∨ (1 ≤ o_fitMany16_9.toInt ∧ 1 ≤ o_fitLeast16_10.toInt ∧ o_fitLeast16_10.toInt ≤ o_fitMost16_11.toInt ∧ o_fitMost16_11.toInt ≤ 1000000 ∧ (o_fitMany16_9.toInt = 1 ∨ o_fitLeast16_10.toInt < o_fitMost16_11.toInt))) := hp17
    have g18 := rgI o_fitMany16_9
    have g19 := rgI o_fitLeast16_10
    have g20 := rgI o_fitMost16_11
    refine Sf_ite (fun h21 => ?_) (fun h21 => ?_)
    · skip
      have c22 := eqI h21
      exact Sf_some trivial
    · skip
      have c23 := neI h21
      refine s_X12_sure_L32 s_blips s_time o_fitMany16_9 o_fitLeast16_10 o_fitMost16_11 (by omega) (by omega) (by omega) (by omega)  FU 0 (by omega) (by omega) (by omega)
set_option maxHeartbeats 4000000 in
set_option maxRecDepth 100000 in
theorem s_X12_lost (s_blips : Int32) (s_fitMany : Int32) (s_fitLeast : Int32) (s_fitMost : Int32) (s_time : Nat → Int32) (p1 : Int32) (p2 : Int32) (p3 : Int32) (hp0 : 0 ≤ s_blips.toInt) (hp1 : s_blips.toInt ≤ 40) : Sf (f_X12_lost s_blips s_fitMany s_fitLeast s_fitMost s_time p1 p2 p3) (fun (y : Int32 × Int32 × Int32 × Int32) => True) := by
  have g1 := rgI s_blips
  have g2 := rgI s_fitMany
  have g3 := rgI s_fitLeast
  have g4 := rgI s_fitMost
  have g5 := rgI p1
  have g6 := rgI p2
  have g7 := rgI p3
  have hFU : (100000 : Int) ≤ (FU : Int) := Int.ofNat_le.mpr FU_ge
  rw [f_X12_lost]
  refine Sf_cb1 (s_X12_canBeat s_blips p1 p2 p3 (by omega) (by omega)) (fun r4_1 hp8 => ?_)
  have hp8 : ((r4_1.toInt = 0 ∨ r4_1.toInt = 1)) ∧ (r4_1.toInt = 0 ∨ (1 ≤ p1.toInt ∧ p1.toInt ≤ p2.toInt ∧ p2.toInt ≤ 1000000 ∧ p2.toInt ≤ p1.toInt + 2000 ∧ 2 ≤ s_blips.toInt)) := hp8
  obtain ⟨hq9, hq10⟩ := hp8
  have g11 := rgI r4_1
  refine Sf_ite (fun h12 => ?_) (fun h12 => ?_)
  · skip
    have l13 : (0 : Int32).toInt = 0 := by decide
    have c14 := eqI h12
    exact Sf_some trivial
  · skip
    have l15 : (0 : Int32).toInt = 0 := by decide
    have c16 := neI h12
    refine Sf_cb3 (s_X12_fitsAll s_blips s_fitMany s_fitLeast s_fitMost s_time p1 p2 p3 (by omega) (by omega) (by omega) (by omega) (by omega) (by omega)) (fun o_fitMany16_9 o_fitLeast16_10 o_fitMost16_11 hp17 => ?_)
    have hp17 : ((o_fitMany16_9.toInt = 0 ∧ o_fitLeast16_10.toInt = -1) ∨ (1 ≤ o_fitMany16_9.toInt ∧ 1 ≤ o_fitLeast16_10.toInt ∧ o_fitLeast16_10.toInt ≤ o_fitMost16_11.toInt ∧ o_fitMost16_11.toInt ≤ 1000000 ∧ (o_fitMany16_9.toInt = 1 ∨ o_fitLeast16_10.toInt < o_fitMost16_11.toInt))) := hp17
    have g18 := rgI o_fitMany16_9
    have g19 := rgI o_fitLeast16_10
    have g20 := rgI o_fitMost16_11
    refine Sf_ite (fun h21 => ?_) (fun h21 => ?_)
    · skip
      have l22 : (2 : Int32).toInt = 2 := by decide
      have c23 := leI h21
      refine Sf_nmI (fun v41_19 hv24 => ?_)
      have g25 := rgI (o_fitMost16_11 - o_fitLeast16_10)
      first | have e26 := sbX o_fitMost16_11 o_fitLeast16_10 (by omega) (by omega) | skip
      have g27 := rgI (2 * (o_fitMost16_11 - o_fitLeast16_10))
      first | have e28 := mlY 2 (o_fitMost16_11 - o_fitLeast16_10) (2) (by decide) (by omega) (by omega) | skip
      have q29 := eqI hv24
      refine Sf_dvI (by omega) ?_
      exact Sf_some trivial
    · skip
      have l30 : (2 : Int32).toInt = 2 := by decide
      have c31 := nleI h21
      exact Sf_some trivial
set_option maxHeartbeats 4000000 in
set_option maxRecDepth 100000 in
theorem s_X12_night (s_nights : Int32) (s_found : Nat → Int32) (s_nightDay : Nat → Int32) (p1 : Int32) (p2 : Int32) (hp0 : 0 ≤ s_nights.toInt) (hp1 : s_nights.toInt ≤ 30) : Sf (f_X12_night s_nights s_found s_nightDay p1 p2) (fun (y : Int32 × Int32 × (Nat → Int32) × (Nat → Int32)) => (0 ≤ (y.2.1).toInt ∧ (y.2.1).toInt ≤ 30)) := by
  have g1 := rgI s_nights
  have g2 := rgI p1
  have g3 := rgI p2
  have hFU : (100000 : Int) ≤ (FU : Int) := Int.ofNat_le.mpr FU_ge
  rw [f_X12_night]
  refine Sf_ite (fun h4 => ?_) (fun h4 => ?_)
  · skip
    have l5 : (30 : Int32).toInt = 30 := by decide
    have c6 := eqI h4
    have l7 : ((-1) : Int32).toInt = -1 := by decide
    refine Sf_some (show (0 ≤ s_nights.toInt ∧ s_nights.toInt ≤ 30) from ?_)
    (omega)
  · skip
    have l8 : (30 : Int32).toInt = 30 := by decide
    have c9 := neI h4
    refine Sf_cb1 (s_X12_isDay p1 ) (fun r10_8 hp10 => ?_)
    have hp10 : ((r10_8.toInt = 0 ∨ r10_8.toInt = 1)) ∧ ((r10_8.toInt = 1 ∧ 0 ≤ p1.toInt ∧ p1.toInt ≤ 399) ∨ (r10_8.toInt = 0 ∧ (p1.toInt < 0 ∨ 399 < p1.toInt))) := hp10
    obtain ⟨hq11, hq12⟩ := hp10
    have g13 := rgI r10_8
    refine Sf_ite (fun h14 => ?_) (fun h14 => ?_)
    · skip
      have l15 : (0 : Int32).toInt = 0 := by decide
      have c16 := eqI h14
      have l17 : ((-1) : Int32).toInt = -1 := by decide
      refine Sf_some (show (0 ≤ s_nights.toInt ∧ s_nights.toInt ≤ 30) from ?_)
      (omega)
    · skip
      have l18 : (0 : Int32).toInt = 0 := by decide
      have c19 := neI h14
      have t20 := t64 p2
      have l21 : (-100000 : Int64).toInt = -100000 := by decide
      have l22 : (100000 : Int64).toInt = 100000 := by decide
      refine Sf_cb1 (s_X12_lies (Int32.toInt64 p2) (-100000) 100000 ) (fun r24_20 hp23 => ?_)
      have hp23 : ((r24_20.toInt = 0 ∨ r24_20.toInt = 1)) ∧ ((r24_20.toInt = 1 ∧ (-100000 : Int64).toInt ≤ (Int32.toInt64 p2).toInt ∧ (Int32.toInt64 p2).toInt ≤ (100000 : Int64).toInt) ∨ (r24_20.toInt = 0 ∧ ((Int32.toInt64 p2).toInt < (-100000 : Int64).toInt ∨ (100000 : Int64).toInt < (Int32.toInt64 p2).toInt))) := hp23
      obtain ⟨hq24, hq25⟩ := hp23
      have g26 := rgI r24_20
      refine Sf_ite (fun h27 => ?_) (fun h27 => ?_)
      · skip
        have c28 := eqI h27
        have l29 : ((-1) : Int32).toInt = -1 := by decide
        refine Sf_some (show (0 ≤ s_nights.toInt ∧ s_nights.toInt ≤ 30) from ?_)
        (omega)
      · skip
        have c30 := neI h27
        refine Sf_wrI (by omega) (by omega) (fun g41_28 hw31 => ?_)
        refine Sf_wrI (by omega) (by omega) (fun g51_33 hw32 => ?_)
        refine Sf_nmI (fun v59_38 hv33 => ?_)
        have g34 := rgI (s_nights + 1)
        first | have e35 := adN s_nights 1 (1) (by decide) (by omega) (by omega) | skip
        have q36 := eqI hv33
        have g37 := rgI (v59_38 - 1)
        first | have e38 := sbN v59_38 1 (1) (by decide) (by omega) (by omega) | skip
        refine Sf_some (show (0 ≤ v59_38.toInt ∧ v59_38.toInt ≤ 30) from ?_)
        (omega)
set_option maxHeartbeats 4000000 in
set_option maxRecDepth 100000 in
theorem s_X12_isNight (s_nights : Int32) (p1 : Int32) (hp0 : 0 ≤ s_nights.toInt) (hp1 : s_nights.toInt ≤ 30) : Sf (f_X12_isNight s_nights p1) (fun (y : Int32) => ((y.toInt = 0 ∨ y.toInt = 1)) ∧ (y.toInt = 0 ∨ (0 ≤ p1.toInt ∧ p1.toInt < s_nights.toInt))) := by
  have g1 := rgI s_nights
  have g2 := rgI p1
  have hFU : (100000 : Int) ≤ (FU : Int) := Int.ofNat_le.mpr FU_ge
  rw [f_X12_isNight]
  have t3 := t64 p1
  have l4 : (0 : Int64).toInt = 0 := by decide
  have g5 := rgI (s_nights - 1)
  first | have e6 := sbN s_nights 1 (1) (by decide) (by omega) (by omega) | skip
  have t7 := t64 (s_nights - 1)
  refine Sf_cb1 (s_X12_lies (Int32.toInt64 p1) 0 (Int32.toInt64 (s_nights - 1)) ) (fun r10_1 hp8 => ?_)
  have hp8 : ((r10_1.toInt = 0 ∨ r10_1.toInt = 1)) ∧ ((r10_1.toInt = 1 ∧ (0 : Int64).toInt ≤ (Int32.toInt64 p1).toInt ∧ (Int32.toInt64 p1).toInt ≤ (Int32.toInt64 (s_nights - 1)).toInt) ∨ (r10_1.toInt = 0 ∧ ((Int32.toInt64 p1).toInt < (0 : Int64).toInt ∨ (Int32.toInt64 (s_nights - 1)).toInt < (Int32.toInt64 p1).toInt))) := hp8
  obtain ⟨hq9, hq10⟩ := hp8
  have g11 := rgI r10_1
  refine Sf_bo (by omega) ?_
  refine Sf_some (show ((r10_1.toInt = 0 ∨ r10_1.toInt = 1)) ∧ (r10_1.toInt = 0 ∨ (0 ≤ p1.toInt ∧ p1.toInt < s_nights.toInt)) from ?_)
  refine ⟨?_, ?_⟩ <;> (omega)
set_option maxHeartbeats 4000000 in
set_option maxRecDepth 100000 in
theorem s_X12_isError (p1 : Int32)  : Sf (f_X12_isError p1) (fun (y : Int32) => ((y.toInt = 0 ∨ y.toInt = 1)) ∧ ((y.toInt = 1 ∧ 0 ≤ p1.toInt ∧ p1.toInt ≤ 100000) ∨ (y.toInt = 0 ∧ (p1.toInt < 0 ∨ 100000 < p1.toInt)))) := by
  have g1 := rgI p1
  have hFU : (100000 : Int) ≤ (FU : Int) := Int.ofNat_le.mpr FU_ge
  rw [f_X12_isError]
  have t2 := t64 p1
  have l3 : (0 : Int64).toInt = 0 := by decide
  have l4 : (100000 : Int64).toInt = 100000 := by decide
  refine Sf_cb1 (s_X12_lies (Int32.toInt64 p1) 0 100000 ) (fun r6_1 hp5 => ?_)
  have hp5 : ((r6_1.toInt = 0 ∨ r6_1.toInt = 1)) ∧ ((r6_1.toInt = 1 ∧ (0 : Int64).toInt ≤ (Int32.toInt64 p1).toInt ∧ (Int32.toInt64 p1).toInt ≤ (100000 : Int64).toInt) ∨ (r6_1.toInt = 0 ∧ ((Int32.toInt64 p1).toInt < (0 : Int64).toInt ∨ (100000 : Int64).toInt < (Int32.toInt64 p1).toInt))) := hp5
  obtain ⟨hq6, hq7⟩ := hp5
  have g8 := rgI r6_1
  refine Sf_bo (by omega) ?_
  refine Sf_some (show ((r6_1.toInt = 0 ∨ r6_1.toInt = 1)) ∧ ((r6_1.toInt = 1 ∧ 0 ≤ p1.toInt ∧ p1.toInt ≤ 100000) ∨ (r6_1.toInt = 0 ∧ (p1.toInt < 0 ∨ 100000 < p1.toInt))) from ?_)
  refine ⟨?_, ?_⟩ <;> (omega)
set_option maxHeartbeats 4000000 in
set_option maxRecDepth 100000 in
theorem s_X12_waveOf (p1 : Int32) (p2 : Int32) (hp0 : 1 ≤ p2.toInt) : Sf (f_X12_waveOf p1 p2) (fun (y : Int32) => True) := by
  have g1 := rgI p1
  have g2 := rgI p2
  have hFU : (100000 : Int) ≤ (FU : Int) := Int.ofNat_le.mpr FU_ge
  rw [f_X12_waveOf]
  refine Sf_dvI (by omega) ?_
  refine Sf_nmI (fun v7_3 hv3 => ?_)
  have l4 : (4000 : Int32).toInt = 4000 := by decide
  have g5 := rgI (4000 * p1)
  first | have e6 := mlY 4000 p1 (4000) (by decide) (by omega) (by omega) | skip
  have q7 := eqI hv3
  refine Sf_ite (fun h8 => ?_) (fun h8 => ?_)
  · skip
    have l9 : (4 : Int32).toInt = 4 := by decide
    have g10 := rgI (4 * p1)
    first | have e11 := mlY 4 p1 (4) (by decide) (by omega) (by omega) | skip
    obtain ⟨kk12, e13⟩ := ml4 p1
    have c14 := leI h8
    refine Sf_ite (fun h15 => ?_) (fun h15 => ?_)
    · skip
      have l16 : (3 : Int32).toInt = 3 := by decide
      have g17 := rgI (3 * p2)
      first | have e18 := mlY 3 p2 (3) (by decide) (by omega) (by omega) | skip
      have c19 := leI h15
      exact Sf_some trivial
    · skip
      have l20 : (3 : Int32).toInt = 3 := by decide
      have g21 := rgI (3 * p2)
      first | have e22 := mlY 3 p2 (3) (by decide) (by omega) (by omega) | skip
      have c23 := nleI h15
      exact Sf_some trivial
  · skip
    have l24 : (4 : Int32).toInt = 4 := by decide
    have g25 := rgI (4 * p1)
    first | have e26 := mlY 4 p1 (4) (by decide) (by omega) (by omega) | skip
    obtain ⟨kk27, e28⟩ := ml4 p1
    have c29 := nleI h8
    exact Sf_some trivial
set_option maxHeartbeats 4000000 in
set_option maxRecDepth 100000 in
theorem s_X12_canGoAbout_L3 (s_nights : Int32) (s_found : Nat → Int32) (s_nightDay : Nat → Int32) (p1 : Int32) (p2 : Int32) (p3 : Int32) (p4 : Int32) (hp0 : 0 ≤ s_nights.toInt) (hp1 : s_nights.toInt ≤ 30) (hp2 : 1 ≤ p1.toInt) (hp3 : p1.toInt ≤ 400) : ∀ (n : Nat) (x5_2 : Int32), (0 ≤ x5_2.toInt) → (x5_2.toInt ≤ 30) → (31 - x5_2.toInt < (n : Int)) → Sf (f_X12_canGoAbout_L3 s_nights s_found s_nightDay p1 p2 p3 p4 n x5_2) (fun (y : Int32) => ((y.toInt = 0 ∨ y.toInt = 1))) := by
  have hFU : (100000 : Int) ≤ (FU : Int) := Int.ofNat_le.mpr FU_ge
  have g1 := rgI s_nights
  have g2 := rgI p1
  have g3 := rgI p2
  have g4 := rgI p3
  have g5 := rgI p4
  intro n
  induction n with
  | zero =>
    intro x5_2 hi0 hi1 hm
    have g6 := rgI x5_2
    exact absurd hm (by omega)
  | succ n ih =>
    intro x5_2 hi0 hi1 hm
    rw [f_X12_canGoAbout_L3]
    have g7 := rgI x5_2
    refine Sf_ite (fun h8 => ?_) (fun h8 => ?_)
    · skip
      have c9 := leI h8
      have l10 : (1 : Int32).toInt = 1 := by decide
      refine Sf_some (show (((1 : Int32).toInt = 0 ∨ (1 : Int32).toInt = 1)) from ?_)
      (omega)
    · skip
      have c11 := nleI h8
      refine Sf_rdI (by omega) (by omega) (fun v19_7 hv12 => ?_)
      have g13 := rgI v19_7
      refine Sf_dvI (by omega) ?_
      have g14 := rgI (v19_7 + p4)
      first | have e15 := adX v19_7 p4 (by omega) (by omega) | skip
      have g16 := rgI (jrem (v19_7 + p4) p1)
      have m17 := rm_ (v19_7 + p4) p1 (by omega)
      refine Sf_cb1 (s_X12_waveOf (jrem (v19_7 + p4) p1) p1 (by omega)) (fun r26_13 hp18 => ?_)
      have g19 := rgI r26_13
      refine Sf_rdI (by omega) (by omega) (fun v40_18 hv20 => ?_)
      have g21 := rgI v40_18
      have g22 := rgI (p3 * r26_13)
      have l23 : (1000 : Int32).toInt = 1000 := by decide
      have g24 := rgI ((p3 * r26_13) / 1000)
      have d25 := dn_ (p3 * r26_13) 1000 1000 (by decide) (by decide)
      have g26 := rgI (((p3 * r26_13) / 1000) - v40_18)
      first | have e27 := sbX ((p3 * r26_13) / 1000) v40_18 (by omega) (by omega) | skip
      have t28 := t64 (((p3 * r26_13) / 1000) - v40_18)
      have g29 := rgI (-p2)
      first | have e30 := ngX p2 (by omega) | skip
      have t31 := t64 (-p2)
      have t32 := t64 p2
      refine Sf_cb1 (s_X12_lies (Int32.toInt64 (((p3 * r26_13) / 1000) - v40_18)) (Int32.toInt64 (-p2)) (Int32.toInt64 p2) ) (fun r48_22 hp33 => ?_)
      have hp33 : ((r48_22.toInt = 0 ∨ r48_22.toInt = 1)) ∧ ((r48_22.toInt = 1 ∧ (Int32.toInt64 (-p2)).toInt ≤ (Int32.toInt64 (((p3 * r26_13) / 1000) - v40_18)).toInt ∧ (Int32.toInt64 (((p3 * r26_13) / 1000) - v40_18)).toInt ≤ (Int32.toInt64 p2).toInt) ∨ (r48_22.toInt = 0 ∧ ((Int32.toInt64 (((p3 * r26_13) / 1000) - v40_18)).toInt < (Int32.toInt64 (-p2)).toInt ∨ (Int32.toInt64 p2).toInt < (Int32.toInt64 (((p3 * r26_13) / 1000) - v40_18)).toInt))) := hp33
      obtain ⟨hq34, hq35⟩ := hp33
      have g36 := rgI r48_22
      refine Sf_ite (fun h37 => ?_) (fun h37 => ?_)
      · skip
        have l38 : (0 : Int32).toInt = 0 := by decide
        have c39 := eqI h37
        refine Sf_some (show (((0 : Int32).toInt = 0 ∨ (0 : Int32).toInt = 1)) from ?_)
        (omega)
      · skip
        have l40 : (0 : Int32).toInt = 0 := by decide
        have c41 := neI h37
        refine Sf_nmI (fun v56_30 hv42 => ?_)
        have g43 := rgI (x5_2 + 1)
        first | have e44 := adN x5_2 1 (1) (by decide) (by omega) (by omega) | skip
        have q45 := eqI hv42
        exact ih v56_30 (by omega) (by omega) (by omega)
set_option maxHeartbeats 4000000 in
set_option maxRecDepth 100000 in
theorem s_X12_canGoAbout (s_nights : Int32) (s_found : Nat → Int32) (s_nightDay : Nat → Int32) (p1 : Int32) (p2 : Int32) (p3 : Int32) (p4 : Int32) (hp0 : 0 ≤ s_nights.toInt) (hp1 : s_nights.toInt ≤ 30) (hp2 : 1 ≤ p1.toInt) (hp3 : p1.toInt ≤ 400) : Sf (f_X12_canGoAbout s_nights s_found s_nightDay p1 p2 p3 p4) (fun (y : Int32) => ((y.toInt = 0 ∨ y.toInt = 1))) := by
  have g1 := rgI s_nights
  have g2 := rgI p1
  have g3 := rgI p2
  have g4 := rgI p3
  have g5 := rgI p4
  have hFU : (100000 : Int) ≤ (FU : Int) := Int.ofNat_le.mpr FU_ge
  rw [f_X12_canGoAbout]
  have l6 : (0 : Int32).toInt = 0 := by decide
  refine s_X12_canGoAbout_L3 s_nights s_found s_nightDay p1 p2 p3 p4 (by omega) (by omega) (by omega) (by omega)  FU 0 (by omega) (by omega) (by omega)
set_option maxHeartbeats 4000000 in
set_option maxRecDepth 100000 in
theorem s_X12_bound_L34 (s_nights : Int32) (s_found : Nat → Int32) (s_nightDay : Nat → Int32) (p1 : Int32) (p2 : Int32) (x3_19 : Int32) (K27 : Int32 → Option (Int32)) (hp0 : 0 ≤ s_nights.toInt) (hp1 : s_nights.toInt ≤ 30) (hp2 : 1 ≤ p1.toInt) (hp3 : p1.toInt ≤ 400) (hp4 : 0 ≤ x3_19.toInt) (hp5 : x3_19.toInt ≤ 2000) (hK27 : ∀ (a : Int32), (a.toInt = x3_19.toInt - 1) → Sf (K27 a) (fun (y : Int32) => True)) : ∀ (n : Nat) (x4_25 : Int32), (0 ≤ x4_25.toInt) → (x4_25.toInt ≤ 400) → (401 - x4_25.toInt < (n : Int)) → Sf (f_X12_bound_L34 s_nights s_found s_nightDay p1 p2 x3_19 K27 n x4_25) (fun (y : Int32) => True) := by
  have hFU : (100000 : Int) ≤ (FU : Int) := Int.ofNat_le.mpr FU_ge
  have g1 := rgI s_nights
  have g2 := rgI p1
  have g3 := rgI p2
  have g4 := rgI x3_19
  intro n
  induction n with
  | zero =>
    intro x4_25 hi0 hi1 hm
    have g5 := rgI x4_25
    exact absurd hm (by omega)
  | succ n ih =>
    intro x4_25 hi0 hi1 hm
    rw [f_X12_bound_L34]
    have g6 := rgI x4_25
    refine Sf_ite (fun h7 => ?_) (fun h7 => ?_)
    · skip
      have c8 := leI h7
      refine Sf_nmI (fun v60_29 hv9 => ?_)
      have g10 := rgI v60_29
      first | have q11 := (eqI hv9).trans (adN x3_19 (-1) (-1) (by decide) (by omega) (by omega)) | skip
      exact hK27 v60_29 (by omega)
    · skip
      have c12 := nleI h7
      refine Sf_cb1 (s_X12_canGoAbout s_nights s_found s_nightDay p1 p2 x3_19 x4_25 (by omega) (by omega) (by omega) (by omega)) (fun r46_33 hp13 => ?_)
      have hp13 : ((r46_33.toInt = 0 ∨ r46_33.toInt = 1)) := hp13
      have g14 := rgI r46_33
      refine Sf_ite (fun h15 => ?_) (fun h15 => ?_)
      · skip
        have l16 : (0 : Int32).toInt = 0 := by decide
        have c17 := eqI h15
        refine Sf_nmI (fun v54_41 hv18 => ?_)
        have g19 := rgI (x4_25 + 1)
        first | have e20 := adN x4_25 1 (1) (by decide) (by omega) (by omega) | skip
        have q21 := eqI hv18
        exact ih v54_41 (by omega) (by omega) (by omega)
      · skip
        have l22 : (0 : Int32).toInt = 0 := by decide
        have c23 := neI h15
        exact Sf_some trivial
set_option maxHeartbeats 4000000 in
set_option maxRecDepth 100000 in
theorem s_X12_bound_L27 (s_nights : Int32) (s_found : Nat → Int32) (s_nightDay : Nat → Int32) (p1 : Int32) (p2 : Int32) (hp0 : 0 ≤ s_nights.toInt) (hp1 : s_nights.toInt ≤ 30) (hp2 : 1 ≤ p1.toInt) (hp3 : p1.toInt ≤ 400) : ∀ (n : Nat) (x3_19 : Int32), (-1 ≤ x3_19.toInt) → (x3_19.toInt ≤ 2000) → (x3_19.toInt + 2 < (n : Int)) → Sf (f_X12_bound_L27 s_nights s_found s_nightDay p1 p2 n x3_19) (fun (y : Int32) => True) := by
  have hFU : (100000 : Int) ≤ (FU : Int) := Int.ofNat_le.mpr FU_ge
  have g1 := rgI s_nights
  have g2 := rgI p1
  have g3 := rgI p2
  intro n
  induction n with
  | zero =>
    intro x3_19 hi0 hi1 hm
    have g4 := rgI x3_19
    exact absurd hm (by omega)
  | succ n ih =>
    intro x3_19 hi0 hi1 hm
    rw [f_X12_bound_L27]
    have g5 := rgI x3_19
    refine Sf_ite (fun h6 => ?_) (fun h6 => ?_)
    · skip
      have l7 : (0 : Int32).toInt = 0 := by decide
      have c8 := ltI h6
      exact Sf_some trivial
    · skip
      have l9 : (0 : Int32).toInt = 0 := by decide
      have c10 := nltI h6
      refine s_X12_bound_L34 s_nights s_found s_nightDay p1 p2 x3_19 (f_X12_bound_L27 s_nights s_found s_nightDay p1 p2 n) (by omega) (by omega) (by omega) (by omega) (by omega) (by omega) ?_ FU 0 (by omega) (by omega) (by omega)
      · intro z11 hk12
        have g13 := rgI z11
        have hk12 : z11.toInt = x3_19.toInt - 1 := hk12
        exact ih z11 (by omega) (by omega) (by omega)
set_option maxHeartbeats 4000000 in
set_option maxRecDepth 100000 in
theorem s_X12_bound (s_nights : Int32) (s_found : Nat → Int32) (s_nightDay : Nat → Int32) (p1 : Int32) (p2 : Int32) (hp0 : 0 ≤ s_nights.toInt) (hp1 : s_nights.toInt ≤ 30) : Sf (f_X12_bound s_nights s_found s_nightDay p1 p2) (fun (y : Int32) => True) := by
  have g1 := rgI s_nights
  have g2 := rgI p1
  have g3 := rgI p2
  have hFU : (100000 : Int) ≤ (FU : Int) := Int.ofNat_le.mpr FU_ge
  rw [f_X12_bound]
  have t4 := t64 p1
  have l5 : (4 : Int64).toInt = 4 := by decide
  have l6 : (400 : Int64).toInt = 400 := by decide
  refine Sf_cb1 (s_X12_lies (Int32.toInt64 p1) 4 400 ) (fun r8_1 hp7 => ?_)
  have hp7 : ((r8_1.toInt = 0 ∨ r8_1.toInt = 1)) ∧ ((r8_1.toInt = 1 ∧ (4 : Int64).toInt ≤ (Int32.toInt64 p1).toInt ∧ (Int32.toInt64 p1).toInt ≤ (400 : Int64).toInt) ∨ (r8_1.toInt = 0 ∧ ((Int32.toInt64 p1).toInt < (4 : Int64).toInt ∨ (400 : Int64).toInt < (Int32.toInt64 p1).toInt))) := hp7
  obtain ⟨hq8, hq9⟩ := hp7
  have g10 := rgI r8_1
  refine Sf_ite (fun h11 => ?_) (fun h11 => ?_)
  · skip
    have l12 : (0 : Int32).toInt = 0 := by decide
    have c13 := eqI h11
    exact Sf_some trivial
  · skip
    have l14 : (0 : Int32).toInt = 0 := by decide
    have c15 := neI h11
    refine Sf_cb1 (s_X12_isError p2 ) (fun r15_10 hp16 => ?_)
    have hp16 : ((r15_10.toInt = 0 ∨ r15_10.toInt = 1)) ∧ ((r15_10.toInt = 1 ∧ 0 ≤ p2.toInt ∧ p2.toInt ≤ 100000) ∨ (r15_10.toInt = 0 ∧ (p2.toInt < 0 ∨ 100000 < p2.toInt))) := hp16
    obtain ⟨hq17, hq18⟩ := hp16
    have g19 := rgI r15_10
    refine Sf_ite (fun h20 => ?_) (fun h20 => ?_)
    · skip
      have c21 := eqI h20
      exact Sf_some trivial
    · skip
      have c22 := neI h20
      have l23 : (2000 : Int32).toInt = 2000 := by decide
      refine s_X12_bound_L27 s_nights s_found s_nightDay p1 p2 (by omega) (by omega) (by omega) (by omega)  FU 2000 (by omega) (by omega) (by omega)
set_option maxHeartbeats 4000000 in
set_option maxRecDepth 100000 in
theorem s_X12_there (s_ten : Nat → Int32) (p1 : Int32) (p2 : Int32)  : Sf (f_X12_there s_ten p1 p2) (fun (y : Int32 × (Nat → Int32)) => (((y.1).toInt = 0 ∨ (y.1).toInt = 1))) := by
  have g1 := rgI p1
  have g2 := rgI p2
  have hFU : (100000 : Int) ≤ (FU : Int) := Int.ofNat_le.mpr FU_ge
  rw [f_X12_there]
  have t3 := t64 p1
  have l4 : (0 : Int64).toInt = 0 := by decide
  have l5 : (39 : Int64).toInt = 39 := by decide
  refine Sf_cb1 (s_X12_lies (Int32.toInt64 p1) 0 39 ) (fun r6_1 hp6 => ?_)
  have hp6 : ((r6_1.toInt = 0 ∨ r6_1.toInt = 1)) ∧ ((r6_1.toInt = 1 ∧ (0 : Int64).toInt ≤ (Int32.toInt64 p1).toInt ∧ (Int32.toInt64 p1).toInt ≤ (39 : Int64).toInt) ∨ (r6_1.toInt = 0 ∧ ((Int32.toInt64 p1).toInt < (0 : Int64).toInt ∨ (39 : Int64).toInt < (Int32.toInt64 p1).toInt))) := hp6
  obtain ⟨hq7, hq8⟩ := hp6
  have g9 := rgI r6_1
  refine Sf_ite (fun h10 => ?_) (fun h10 => ?_)
  · skip
    have l11 : (0 : Int32).toInt = 0 := by decide
    have c12 := eqI h10
    refine Sf_some (show (((0 : Int32).toInt = 0 ∨ (0 : Int32).toInt = 1)) from ?_)
    (omega)
  · skip
    have l13 : (0 : Int32).toInt = 0 := by decide
    have c14 := neI h10
    have t15 := t64 p2
    have l16 : (10 : Int64).toInt = 10 := by decide
    refine Sf_cb1 (s_X12_lies (Int32.toInt64 p2) 0 10 ) (fun r18_11 hp17 => ?_)
    have hp17 : ((r18_11.toInt = 0 ∨ r18_11.toInt = 1)) ∧ ((r18_11.toInt = 1 ∧ (0 : Int64).toInt ≤ (Int32.toInt64 p2).toInt ∧ (Int32.toInt64 p2).toInt ≤ (10 : Int64).toInt) ∨ (r18_11.toInt = 0 ∧ ((Int32.toInt64 p2).toInt < (0 : Int64).toInt ∨ (10 : Int64).toInt < (Int32.toInt64 p2).toInt))) := hp17
    obtain ⟨hq18, hq19⟩ := hp17
    have g20 := rgI r18_11
    refine Sf_ite (fun h21 => ?_) (fun h21 => ?_)
    · skip
      have c22 := eqI h21
      refine Sf_some (show (((0 : Int32).toInt = 0 ∨ (0 : Int32).toInt = 1)) from ?_)
      (omega)
    · skip
      have c23 := neI h21
      refine Sf_wrI (by omega) (by omega) (fun g32_19 hw24 => ?_)
      have l25 : (1 : Int32).toInt = 1 := by decide
      refine Sf_some (show (((1 : Int32).toInt = 0 ∨ (1 : Int32).toInt = 1)) from ?_)
      (omega)
set_option maxHeartbeats 4000000 in
set_option maxRecDepth 100000 in
theorem s_X12_leastAt (s_leastFrom : Nat → Int32) (p1 : Int32) (p2 : Int32) (hp0 : 0 ≤ p1.toInt) (hp1 : p1.toInt ≤ 6) (hp2 : 0 ≤ p2.toInt) : Sf (f_X12_leastAt s_leastFrom p1 p2) (fun (y : Int32) => True) := by
  have g1 := rgI p1
  have g2 := rgI p2
  have hFU : (100000 : Int) ≤ (FU : Int) := Int.ofNat_le.mpr FU_ge
  rw [f_X12_leastAt]
  refine Sf_ite (fun h3 => ?_) (fun h3 => ?_)
  · skip
    have l4 : (40 : Int32).toInt = 40 := by decide
    have c5 := leI h3
    have l6 : (53 : Int32).toInt = 53 := by decide
    have g7 := rgI (53 * p1)
    first | have e8 := mlY 53 p1 (53) (by decide) (by omega) (by omega) | skip
    have g9 := rgI ((53 * p1) + p2)
    first | have e10 := adX (53 * p1) p2 (by omega) (by omega) | skip
    refine Sf_rdI (by omega) (by omega) (fun v28_4 hv11 => ?_)
    have g12 := rgI v28_4
    exact Sf_some trivial
  · skip
    have l13 : (40 : Int32).toInt = 40 := by decide
    have c14 := nleI h3
    refine Sf_ite (fun h15 => ?_) (fun h15 => ?_)
    · skip
      have l16 : (0 : Int32).toInt = 0 := by decide
      have c17 := eqI h15
      exact Sf_some trivial
    · skip
      have l18 : (0 : Int32).toInt = 0 := by decide
      have c19 := neI h15
      exact Sf_some trivial
set_option maxHeartbeats 4000000 in
set_option maxRecDepth 100000 in
theorem s_X12_numberAt_L4 (s_tape : Nat → Int32) (p1 : Int32) (hp0 : 0 ≤ p1.toInt) (hp1 : p1.toInt < 50) : ∀ (n : Nat) (x2_3 : Int32) (x3_4 : Int32), (0 ≤ x3_4.toInt) → (x3_4.toInt ≤ 4) → (5 - x3_4.toInt < (n : Int)) → Sf (f_X12_numberAt_L4 s_tape p1 n x2_3 x3_4) (fun (y : Int32) => True) := by
  have hFU : (100000 : Int) ≤ (FU : Int) := Int.ofNat_le.mpr FU_ge
  have g1 := rgI p1
  intro n
  induction n with
  | zero =>
    intro x2_3 x3_4 hi0 hi1 hm
    have g2 := rgI x2_3
    have g3 := rgI x3_4
    exact absurd hm (by omega)
  | succ n ih =>
    intro x2_3 x3_4 hi0 hi1 hm
    rw [f_X12_numberAt_L4]
    have g4 := rgI x2_3
    have g5 := rgI x3_4
    refine Sf_ite (fun h6 => ?_) (fun h6 => ?_)
    · skip
      have l7 : (4 : Int32).toInt = 4 := by decide
      have c8 := leI h6
      exact Sf_some trivial
    · skip
      have l9 : (4 : Int32).toInt = 4 := by decide
      have c10 := nleI h6
      have g11 := rgI (4 * p1)
      first | have e12 := mlY 4 p1 (4) (by decide) (by omega) (by omega) | skip
      obtain ⟨kk13, e14⟩ := ml4 p1
      have g15 := rgI ((4 * p1) + x3_4)
      first | have e16 := adX (4 * p1) x3_4 (by omega) (by omega) | skip
      refine Sf_rdI (by omega) (by omega) (fun v22_9 hv17 => ?_)
      have g18 := rgI v22_9
      refine Sf_nmI (fun v28_13 hv19 => ?_)
      have l20 : (8 : Int32).toInt = 8 := by decide
      have g21 := rgI (jshl x2_3 8)
      have l22 : (255 : Int32).toInt = 255 := by decide
      have a23 := an_ v22_9 255 (by decide)
      have g24 := rgI ((jshl x2_3 8) ||| (v22_9 &&& 255))
      have q25 := eqI hv19
      refine Sf_nmI (fun v29_17 hv26 => ?_)
      have g27 := rgI (x3_4 + 1)
      first | have e28 := adN x3_4 1 (1) (by decide) (by omega) (by omega) | skip
      have q29 := eqI hv26
      exact ih v28_13 v29_17 (by omega) (by omega) (by omega)
set_option maxHeartbeats 4000000 in
set_option maxRecDepth 100000 in
theorem s_X12_numberAt (s_tape : Nat → Int32) (p1 : Int32) (hp0 : 0 ≤ p1.toInt) (hp1 : p1.toInt < 50) : Sf (f_X12_numberAt s_tape p1) (fun (y : Int32) => True) := by
  have g1 := rgI p1
  have hFU : (100000 : Int) ≤ (FU : Int) := Int.ofNat_le.mpr FU_ge
  rw [f_X12_numberAt]
  have l2 : (0 : Int32).toInt = 0 := by decide
  refine s_X12_numberAt_L4 s_tape p1 (by omega) (by omega)  FU 0 0 (by omega) (by omega) (by omega)
set_option maxHeartbeats 4000000 in
set_option maxRecDepth 100000 in
theorem s_X12_clears (s_atA : Int32) (s_atB : Int32) (s_atD : Int32) (s_atF : Int32) (s_atG : Int32) (s_atH : Int32) (s_atL : Int32) (s_atM : Int32) (s_atN : Int32) (s_atS : Int32) (s_atT : Int32) (s_atU : Int32) (s_atX : Int32)  : Sf (f_X12_clears s_atA s_atB s_atD s_atF s_atG s_atH s_atL s_atM s_atN s_atS s_atT s_atU s_atX) (fun (y : Int32 × Int32 × Int32 × Int32 × Int32 × Int32 × Int32 × Int32 × Int32 × Int32 × Int32 × Int32 × Int32) => True) := by
  have g1 := rgI s_atA
  have g2 := rgI s_atB
  have g3 := rgI s_atD
  have g4 := rgI s_atF
  have g5 := rgI s_atG
  have g6 := rgI s_atH
  have g7 := rgI s_atL
  have g8 := rgI s_atM
  have g9 := rgI s_atN
  have g10 := rgI s_atS
  have g11 := rgI s_atT
  have g12 := rgI s_atU
  have g13 := rgI s_atX
  have hFU : (100000 : Int) ≤ (FU : Int) := Int.ofNat_le.mpr FU_ge
  rw [f_X12_clears]
  exact Sf_some trivial
set_option maxHeartbeats 4000000 in
set_option maxRecDepth 100000 in
theorem s_X12_valueOf (s_atA : Int32) (s_atB : Int32) (s_atD : Int32) (s_atF : Int32) (s_atG : Int32) (s_atH : Int32) (s_atL : Int32) (s_atM : Int32) (s_atN : Int32) (s_atS : Int32) (s_atT : Int32) (s_atU : Int32) (s_atX : Int32) (p1 : Int32)  : Sf (f_X12_valueOf s_atA s_atB s_atD s_atF s_atG s_atH s_atL s_atM s_atN s_atS s_atT s_atU s_atX p1) (fun (y : Int32) => True) := by
  have g1 := rgI s_atA
  have g2 := rgI s_atB
  have g3 := rgI s_atD
  have g4 := rgI s_atF
  have g5 := rgI s_atG
  have g6 := rgI s_atH
  have g7 := rgI s_atL
  have g8 := rgI s_atM
  have g9 := rgI s_atN
  have g10 := rgI s_atS
  have g11 := rgI s_atT
  have g12 := rgI s_atU
  have g13 := rgI s_atX
  have g14 := rgI p1
  have hFU : (100000 : Int) ≤ (FU : Int) := Int.ofNat_le.mpr FU_ge
  rw [f_X12_valueOf]
  refine Sf_ite (fun h15 => ?_) (fun h15 => ?_)
  · skip
    have l16 : (97 : Int32).toInt = 97 := by decide
    have c17 := eqI h15
    exact Sf_some trivial
  · skip
    have l18 : (97 : Int32).toInt = 97 := by decide
    have c19 := neI h15
    refine Sf_ite (fun h20 => ?_) (fun h20 => ?_)
    · skip
      have l21 : (98 : Int32).toInt = 98 := by decide
      have c22 := eqI h20
      exact Sf_some trivial
    · skip
      have l23 : (98 : Int32).toInt = 98 := by decide
      have c24 := neI h20
      refine Sf_ite (fun h25 => ?_) (fun h25 => ?_)
      · skip
        have l26 : (99 : Int32).toInt = 99 := by decide
        have c27 := eqI h25
        exact Sf_some trivial
      · skip
        have l28 : (99 : Int32).toInt = 99 := by decide
        have c29 := neI h25
        refine Sf_ite (fun h30 => ?_) (fun h30 => ?_)
        · skip
          have l31 : (100 : Int32).toInt = 100 := by decide
          have c32 := eqI h30
          exact Sf_some trivial
        · skip
          have l33 : (100 : Int32).toInt = 100 := by decide
          have c34 := neI h30
          refine Sf_ite (fun h35 => ?_) (fun h35 => ?_)
          · skip
            have l36 : (101 : Int32).toInt = 101 := by decide
            have c37 := eqI h35
            exact Sf_some trivial
          · skip
            have l38 : (101 : Int32).toInt = 101 := by decide
            have c39 := neI h35
            refine Sf_ite (fun h40 => ?_) (fun h40 => ?_)
            · skip
              have l41 : (102 : Int32).toInt = 102 := by decide
              have c42 := eqI h40
              exact Sf_some trivial
            · skip
              have l43 : (102 : Int32).toInt = 102 := by decide
              have c44 := neI h40
              refine Sf_ite (fun h45 => ?_) (fun h45 => ?_)
              · skip
                have l46 : (103 : Int32).toInt = 103 := by decide
                have c47 := eqI h45
                exact Sf_some trivial
              · skip
                have l48 : (103 : Int32).toInt = 103 := by decide
                have c49 := neI h45
                refine Sf_ite (fun h50 => ?_) (fun h50 => ?_)
                · skip
                  have l51 : (104 : Int32).toInt = 104 := by decide
                  have c52 := eqI h50
                  exact Sf_some trivial
                · skip
                  have l53 : (104 : Int32).toInt = 104 := by decide
                  have c54 := neI h50
                  refine Sf_ite (fun h55 => ?_) (fun h55 => ?_)
                  · skip
                    have l56 : (105 : Int32).toInt = 105 := by decide
                    have c57 := eqI h55
                    exact Sf_some trivial
                  · skip
                    have l58 : (105 : Int32).toInt = 105 := by decide
                    have c59 := neI h55
                    refine Sf_ite (fun h60 => ?_) (fun h60 => ?_)
                    · skip
                      have l61 : (106 : Int32).toInt = 106 := by decide
                      have c62 := eqI h60
                      exact Sf_some trivial
                    · skip
                      have l63 : (106 : Int32).toInt = 106 := by decide
                      have c64 := neI h60
                      refine Sf_ite (fun h65 => ?_) (fun h65 => ?_)
                      · skip
                        have l66 : (107 : Int32).toInt = 107 := by decide
                        have c67 := eqI h65
                        exact Sf_some trivial
                      · skip
                        have l68 : (107 : Int32).toInt = 107 := by decide
                        have c69 := neI h65
                        refine Sf_ite (fun h70 => ?_) (fun h70 => ?_)
                        · skip
                          have l71 : (108 : Int32).toInt = 108 := by decide
                          have c72 := eqI h70
                          exact Sf_some trivial
                        · skip
                          have l73 : (108 : Int32).toInt = 108 := by decide
                          have c74 := neI h70
                          refine Sf_ite (fun h75 => ?_) (fun h75 => ?_)
                          · skip
                            have l76 : (109 : Int32).toInt = 109 := by decide
                            have c77 := eqI h75
                            exact Sf_some trivial
                          · skip
                            have l78 : (109 : Int32).toInt = 109 := by decide
                            have c79 := neI h75
                            refine Sf_ite (fun h80 => ?_) (fun h80 => ?_)
                            · skip
                              have l81 : (110 : Int32).toInt = 110 := by decide
                              have c82 := eqI h80
                              exact Sf_some trivial
                            · skip
                              have l83 : (110 : Int32).toInt = 110 := by decide
                              have c84 := neI h80
                              refine Sf_ite (fun h85 => ?_) (fun h85 => ?_)
                              · skip
                                have l86 : (111 : Int32).toInt = 111 := by decide
                                have c87 := eqI h85
                                exact Sf_some trivial
                              · skip
                                have l88 : (111 : Int32).toInt = 111 := by decide
                                have c89 := neI h85
                                refine Sf_ite (fun h90 => ?_) (fun h90 => ?_)
                                · skip
                                  have l91 : (112 : Int32).toInt = 112 := by decide
                                  have c92 := eqI h90
                                  exact Sf_some trivial
                                · skip
                                  have l93 : (112 : Int32).toInt = 112 := by decide
                                  have c94 := neI h90
                                  refine Sf_ite (fun h95 => ?_) (fun h95 => ?_)
                                  · skip
                                    have l96 : (113 : Int32).toInt = 113 := by decide
                                    have c97 := eqI h95
                                    exact Sf_some trivial
                                  · skip
                                    have l98 : (113 : Int32).toInt = 113 := by decide
                                    have c99 := neI h95
                                    refine Sf_ite (fun h100 => ?_) (fun h100 => ?_)
                                    · skip
                                      have l101 : (114 : Int32).toInt = 114 := by decide
                                      have c102 := eqI h100
                                      exact Sf_some trivial
                                    · skip
                                      have l103 : (114 : Int32).toInt = 114 := by decide
                                      have c104 := neI h100
                                      refine Sf_ite (fun h105 => ?_) (fun h105 => ?_)
                                      · skip
                                        have l106 : (115 : Int32).toInt = 115 := by decide
                                        have c107 := eqI h105
                                        exact Sf_some trivial
                                      · skip
                                        have l108 : (115 : Int32).toInt = 115 := by decide
                                        have c109 := neI h105
                                        refine Sf_ite (fun h110 => ?_) (fun h110 => ?_)
                                        · skip
                                          have l111 : (116 : Int32).toInt = 116 := by decide
                                          have c112 := eqI h110
                                          exact Sf_some trivial
                                        · skip
                                          have l113 : (116 : Int32).toInt = 116 := by decide
                                          have c114 := neI h110
                                          refine Sf_ite (fun h115 => ?_) (fun h115 => ?_)
                                          · skip
                                            have l116 : (117 : Int32).toInt = 117 := by decide
                                            have c117 := eqI h115
                                            exact Sf_some trivial
                                          · skip
                                            have l118 : (117 : Int32).toInt = 117 := by decide
                                            have c119 := neI h115
                                            exact Sf_some trivial
set_option maxHeartbeats 4000000 in
set_option maxRecDepth 100000 in
theorem s_X12_worked (p1 : Int32) (p2 : Int32) (p3 : Int32)  : Sf (f_X12_worked p1 p2 p3) (fun (y : Int32) => True) := by
  have g1 := rgI p1
  have g2 := rgI p2
  have g3 := rgI p3
  have hFU : (100000 : Int) ≤ (FU : Int) := Int.ofNat_le.mpr FU_ge
  rw [f_X12_worked]
  refine Sf_ite (fun h4 => ?_) (fun h4 => ?_)
  · skip
    have l5 : (37 : Int32).toInt = 37 := by decide
    have c6 := eqI h4
    refine Sf_ite (fun h7 => ?_) (fun h7 => ?_)
    · skip
      have l8 : (0 : Int32).toInt = 0 := by decide
      have c9 := eqI h7
      exact Sf_some trivial
    · skip
      have l10 : (0 : Int32).toInt = 0 := by decide
      have c11 := neI h7
      refine Sf_dvI (by omega) ?_
      exact Sf_some trivial
  · skip
    have l12 : (37 : Int32).toInt = 37 := by decide
    have c13 := neI h4
    refine Sf_ite (fun h14 => ?_) (fun h14 => ?_)
    · skip
      have l15 : (42 : Int32).toInt = 42 := by decide
      have c16 := eqI h14
      exact Sf_some trivial
    · skip
      have l17 : (42 : Int32).toInt = 42 := by decide
      have c18 := neI h14
      refine Sf_ite (fun h19 => ?_) (fun h19 => ?_)
      · skip
        have l20 : (43 : Int32).toInt = 43 := by decide
        have c21 := eqI h19
        exact Sf_some trivial
      · skip
        have l22 : (43 : Int32).toInt = 43 := by decide
        have c23 := neI h19
        refine Sf_ite (fun h24 => ?_) (fun h24 => ?_)
        · skip
          have l25 : (45 : Int32).toInt = 45 := by decide
          have c26 := eqI h24
          exact Sf_some trivial
        · skip
          have l27 : (45 : Int32).toInt = 45 := by decide
          have c28 := neI h24
          refine Sf_ite (fun h29 => ?_) (fun h29 => ?_)
          · skip
            have l30 : (47 : Int32).toInt = 47 := by decide
            have c31 := eqI h29
            refine Sf_ite (fun h32 => ?_) (fun h32 => ?_)
            · skip
              have l33 : (0 : Int32).toInt = 0 := by decide
              have c34 := eqI h32
              exact Sf_some trivial
            · skip
              have l35 : (0 : Int32).toInt = 0 := by decide
              have c36 := neI h32
              refine Sf_dvI (by omega) ?_
              exact Sf_some trivial
          · skip
            have l37 : (47 : Int32).toInt = 47 := by decide
            have c38 := neI h29
            refine Sf_ite (fun h39 => ?_) (fun h39 => ?_)
            · skip
              have l40 : (60 : Int32).toInt = 60 := by decide
              have c41 := eqI h39
              refine Sf_ite (fun h42 => ?_) (fun h42 => ?_)
              · skip
                have c43 := leI h42
                exact Sf_some trivial
              · skip
                have c44 := nleI h42
                exact Sf_some trivial
            · skip
              have l45 : (60 : Int32).toInt = 60 := by decide
              have c46 := neI h39
              refine Sf_ite (fun h47 => ?_) (fun h47 => ?_)
              · skip
                have l48 : (62 : Int32).toInt = 62 := by decide
                have c49 := eqI h47
                refine Sf_ite (fun h50 => ?_) (fun h50 => ?_)
                · skip
                  have c51 := leI h50
                  exact Sf_some trivial
                · skip
                  have c52 := nleI h50
                  exact Sf_some trivial
              · skip
                have l53 : (62 : Int32).toInt = 62 := by decide
                have c54 := neI h47
                refine Sf_ite (fun h55 => ?_) (fun h55 => ?_)
                · skip
                  have c56 := eqI h55
                  exact Sf_some trivial
                · skip
                  have c57 := neI h55
                  exact Sf_some trivial
