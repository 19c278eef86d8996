set_option maxHeartbeats 4000000 in
set_option maxRecDepth 100000 in
theorem s_X6_clauseStands (n_this_bytes : Nat) (s_length : Int32) (s_at : Int32) (s_used : Int32) (s_fault : Int32) (s_bytes : Nat → Int32) (s_code : Nat → Int32) (s_middles : Nat → Int32) (s_starts : Nat → Int32) (p1 : Int32) (p2 : Int32) (hp0 : 0 ≤ s_at.toInt) (hp1 : s_at.toInt ≤ s_length.toInt) (hp2 : s_length.toInt ≤ n_this_bytes) (hp3 : s_length.toInt ≤ 200) (hp4 : 0 ≤ s_used.toInt) (hp5 : s_used.toInt ≤ 120) (hp6 : 0 ≤ p1.toInt) (hp7 : 0 ≤ p2.toInt) (hp8 : p2.toInt < 12) (hp9 : ∀ j, 0 ≤ (s_middles j).toInt ∧ (s_middles j).toInt ≤ 120) (hp10 : ∀ j, 0 ≤ (s_starts j).toInt ∧ (s_starts j).toInt ≤ 120) : Sf (f_X6_clauseStands n_this_bytes s_length s_at s_used s_fault s_bytes s_code s_middles s_starts p1 p2) (fun (y : Int32 × Int32 × Int32 × Int32 × (Nat → Int32) × (Nat → Int32) × (Nat → Int32)) => (((y.1).toInt = 0 ∨ (y.1).toInt = 1)) ∧ (0 ≤ (y.2.1).toInt ∧ (y.2.1).toInt ≤ s_length.toInt) ∧ (0 ≤ (y.2.2.1).toInt ∧ (y.2.2.1).toInt ≤ 120) ∧ (∀ j, 0 ≤ ((y.2.2.2.2.2.1) j).toInt ∧ ((y.2.2.2.2.2.1) j).toInt ≤ 120) ∧ (∀ j, 0 ≤ ((y.2.2.2.2.2.2) j).toInt ∧ ((y.2.2.2.2.2.2) j).toInt ≤ 120)) := by
  have g1 := rgI s_length
  have g2 := rgI s_at
  have g3 := rgI s_used
  have g4 := rgI s_fault
  have g5 := rgI p1
  have g6 := rgI p2
  have hFU : (100000 : Int) ≤ (FU : Int) := Int.ofNat_le.mpr FU_ge
  rw [f_X6_clauseStands]
  refine Sf_cb3 (s_X6_signStands n_this_bytes s_length s_at s_fault s_bytes p1 (by omega) (by omega) (by omega) (by omega)) (fun r2_1 o_at2_2 o_fault2_3 hp7 => ?_)
  have hp7 : ((r2_1.toInt = 0 ∨ r2_1.toInt = 1)) ∧ (0 ≤ o_at2_2.toInt ∧ o_at2_2.toInt ≤ s_length.toInt) := hp7
  obtain ⟨hq8, hq9⟩ := hp7
  have g10 := rgI r2_1
  have g11 := rgI o_at2_2
  have g12 := rgI o_fault2_3
  refine Sf_ite (fun h13 => ?_) (fun h13 => ?_)
  · skip
    have l14 : (0 : Int32).toInt = 0 := by decide
    have c15 := eqI h13
    refine Sf_some (show (((0 : Int32).toInt = 0 ∨ (0 : Int32).toInt = 1)) ∧ (0 ≤ o_at2_2.toInt ∧ o_at2_2.toInt ≤ s_length.toInt) ∧ (0 ≤ s_used.toInt ∧ s_used.toInt ≤ 120) ∧ (∀ j, 0 ≤ (s_middles j).toInt ∧ (s_middles j).toInt ≤ 120) ∧ (∀ j, 0 ≤ (s_starts j).toInt ∧ (s_starts j).toInt ≤ 120) from ?_)
    refine ⟨?_, ?_, ?_, ?_, ?_⟩ <;> (first | omega | exact hmi | exact hst | assumption)
  · skip
    have l16 : (0 : Int32).toInt = 0 := by decide
    have c17 := neI h13
    refine Sf_ite (fun h18 => ?_) (fun h18 => ?_)
    · skip
      have l19 : (104 : Int32).toInt = 104 := by decide
      have c20 := eqI h18
      have l21 : (2 : Int32).toInt = 2 := by decide
      refine Sf_cb5 (s_X6_rowStands n_this_bytes s_length o_at2_2 s_used o_fault2_3 s_bytes s_code 2 0 (by omega) (by omega) (by omega) (by omega) (by omega) (by omega) (by omega) (by omega) (by omega) (by omega)) (fun r17_95 o_at17_96 o_used17_97 o_fault17_98 o_code17_99 hp22 => ?_)
      have hp22 : ((r17_95.toInt = 0 ∨ r17_95.toInt = 1)) ∧ (0 ≤ o_at17_96.toInt ∧ o_at17_96.toInt ≤ s_length.toInt) ∧ (0 ≤ o_used17_97.toInt ∧ o_used17_97.toInt ≤ 120) := hp22
      obtain ⟨hq23, hq24, hq25⟩ := hp22
      have g26 := rgI r17_95
      have g27 := rgI o_at17_96
      have g28 := rgI o_used17_97
      have g29 := rgI o_fault17_98
      refine Sf_ite (fun h30 => ?_) (fun h30 => ?_)
      · skip
        have c31 := eqI h30
        refine Sf_some (show (((0 : Int32).toInt = 0 ∨ (0 : Int32).toInt = 1)) ∧ (0 ≤ o_at17_96.toInt ∧ o_at17_96.toInt ≤ s_length.toInt) ∧ (0 ≤ o_used17_97.toInt ∧ o_used17_97.toInt ≤ 120) ∧ (∀ j, 0 ≤ (s_middles j).toInt ∧ (s_middles j).toInt ≤ 120) ∧ (∀ j, 0 ≤ (s_starts j).toInt ∧ (s_starts j).toInt ≤ 120) from ?_)
        refine ⟨?_, ?_, ?_, ?_, ?_⟩ <;> (first | omega | exact hmi | exact hst | assumption)
      · skip
        have c32 := neI h30
        rw [f_X6_clauseStands_J25]
        refine Sf_wrI (by omega) (by omega) (fun g34_22 hw33 => ?_)
        have hmi : ∀ j, 0 ≤ (g34_22 j).toInt ∧ (g34_22 j).toInt ≤ 120 := fun j => by rw [hw33]; unfold upd; split; (omega); (exact hp9 j)
        have l34 : (40 : Int32).toInt = 40 := by decide
        refine Sf_cb3 (s_X6_signStands n_this_bytes s_length o_at17_96 o_fault17_98 s_bytes 40 (by omega) (by omega) (by omega) (by omega)) (fun r38_27 o_at38_28 o_fault38_29 hp35 => ?_)
        have hp35 : ((r38_27.toInt = 0 ∨ r38_27.toInt = 1)) ∧ (0 ≤ o_at38_28.toInt ∧ o_at38_28.toInt ≤ s_length.toInt) := hp35
        obtain ⟨hq36, hq37⟩ := hp35
        have g38 := rgI r38_27
        have g39 := rgI o_at38_28
        have g40 := rgI o_fault38_29
        refine Sf_ite (fun h41 => ?_) (fun h41 => ?_)
        · skip
          have c42 := eqI h41
          refine Sf_some (show (((0 : Int32).toInt = 0 ∨ (0 : Int32).toInt = 1)) ∧ (0 ≤ o_at38_28.toInt ∧ o_at38_28.toInt ≤ s_length.toInt) ∧ (0 ≤ o_used17_97.toInt ∧ o_used17_97.toInt ≤ 120) ∧ (∀ j, 0 ≤ (g34_22 j).toInt ∧ (g34_22 j).toInt ≤ 120) ∧ (∀ j, 0 ≤ (s_starts j).toInt ∧ (s_starts j).toInt ≤ 120) from ?_)
          refine ⟨?_, ?_, ?_, ?_, ?_⟩ <;> (first | omega | exact hmi | exact hst | assumption)
        · skip
          have c43 := neI h41
          have l44 : (1 : Int32).toInt = 1 := by decide
          refine Sf_cb5 (s_X6_rowStands n_this_bytes s_length o_at38_28 o_used17_97 o_fault38_29 s_bytes o_code17_99 0 1 (by omega) (by omega) (by omega) (by omega) (by omega) (by omega) (by omega) (by omega) (by omega) (by omega)) (fun r47_44 o_at47_45 o_used47_46 o_fault47_47 o_code47_48 hp45 => ?_)
          have hp45 : ((r47_44.toInt = 0 ∨ r47_44.toInt = 1)) ∧ (0 ≤ o_at47_45.toInt ∧ o_at47_45.toInt ≤ s_length.toInt) ∧ (0 ≤ o_used47_46.toInt ∧ o_used47_46.toInt ≤ 120) := hp45
          obtain ⟨hq46, hq47, hq48⟩ := hp45
          have g49 := rgI r47_44
          have g50 := rgI o_at47_45
          have g51 := rgI o_used47_46
          have g52 := rgI o_fault47_47
          refine Sf_ite (fun h53 => ?_) (fun h53 => ?_)
          · skip
            have c54 := eqI h53
            refine Sf_some (show (((0 : Int32).toInt = 0 ∨ (0 : Int32).toInt = 1)) ∧ (0 ≤ o_at47_45.toInt ∧ o_at47_45.toInt ≤ s_length.toInt) ∧ (0 ≤ o_used47_46.toInt ∧ o_used47_46.toInt ≤ 120) ∧ (∀ j, 0 ≤ (g34_22 j).toInt ∧ (g34_22 j).toInt ≤ 120) ∧ (∀ j, 0 ≤ (s_starts j).toInt ∧ (s_starts j).toInt ≤ 120) from ?_)
            refine ⟨?_, ?_, ?_, ?_, ?_⟩ <;> (first | omega | exact hmi | exact hst | assumption)
          · skip
            have c55 := neI h53
            have l56 : (41 : Int32).toInt = 41 := by decide
            refine Sf_cb3 (s_X6_signStands n_this_bytes s_length o_at47_45 o_fault47_47 s_bytes 41 (by omega) (by omega) (by omega) (by omega)) (fun r56_63 o_at56_64 o_fault56_65 hp57 => ?_)
            have hp57 : ((r56_63.toInt = 0 ∨ r56_63.toInt = 1)) ∧ (0 ≤ o_at56_64.toInt ∧ o_at56_64.toInt ≤ s_length.toInt) := hp57
            obtain ⟨hq58, hq59⟩ := hp57
            have g60 := rgI r56_63
            have g61 := rgI o_at56_64
            have g62 := rgI o_fault56_65
            refine Sf_ite (fun h63 => ?_) (fun h63 => ?_)
            · skip
              have c64 := eqI h63
              refine Sf_some (show (((0 : Int32).toInt = 0 ∨ (0 : Int32).toInt = 1)) ∧ (0 ≤ o_at56_64.toInt ∧ o_at56_64.toInt ≤ s_length.toInt) ∧ (0 ≤ o_used47_46.toInt ∧ o_used47_46.toInt ≤ 120) ∧ (∀ j, 0 ≤ (g34_22 j).toInt ∧ (g34_22 j).toInt ≤ 120) ∧ (∀ j, 0 ≤ (s_starts j).toInt ∧ (s_starts j).toInt ≤ 120) from ?_)
              refine ⟨?_, ?_, ?_, ?_, ?_⟩ <;> (first | omega | exact hmi | exact hst | assumption)
            · skip
              have c65 := neI h63
              have g66 := rgI (p2 + 1)
              first | have e67 := adN p2 1 (1) (by decide) (by omega) (by omega) | skip
              refine Sf_wrI (by omega) (by omega) (fun g75_73 hw68 => ?_)
              have hst : ∀ j, 0 ≤ (g75_73 j).toInt ∧ (g75_73 j).toInt ≤ 120 := fun j => by rw [hw68]; unfold upd; split; (omega); (exact hp10 j)
              refine Sf_some (show (((1 : Int32).toInt = 0 ∨ (1 : Int32).toInt = 1)) ∧ (0 ≤ o_at56_64.toInt ∧ o_at56_64.toInt ≤ s_length.toInt) ∧ (0 ≤ o_used47_46.toInt ∧ o_used47_46.toInt ≤ 120) ∧ (∀ j, 0 ≤ (g34_22 j).toInt ∧ (g34_22 j).toInt ≤ 120) ∧ (∀ j, 0 ≤ (g75_73 j).toInt ∧ (g75_73 j).toInt ≤ 120) from ?_)
              refine ⟨?_, ?_, ?_, ?_, ?_⟩ <;> (first | omega | exact hmi | exact hst | assumption)
    · skip
      have l69 : (104 : Int32).toInt = 104 := by decide
      have c70 := neI h18
      rw [f_X6_clauseStands_J25]
      refine Sf_wrI (by omega) (by omega) (fun g34_22 hw71 => ?_)
      have hmi : ∀ j, 0 ≤ (g34_22 j).toInt ∧ (g34_22 j).toInt ≤ 120 := fun j => by rw [hw71]; unfold upd; split; (omega); (exact hp9 j)
      have l72 : (40 : Int32).toInt = 40 := by decide
      refine Sf_cb3 (s_X6_signStands n_this_bytes s_length o_at2_2 o_fault2_3 s_bytes 40 (by omega) (by omega) (by omega) (by omega)) (fun r38_27 o_at38_28 o_fault38_29 hp73 => ?_)
      have hp73 : ((r38_27.toInt = 0 ∨ r38_27.toInt = 1)) ∧ (0 ≤ o_at38_28.toInt ∧ o_at38_28.toInt ≤ s_length.toInt) := hp73
      obtain ⟨hq74, hq75⟩ := hp73
      have g76 := rgI r38_27
      have g77 := rgI o_at38_28
      have g78 := rgI o_fault38_29
      refine Sf_ite (fun h79 => ?_) (fun h79 => ?_)
      · skip
        have c80 := eqI h79
        refine Sf_some (show (((0 : Int32).toInt = 0 ∨ (0 : Int32).toInt = 1)) ∧ (0 ≤ o_at38_28.toInt ∧ o_at38_28.toInt ≤ s_length.toInt) ∧ (0 ≤ s_used.toInt ∧ s_used.toInt ≤ 120) ∧ (∀ j, 0 ≤ (g34_22 j).toInt ∧ (g34_22 j).toInt ≤ 120) ∧ (∀ j, 0 ≤ (s_starts j).toInt ∧ (s_starts j).toInt ≤ 120) from ?_)
        refine ⟨?_, ?_, ?_, ?_, ?_⟩ <;> (first | omega | exact hmi | exact hst | assumption)
      · skip
        have c81 := neI h79
        have l82 : (1 : Int32).toInt = 1 := by decide
        refine Sf_cb5 (s_X6_rowStands n_this_bytes s_length o_at38_28 s_used o_fault38_29 s_bytes s_code 0 1 (by omega) (by omega) (by omega) (by omega) (by omega) (by omega) (by omega) (by omega) (by omega) (by omega)) (fun r47_44 o_at47_45 o_used47_46 o_fault47_47 o_code47_48 hp83 => ?_)
        have hp83 : ((r47_44.toInt = 0 ∨ r47_44.toInt = 1)) ∧ (0 ≤ o_at47_45.toInt ∧ o_at47_45.toInt ≤ s_length.toInt) ∧ (0 ≤ o_used47_46.toInt ∧ o_used47_46.toInt ≤ 120) := hp83
        obtain ⟨hq84, hq85, hq86⟩ := hp83
        have g87 := rgI r47_44
        have g88 := rgI o_at47_45
        have g89 := rgI o_used47_46
        have g90 := rgI o_fault47_47
        refine Sf_ite (fun h91 => ?_) (fun h91 => ?_)
        · skip
          have c92 := eqI h91
          refine Sf_some (show (((0 : Int32).toInt = 0 ∨ (0 : Int32).toInt = 1)) ∧ (0 ≤ o_at47_45.toInt ∧ o_at47_45.toInt ≤ s_length.toInt) ∧ (0 ≤ o_used47_46.toInt ∧ o_used47_46.toInt ≤ 120) ∧ (∀ j, 0 ≤ (g34_22 j).toInt ∧ (g34_22 j).toInt ≤ 120) ∧ (∀ j, 0 ≤ (s_starts j).toInt ∧ (s_starts j).toInt ≤ 120) from ?_)
          refine ⟨?_, ?_, ?_, ?_, ?_⟩ <;> (first | omega | exact hmi | exact hst | assumption)
        · skip
          have c93 := neI h91
          have l94 : (41 : Int32).toInt = 41 := by decide
          refine Sf_cb3 (s_X6_signStands n_this_bytes s_length o_at47_45 o_fault47_47 s_bytes 41 (by omega) (by omega) (by omega) (by omega)) (fun r56_63 o_at56_64 o_fault56_65 hp95 => ?_)
          have hp95 : ((r56_63.toInt = 0 ∨ r56_63.toInt = 1)) ∧ (0 ≤ o_at56_64.toInt ∧ o_at56_64.toInt ≤ s_length.toInt) := hp95
          obtain ⟨hq96, hq97⟩ := hp95
          have g98 := rgI r56_63
          have g99 := rgI o_at56_64
          have g100 := rgI o_fault56_65
          refine Sf_ite (fun h101 => ?_) (fun h101 => ?_)
          · skip
            have c102 := eqI h101
            refine Sf_some (show (((0 : Int32).toInt = 0 ∨ (0 : Int32).toInt = 1)) ∧ (0 ≤ o_at56_64.toInt ∧ o_at56_64.toInt ≤ s_length.toInt) ∧ (0 ≤ o_used47_46.toInt ∧ o_used47_46.toInt ≤ 120) ∧ (∀ j, 0 ≤ (g34_22 j).toInt ∧ (g34_22 j).toInt ≤ 120) ∧ (∀ j, 0 ≤ (s_starts j).toInt ∧ (s_starts j).toInt ≤ 120) from ?_)
            refine ⟨?_, ?_, ?_, ?_, ?_⟩ <;> (first | omega | exact hmi | exact hst | assumption)
          · skip
            have c103 := neI h101
            have g104 := rgI (p2 + 1)
            first | have e105 := adN p2 1 (1) (by decide) (by omega) (by omega) | skip
            refine Sf_wrI (by omega) (by omega) (fun g75_73 hw106 => ?_)
            have hst : ∀ j, 0 ≤ (g75_73 j).toInt ∧ (g75_73 j).toInt ≤ 120 := fun j => by rw [hw106]; unfold upd; split; (omega); (exact hp10 j)
            refine Sf_some (show (((1 : Int32).toInt = 0 ∨ (1 : Int32).toInt = 1)) ∧ (0 ≤ o_at56_64.toInt ∧ o_at56_64.toInt ≤ s_length.toInt) ∧ (0 ≤ o_used47_46.toInt ∧ o_used47_46.toInt ≤ 120) ∧ (∀ j, 0 ≤ (g34_22 j).toInt ∧ (g34_22 j).toInt ≤ 120) ∧ (∀ j, 0 ≤ (g75_73 j).toInt ∧ (g75_73 j).toInt ≤ 120) from ?_)
            refine ⟨?_, ?_, ?_, ?_, ?_⟩ <;> (first | omega | exact hmi | exact hst | assumption)
set_option maxHeartbeats 4000000 in
set_option maxRecDepth 100000 in
theorem s_X5_isDivision (p1 : Int32)  : Sf (f_X5_isDivision p1) (fun (y : Int32) => ((y.toInt = 0 ∨ y.toInt = 1))) := by
  have g1 := rgI p1
  have hFU : (100000 : Int) ≤ (FU : Int) := Int.ofNat_le.mpr FU_ge
  rw [f_X5_isDivision]
  refine Sf_ite (fun h2 => ?_) (fun h2 => ?_)
  · skip
    have l3 : (47 : Int32).toInt = 47 := by decide
    have c4 := eqI h2
    have l5 : (1 : Int32).toInt = 1 := by decide
    refine Sf_some (show (((1 : Int32).toInt = 0 ∨ (1 : Int32).toInt = 1)) from ?_)
    (omega)
  · skip
    have l6 : (47 : Int32).toInt = 47 := by decide
    have c7 := neI h2
    refine Sf_ite (fun h8 => ?_) (fun h8 => ?_)
    · skip
      have l9 : (37 : Int32).toInt = 37 := by decide
      have c10 := eqI h8
      have l11 : (1 : Int32).toInt = 1 := by decide
      refine Sf_some (show (((1 : Int32).toInt = 0 ∨ (1 : Int32).toInt = 1)) from ?_)
      (omega)
    · skip
      have l12 : (37 : Int32).toInt = 37 := by decide
      have c13 := neI h8
      have l14 : (0 : Int32).toInt = 0 := by decide
      refine Sf_some (show (((0 : Int32).toInt = 0 ∨ (0 : Int32).toInt = 1)) from ?_)
      (omega)
set_option maxHeartbeats 4000000 in
set_option maxRecDepth 100000 in
theorem s_X5_joined (p1 : Int32) (p2 : Int32) (p3 : Int32)  : Sf (f_X5_joined p1 p2 p3) (fun (y : Int32) => True) := by
  have g1 := rgI p1
  have g2 := rgI p2
  have g3 := rgI p3
  have hFU : (100000 : Int) ≤ (FU : Int) := Int.ofNat_le.mpr FU_ge
  rw [f_X5_joined]
  refine Sf_ite (fun h4 => ?_) (fun h4 => ?_)
  · skip
    have l5 : (37 : Int32).toInt = 37 := by decide
    have c6 := eqI h4
    refine Sf_ite (fun h7 => ?_) (fun h7 => ?_)
    · skip
      have l8 : (0 : Int32).toInt = 0 := by decide
      have c9 := eqI h7
      exact Sf_some trivial
    · skip
      have l10 : (0 : Int32).toInt = 0 := by decide
      have c11 := neI h7
      refine Sf_dvI (by omega) ?_
      exact Sf_some trivial
  · skip
    have l12 : (37 : Int32).toInt = 37 := by decide
    have c13 := neI h4
    refine Sf_ite (fun h14 => ?_) (fun h14 => ?_)
    · skip
      have l15 : (42 : Int32).toInt = 42 := by decide
      have c16 := eqI h14
      exact Sf_some trivial
    · skip
      have l17 : (42 : Int32).toInt = 42 := by decide
      have c18 := neI h14
      refine Sf_ite (fun h19 => ?_) (fun h19 => ?_)
      · skip
        have l20 : (43 : Int32).toInt = 43 := by decide
        have c21 := eqI h19
        exact Sf_some trivial
      · skip
        have l22 : (43 : Int32).toInt = 43 := by decide
        have c23 := neI h19
        refine Sf_ite (fun h24 => ?_) (fun h24 => ?_)
        · skip
          have l25 : (45 : Int32).toInt = 45 := by decide
          have c26 := eqI h24
          exact Sf_some trivial
        · skip
          have l27 : (45 : Int32).toInt = 45 := by decide
          have c28 := neI h24
          refine Sf_ite (fun h29 => ?_) (fun h29 => ?_)
          · skip
            have l30 : (47 : Int32).toInt = 47 := by decide
            have c31 := eqI h29
            refine Sf_ite (fun h32 => ?_) (fun h32 => ?_)
            · skip
              have l33 : (0 : Int32).toInt = 0 := by decide
              have c34 := eqI h32
              exact Sf_some trivial
            · skip
              have l35 : (0 : Int32).toInt = 0 := by decide
              have c36 := neI h32
              refine Sf_dvI (by omega) ?_
              exact Sf_some trivial
          · skip
            have l37 : (47 : Int32).toInt = 47 := by decide
            have c38 := neI h29
            refine Sf_ite (fun h39 => ?_) (fun h39 => ?_)
            · skip
              have l40 : (60 : Int32).toInt = 60 := by decide
              have c41 := eqI h39
              refine Sf_ite (fun h42 => ?_) (fun h42 => ?_)
              · skip
                have c43 := leI h42
                exact Sf_some trivial
              · skip
                have c44 := nleI h42
                exact Sf_some trivial
            · skip
              have l45 : (60 : Int32).toInt = 60 := by decide
              have c46 := neI h39
              refine Sf_ite (fun h47 => ?_) (fun h47 => ?_)
              · skip
                have l48 : (62 : Int32).toInt = 62 := by decide
                have c49 := eqI h47
                refine Sf_ite (fun h50 => ?_) (fun h50 => ?_)
                · skip
                  have c51 := leI h50
                  exact Sf_some trivial
                · skip
                  have c52 := nleI h50
                  exact Sf_some trivial
              · skip
                have l53 : (62 : Int32).toInt = 62 := by decide
                have c54 := neI h47
                refine Sf_ite (fun h55 => ?_) (fun h55 => ?_)
                · skip
                  have c56 := eqI h55
                  exact Sf_some trivial
                · skip
                  have c57 := neI h55
                  exact Sf_some trivial
set_option maxHeartbeats 4000000 in
set_option maxRecDepth 100000 in
theorem s_X5_reckon_L9 (n_p1 : Nat) (s_p1 : Nat → Int32) (s_letters : Nat → Int32) (p3 : Int32) (K273 : Int32 → (Nat → Int32) → Option (Int32 × (Nat → Int32))) (hp0 : n_p1 ≤ 120) (hK273 : ∀ (a : Int32) (b : Nat → Int32), (0 ≤ a.toInt) → (a.toInt ≤ 32) → Sf (K273 a b) (fun (y : Int32 × (Nat → Int32)) => True)) : ∀ (n : Nat) (x4_17 : Int32) (x5_18 : Int32) (x6_19 : Int32) (values__20 : Nat → Int32), (0 ≤ x4_17.toInt) → (x4_17.toInt ≤ 32) → (0 ≤ x6_19.toInt) → (x6_19.toInt ≤ 121) → (122 - x6_19.toInt < (n : Int)) → Sf (f_X5_reckon_L9 n_p1 s_p1 s_letters p3 K273 n x4_17 x5_18 x6_19 values__20) (fun (y : Int32 × (Nat → Int32)) => True) := by
  have hFU : (100000 : Int) ≤ (FU : Int) := Int.ofNat_le.mpr FU_ge
  have g1 := rgI p3
  intro n
  induction n with
  | zero =>
    intro x4_17 x5_18 x6_19 values__20 hi0 hi1 hi2 hi3 hm
    have g2 := rgI x4_17
    have g3 := rgI x5_18
    have g4 := rgI x6_19
    exact absurd hm (by omega)
  | succ n ih =>
    intro x4_17 x5_18 x6_19 values__20 hi0 hi1 hi2 hi3 hm
    rw [f_X5_reckon_L9]
    have g5 := rgI x4_17
    have g6 := rgI x5_18
    have g7 := rgI x6_19
    refine Sf_ite (fun h8 => ?_) (fun h8 => ?_)
    · skip
      have c9 := leI h8
      exact hK273 x4_17 values__20 (by omega) (by omega)
    · skip
      have c10 := nleI h8
      refine Sf_ite (fun h11 => ?_) (fun h11 => ?_)
      · skip
        have o12 := ofN n_p1 (by omega)
        have c13 := leI h11
        exact hK273 x4_17 values__20 (by omega) (by omega)
      · skip
        have o14 := ofN n_p1 (by omega)
        have c15 := nleI h11
        refine Sf_ite (fun h16 => ?_) (fun h16 => ?_)
        · skip
          have c17 := leI h16
          refine Sf_rdI (by omega) (by omega) (fun v35_30 hv18 => ?_)
          have g19 := rgI v35_30
          refine Sf_nmI (fun v40_34 hv20 => ?_)
          have l21 : (255 : Int32).toInt = 255 := by decide
          have a22 := an_ v35_30 255 (by decide)
          have q23 := eqI hv20
          refine Sf_rdI (by omega) (by omega) (fun v45_38 hv24 => ?_)
          have g25 := rgI v45_38
          refine Sf_nmI (fun v49_42 hv26 => ?_)
          have l27 : (8 : Int32).toInt = 8 := by decide
          have g28 := rgI (jushr v45_38 8)
          have q29 := eqI hv26
          refine Sf_ite (fun h30 => ?_) (fun h30 => ?_)
          · skip
            have l31 : (48 : Int32).toInt = 48 := by decide
            have c32 := eqI h30
            rw [f_X5_reckon_J65]
            refine Sf_ite (fun h33 => ?_) (fun h33 => ?_)
            · skip
              have l34 : (32 : Int32).toInt = 32 := by decide
              have c35 := ltI h33
              refine Sf_ite (fun h36 => ?_) (fun h36 => ?_)
              · skip
                have c37 := eqI h36
                rw [f_X5_reckon_J102]
                refine Sf_wrI (by omega) (by omega) (fun g102_54 hw38 => ?_)
                refine Sf_nmI (fun v103_59 hv39 => ?_)
                have g40 := rgI (x4_17 + 1)
                first | have e41 := adN x4_17 1 (1) (by decide) (by omega) (by omega) | skip
                have q42 := eqI hv39
                refine Sf_nmI (fun v267_63 hv43 => ?_)
                have g44 := rgI (x6_19 + 1)
                first | have e45 := adN x6_19 1 (1) (by decide) (by omega) (by omega) | skip
                have q46 := eqI hv43
                exact ih v103_59 x5_18 v267_63 g102_54 (by omega) (by omega) (by omega) (by omega) (by omega)
              · skip
                have c47 := neI h36
                have l48 : (127 : Int32).toInt = 127 := by decide
                have a49 := an_ v49_42 127 (by decide)
                refine Sf_rdI (by omega) (by omega) (fun v101_70 hv50 => ?_)
                have g51 := rgI v101_70
                rw [f_X5_reckon_J102]
                refine Sf_wrI (by omega) (by omega) (fun g102_54 hw52 => ?_)
                refine Sf_nmI (fun v103_59 hv53 => ?_)
                have g54 := rgI (x4_17 + 1)
                first | have e55 := adN x4_17 1 (1) (by decide) (by omega) (by omega) | skip
                have q56 := eqI hv53
                refine Sf_nmI (fun v267_63 hv57 => ?_)
                have g58 := rgI (x6_19 + 1)
                first | have e59 := adN x6_19 1 (1) (by decide) (by omega) (by omega) | skip
                have q60 := eqI hv57
                exact ih v103_59 x5_18 v267_63 g102_54 (by omega) (by omega) (by omega) (by omega) (by omega)
            · skip
              have l61 : (32 : Int32).toInt = 32 := by decide
              have c62 := nltI h33
              exact Sf_some trivial
          · skip
            have l63 : (48 : Int32).toInt = 48 := by decide
            have c64 := neI h30
            refine Sf_ite (fun h65 => ?_) (fun h65 => ?_)
            · skip
              have l66 : (97 : Int32).toInt = 97 := by decide
              have c67 := eqI h65
              rw [f_X5_reckon_J65]
              refine Sf_ite (fun h68 => ?_) (fun h68 => ?_)
              · skip
                have l69 : (32 : Int32).toInt = 32 := by decide
                have c70 := ltI h68
                refine Sf_ite (fun h71 => ?_) (fun h71 => ?_)
                · skip
                  have c72 := eqI h71
                  rw [f_X5_reckon_J102]
                  refine Sf_wrI (by omega) (by omega) (fun g102_54 hw73 => ?_)
                  refine Sf_nmI (fun v103_59 hv74 => ?_)
                  have g75 := rgI (x4_17 + 1)
                  first | have e76 := adN x4_17 1 (1) (by decide) (by omega) (by omega) | skip
                  have q77 := eqI hv74
                  refine Sf_nmI (fun v267_63 hv78 => ?_)
                  have g79 := rgI (x6_19 + 1)
                  first | have e80 := adN x6_19 1 (1) (by decide) (by omega) (by omega) | skip
                  have q81 := eqI hv78
                  exact ih v103_59 x5_18 v267_63 g102_54 (by omega) (by omega) (by omega) (by omega) (by omega)
                · skip
                  have c82 := neI h71
                  have l83 : (127 : Int32).toInt = 127 := by decide
                  have a84 := an_ v49_42 127 (by decide)
                  refine Sf_rdI (by omega) (by omega) (fun v101_70 hv85 => ?_)
                  have g86 := rgI v101_70
                  rw [f_X5_reckon_J102]
                  refine Sf_wrI (by omega) (by omega) (fun g102_54 hw87 => ?_)
                  refine Sf_nmI (fun v103_59 hv88 => ?_)
                  have g89 := rgI (x4_17 + 1)
                  first | have e90 := adN x4_17 1 (1) (by decide) (by omega) (by omega) | skip
                  have q91 := eqI hv88
                  refine Sf_nmI (fun v267_63 hv92 => ?_)
                  have g93 := rgI (x6_19 + 1)
                  first | have e94 := adN x6_19 1 (1) (by decide) (by omega) (by omega) | skip
                  have q95 := eqI hv92
                  exact ih v103_59 x5_18 v267_63 g102_54 (by omega) (by omega) (by omega) (by omega) (by omega)
              · skip
                have l96 : (32 : Int32).toInt = 32 := by decide
                have c97 := nltI h68
                exact Sf_some trivial
            · skip
              have l98 : (97 : Int32).toInt = 97 := by decide
              have c99 := neI h65
              refine Sf_ite (fun h100 => ?_) (fun h100 => ?_)
              · skip
                have l101 : (1 : Int32).toInt = 1 := by decide
                have c102 := leI h100
                refine Sf_ite (fun h103 => ?_) (fun h103 => ?_)
                · skip
                  have l104 : (33 : Int32).toInt = 33 := by decide
                  have c105 := eqI h103
                  have g106 := rgI (x4_17 - 1)
                  first | have e107 := sbN x4_17 1 (1) (by decide) (by omega) (by omega) | skip
                  refine Sf_rdI (by omega) (by omega) (fun v141_173 hv108 => ?_)
                  have g109 := rgI v141_173
                  refine Sf_nmI (fun v143_177 hv110 => ?_)
                  have g111 := rgI (1 - v141_173)
                  first | have e112 := sbX 1 v141_173 (by omega) (by omega) | skip
                  have q113 := eqI hv110
                  refine Sf_wrI (by omega) (by omega) (fun g143_180 hw114 => ?_)
                  refine Sf_nmI (fun v267_185 hv115 => ?_)
                  have g116 := rgI (x6_19 + 1)
                  first | have e117 := adN x6_19 1 (1) (by decide) (by omega) (by omega) | skip
                  have q118 := eqI hv115
                  exact ih x4_17 x5_18 v267_185 g143_180 (by omega) (by omega) (by omega) (by omega) (by omega)
                · skip
                  have l119 : (33 : Int32).toInt = 33 := by decide
                  have c120 := neI h103
                  refine Sf_ite (fun h121 => ?_) (fun h121 => ?_)
                  · skip
                    have l122 : (38 : Int32).toInt = 38 := by decide
                    have c123 := eqI h121
                    rw [f_X5_reckon_J161]
                    have g124 := rgI (x4_17 - 1)
                    first | have e125 := sbN x4_17 1 (1) (by decide) (by omega) (by omega) | skip
                    refine Sf_rdI (by omega) (by omega) (fun v169_91 hv126 => ?_)
                    have g127 := rgI v169_91
                    refine Sf_ite (fun h128 => ?_) (fun h128 => ?_)
                    · skip
                      have l129 : (0 : Int32).toInt = 0 := by decide
                      have c130 := eqI h128
                      rw [f_X5_reckon_J178]
                      refine Sf_ite (fun h131 => ?_) (fun h131 => ?_)
                      · skip
                        have l132 : (124 : Int32).toInt = 124 := by decide
                        have c133 := eqI h131
                        rw [f_X5_reckon_J190]
                        refine Sf_ite (fun h134 => ?_) (fun h134 => ?_)
                        · skip
                          have c135 := eqI h134
                          refine Sf_nmI (fun v267_109 hv136 => ?_)
                          have g137 := rgI (x6_19 + 1)
                          first | have e138 := adN x6_19 1 (1) (by decide) (by omega) (by omega) | skip
                          have q139 := eqI hv136
                          exact ih x4_17 v49_42 v267_109 values__20 (by omega) (by omega) (by omega) (by omega) (by omega)
                        · skip
                          have c140 := neI h134
                          refine Sf_nmI (fun v200_100 hv141 => ?_)
                          have g142 := rgI v200_100
                          first | have q143 := (eqI hv141).trans (adN x4_17 (-1) (-1) (by decide) (by omega) (by omega)) | skip
                          refine Sf_nmI (fun v267_104 hv144 => ?_)
                          have g145 := rgI (x6_19 + 1)
                          first | have e146 := adN x6_19 1 (1) (by decide) (by omega) (by omega) | skip
                          have q147 := eqI hv144
                          exact ih v200_100 x5_18 v267_104 values__20 (by omega) (by omega) (by omega) (by omega) (by omega)
                      · skip
                        have l148 : (124 : Int32).toInt = 124 := by decide
                        have c149 := neI h131
                        rw [f_X5_reckon_J190]
                        refine Sf_ite (fun h150 => ?_) (fun h150 => ?_)
                        · skip
                          have c151 := eqI h150
                          refine Sf_nmI (fun v267_109 hv152 => ?_)
                          have g153 := rgI (x6_19 + 1)
                          first | have e154 := adN x6_19 1 (1) (by decide) (by omega) (by omega) | skip
                          have q155 := eqI hv152
                          exact ih x4_17 v49_42 v267_109 values__20 (by omega) (by omega) (by omega) (by omega) (by omega)
                        · skip
                          have c156 := neI h150
                          refine Sf_nmI (fun v200_100 hv157 => ?_)
                          have g158 := rgI v200_100
                          first | have q159 := (eqI hv157).trans (adN x4_17 (-1) (-1) (by decide) (by omega) (by omega)) | skip
                          refine Sf_nmI (fun v267_104 hv160 => ?_)
                          have g161 := rgI (x6_19 + 1)
                          first | have e162 := adN x6_19 1 (1) (by decide) (by omega) (by omega) | skip
                          have q163 := eqI hv160
                          exact ih v200_100 x5_18 v267_104 values__20 (by omega) (by omega) (by omega) (by omega) (by omega)
                    · skip
                      have l164 : (0 : Int32).toInt = 0 := by decide
                      have c165 := neI h128
                      rw [f_X5_reckon_J178]
                      refine Sf_ite (fun h166 => ?_) (fun h166 => ?_)
                      · skip
                        have l167 : (124 : Int32).toInt = 124 := by decide
                        have c168 := eqI h166
                        rw [f_X5_reckon_J190]
                        refine Sf_ite (fun h169 => ?_) (fun h169 => ?_)
                        · skip
                          have c170 := eqI h169
                          refine Sf_nmI (fun v267_109 hv171 => ?_)
                          have g172 := rgI (x6_19 + 1)
                          first | have e173 := adN x6_19 1 (1) (by decide) (by omega) (by omega) | skip
                          have q174 := eqI hv171
                          exact ih x4_17 v49_42 v267_109 values__20 (by omega) (by omega) (by omega) (by omega) (by omega)
                        · skip
                          have c175 := neI h169
                          refine Sf_nmI (fun v200_100 hv176 => ?_)
                          have g177 := rgI v200_100
                          first | have q178 := (eqI hv176).trans (adN x4_17 (-1) (-1) (by decide) (by omega) (by omega)) | skip
                          refine Sf_nmI (fun v267_104 hv179 => ?_)
                          have g180 := rgI (x6_19 + 1)
                          first | have e181 := adN x6_19 1 (1) (by decide) (by omega) (by omega) | skip
                          have q182 := eqI hv179
                          exact ih v200_100 x5_18 v267_104 values__20 (by omega) (by omega) (by omega) (by omega) (by omega)
                      · skip
                        have l183 : (124 : Int32).toInt = 124 := by decide
                        have c184 := neI h166
                        rw [f_X5_reckon_J190]
                        refine Sf_ite (fun h185 => ?_) (fun h185 => ?_)
                        · skip
                          have c186 := eqI h185
                          refine Sf_nmI (fun v267_109 hv187 => ?_)
                          have g188 := rgI (x6_19 + 1)
                          first | have e189 := adN x6_19 1 (1) (by decide) (by omega) (by omega) | skip
                          have q190 := eqI hv187
                          exact ih x4_17 v49_42 v267_109 values__20 (by omega) (by omega) (by omega) (by omega) (by omega)
                        · skip
                          have c191 := neI h185
                          refine Sf_nmI (fun v200_100 hv192 => ?_)
                          have g193 := rgI v200_100
                          first | have q194 := (eqI hv192).trans (adN x4_17 (-1) (-1) (by decide) (by omega) (by omega)) | skip
                          refine Sf_nmI (fun v267_104 hv195 => ?_)
                          have g196 := rgI (x6_19 + 1)
                          first | have e197 := adN x6_19 1 (1) (by decide) (by omega) (by omega) | skip
                          have q198 := eqI hv195
                          exact ih v200_100 x5_18 v267_104 values__20 (by omega) (by omega) (by omega) (by omega) (by omega)
                  · skip
                    have l199 : (38 : Int32).toInt = 38 := by decide
                    have c200 := neI h121
                    refine Sf_ite (fun h201 => ?_) (fun h201 => ?_)
                    · skip
                      have l202 : (124 : Int32).toInt = 124 := by decide
                      have c203 := eqI h201
                      rw [f_X5_reckon_J161]
                      have g204 := rgI (x4_17 - 1)
                      first | have e205 := sbN x4_17 1 (1) (by decide) (by omega) (by omega) | skip
                      refine Sf_rdI (by omega) (by omega) (fun v169_91 hv206 => ?_)
                      have g207 := rgI v169_91
                      refine Sf_ite (fun h208 => ?_) (fun h208 => ?_)
                      · skip
                        have l209 : (0 : Int32).toInt = 0 := by decide
                        have c210 := eqI h208
                        rw [f_X5_reckon_J178]
                        refine Sf_ite (fun h211 => ?_) (fun h211 => ?_)
                        · skip
                          have c212 := eqI h211
                          rw [f_X5_reckon_J190]
                          refine Sf_ite (fun h213 => ?_) (fun h213 => ?_)
                          · skip
                            have c214 := eqI h213
                            refine Sf_nmI (fun v267_109 hv215 => ?_)
                            have g216 := rgI (x6_19 + 1)
                            first | have e217 := adN x6_19 1 (1) (by decide) (by omega) (by omega) | skip
                            have q218 := eqI hv215
                            exact ih x4_17 v49_42 v267_109 values__20 (by omega) (by omega) (by omega) (by omega) (by omega)
                          · skip
                            have c219 := neI h213
                            refine Sf_nmI (fun v200_100 hv220 => ?_)
                            have g221 := rgI v200_100
                            first | have q222 := (eqI hv220).trans (adN x4_17 (-1) (-1) (by decide) (by omega) (by omega)) | skip
                            refine Sf_nmI (fun v267_104 hv223 => ?_)
                            have g224 := rgI (x6_19 + 1)
                            first | have e225 := adN x6_19 1 (1) (by decide) (by omega) (by omega) | skip
                            have q226 := eqI hv223
                            exact ih v200_100 x5_18 v267_104 values__20 (by omega) (by omega) (by omega) (by omega) (by omega)
                        · skip
                          have c227 := neI h211
                          rw [f_X5_reckon_J190]
                          refine Sf_ite (fun h228 => ?_) (fun h228 => ?_)
                          · skip
                            have c229 := eqI h228
                            refine Sf_nmI (fun v267_109 hv230 => ?_)
                            have g231 := rgI (x6_19 + 1)
                            first | have e232 := adN x6_19 1 (1) (by decide) (by omega) (by omega) | skip
                            have q233 := eqI hv230
                            exact ih x4_17 v49_42 v267_109 values__20 (by omega) (by omega) (by omega) (by omega) (by omega)
                          · skip
                            have c234 := neI h228
                            refine Sf_nmI (fun v200_100 hv235 => ?_)
                            have g236 := rgI v200_100
                            first | have q237 := (eqI hv235).trans (adN x4_17 (-1) (-1) (by decide) (by omega) (by omega)) | skip
                            refine Sf_nmI (fun v267_104 hv238 => ?_)
                            have g239 := rgI (x6_19 + 1)
                            first | have e240 := adN x6_19 1 (1) (by decide) (by omega) (by omega) | skip
                            have q241 := eqI hv238
                            exact ih v200_100 x5_18 v267_104 values__20 (by omega) (by omega) (by omega) (by omega) (by omega)
                      · skip
                        have l242 : (0 : Int32).toInt = 0 := by decide
                        have c243 := neI h208
                        rw [f_X5_reckon_J178]
                        refine Sf_ite (fun h244 => ?_) (fun h244 => ?_)
                        · skip
                          have c245 := eqI h244
                          rw [f_X5_reckon_J190]
                          refine Sf_ite (fun h246 => ?_) (fun h246 => ?_)
                          · skip
                            have c247 := eqI h246
                            refine Sf_nmI (fun v267_109 hv248 => ?_)
                            have g249 := rgI (x6_19 + 1)
                            first | have e250 := adN x6_19 1 (1) (by decide) (by omega) (by omega) | skip
                            have q251 := eqI hv248
                            exact ih x4_17 v49_42 v267_109 values__20 (by omega) (by omega) (by omega) (by omega) (by omega)
                          · skip
                            have c252 := neI h246
                            refine Sf_nmI (fun v200_100 hv253 => ?_)
                            have g254 := rgI v200_100
                            first | have q255 := (eqI hv253).trans (adN x4_17 (-1) (-1) (by decide) (by omega) (by omega)) | skip
                            refine Sf_nmI (fun v267_104 hv256 => ?_)
                            have g257 := rgI (x6_19 + 1)
                            first | have e258 := adN x6_19 1 (1) (by decide) (by omega) (by omega) | skip
                            have q259 := eqI hv256
                            exact ih v200_100 x5_18 v267_104 values__20 (by omega) (by omega) (by omega) (by omega) (by omega)
                        · skip
                          have c260 := neI h244
                          rw [f_X5_reckon_J190]
                          refine Sf_ite (fun h261 => ?_) (fun h261 => ?_)
                          · skip
                            have c262 := eqI h261
                            refine Sf_nmI (fun v267_109 hv263 => ?_)
                            have g264 := rgI (x6_19 + 1)
                            first | have e265 := adN x6_19 1 (1) (by decide) (by omega) (by omega) | skip
                            have q266 := eqI hv263
                            exact ih x4_17 v49_42 v267_109 values__20 (by omega) (by omega) (by omega) (by omega) (by omega)
                          · skip
                            have c267 := neI h261
                            refine Sf_nmI (fun v200_100 hv268 => ?_)
                            have g269 := rgI v200_100
                            first | have q270 := (eqI hv268).trans (adN x4_17 (-1) (-1) (by decide) (by omega) (by omega)) | skip
                            refine Sf_nmI (fun v267_104 hv271 => ?_)
                            have g272 := rgI (x6_19 + 1)
                            first | have e273 := adN x6_19 1 (1) (by decide) (by omega) (by omega) | skip
                            have q274 := eqI hv271
                            exact ih v200_100 x5_18 v267_104 values__20 (by omega) (by omega) (by omega) (by omega) (by omega)
                    · skip
                      have l275 : (124 : Int32).toInt = 124 := by decide
                      have c276 := neI h201
                      refine Sf_ite (fun h277 => ?_) (fun h277 => ?_)
                      · skip
                        have l278 : (2 : Int32).toInt = 2 := by decide
                        have c279 := ltI h277
                        exact Sf_some trivial
                      · skip
                        have l280 : (2 : Int32).toInt = 2 := by decide
                        have c281 := nltI h277
                        refine Sf_cb1 (s_X5_isDivision v40_34 ) (fun r214_130 hp282 => ?_)
                        have hp282 : ((r214_130.toInt = 0 ∨ r214_130.toInt = 1)) := hp282
                        have g283 := rgI r214_130
                        refine Sf_ite (fun h284 => ?_) (fun h284 => ?_)
                        · skip
                          have l285 : (0 : Int32).toInt = 0 := by decide
                          have c286 := eqI h284
                          rw [f_X5_reckon_J234]
                          refine Sf_nmI (fun v234_135 hv287 => ?_)
                          have g288 := rgI v234_135
                          first | have q289 := (eqI hv287).trans (adN x4_17 (-1) (-1) (by decide) (by omega) (by omega)) | skip
                          have g290 := rgI (v234_135 - 1)
                          first | have e291 := sbN v234_135 1 (1) (by decide) (by omega) (by omega) | skip
                          refine Sf_rdI (by omega) (by omega) (fun v255_139 hv292 => ?_)
                          have g293 := rgI v255_139
                          refine Sf_rdI (by omega) (by omega) (fun v262_143 hv294 => ?_)
                          have g295 := rgI v262_143
                          refine Sf_cb1 (s_X5_joined v40_34 v255_139 v262_143 ) (fun r263_147 hp296 => ?_)
                          have g297 := rgI r263_147
                          refine Sf_wrI (by omega) (by omega) (fun g266_152 hw298 => ?_)
                          refine Sf_nmI (fun v267_157 hv299 => ?_)
                          have g300 := rgI (x6_19 + 1)
                          first | have e301 := adN x6_19 1 (1) (by decide) (by omega) (by omega) | skip
                          have q302 := eqI hv299
                          exact ih v234_135 x5_18 v267_157 g266_152 (by omega) (by omega) (by omega) (by omega) (by omega)
                        · skip
                          have l303 : (0 : Int32).toInt = 0 := by decide
                          have c304 := neI h284
                          have g305 := rgI (x4_17 - 1)
                          first | have e306 := sbN x4_17 1 (1) (by decide) (by omega) (by omega) | skip
                          refine Sf_rdI (by omega) (by omega) (fun v228_164 hv307 => ?_)
                          have g308 := rgI v228_164
                          refine Sf_ite (fun h309 => ?_) (fun h309 => ?_)
                          · skip
                            have c310 := eqI h309
                            exact Sf_some trivial
                          · skip
                            have c311 := neI h309
                            rw [f_X5_reckon_J234]
                            refine Sf_nmI (fun v234_135 hv312 => ?_)
                            have g313 := rgI v234_135
                            first | have q314 := (eqI hv312).trans (adN x4_17 (-1) (-1) (by decide) (by omega) (by omega)) | skip
                            have g315 := rgI (v234_135 - 1)
                            first | have e316 := sbN v234_135 1 (1) (by decide) (by omega) (by omega) | skip
                            refine Sf_rdI (by omega) (by omega) (fun v255_139 hv317 => ?_)
                            have g318 := rgI v255_139
                            refine Sf_rdI (by omega) (by omega) (fun v262_143 hv319 => ?_)
                            have g320 := rgI v262_143
                            refine Sf_cb1 (s_X5_joined v40_34 v255_139 v262_143 ) (fun r263_147 hp321 => ?_)
                            have g322 := rgI r263_147
                            refine Sf_wrI (by omega) (by omega) (fun g266_152 hw323 => ?_)
                            refine Sf_nmI (fun v267_157 hv324 => ?_)
                            have g325 := rgI (x6_19 + 1)
                            first | have e326 := adN x6_19 1 (1) (by decide) (by omega) (by omega) | skip
                            have q327 := eqI hv324
                            exact ih v234_135 x5_18 v267_157 g266_152 (by omega) (by omega) (by omega) (by omega) (by omega)
              · skip
                have l328 : (1 : Int32).toInt = 1 := by decide
                have c329 := nleI h100
                exact Sf_some trivial
        · skip
          have c330 := nleI h16
          refine Sf_nmI (fun v267_191 hv331 => ?_)
          have g332 := rgI (x6_19 + 1)
          first | have e333 := adN x6_19 1 (1) (by decide) (by omega) (by omega) | skip
          have q334 := eqI hv331
          exact ih x4_17 x5_18 v267_191 values__20 (by omega) (by omega) (by omega) (by omega) (by omega)
set_option maxHeartbeats 4000000 in
set_option maxRecDepth 100000 in
theorem s_X5_reckon (n_p1 : Nat) (s_p1 : Nat → Int32) (s_letters : Nat → Int32) (s_values : Nat → Int32) (p2 : Int32) (p3 : Int32) (hp0 : n_p1 ≤ 120) (hp1 : 0 ≤ p2.toInt) (hp2 : p2.toInt ≤ 120) : Sf (f_X5_reckon n_p1 s_p1 s_letters s_values p2 p3) (fun (y : Int32 × (Nat → Int32)) => True) := by
  have g1 := rgI p2
  have g2 := rgI p3
  have hFU : (100000 : Int) ≤ (FU : Int) := Int.ofNat_le.mpr FU_ge
  rw [f_X5_reckon]
  have l3 : (0 : Int32).toInt = 0 := by decide
  refine s_X5_reckon_L9 n_p1 s_p1 s_letters p3 f_X5_reckon_J273 (by omega) ?_ FU 0 p2 p2 s_values (by omega) (by omega) (by omega) (by omega) (by omega)
  · intro z4 z5 hk6 hk7
    have g8 := rgI z4
    have hk6 : 0 ≤ z4.toInt := hk6
    have hk7 : z4.toInt ≤ 32 := hk7
    rw [f_X5_reckon_J273]
    refine Sf_ite (fun h9 => ?_) (fun h9 => ?_)
    · skip
      have l10 : (1 : Int32).toInt = 1 := by decide
      have c11 := eqI h9
      refine Sf_rdI (by omega) (by omega) (fun v284_11 hv12 => ?_)
      have g13 := rgI v284_11
      exact Sf_some trivial
    · skip
      have l14 : (1 : Int32).toInt = 1 := by decide
      have c15 := neI h9
      exact Sf_some trivial
set_option maxHeartbeats 4000000 in
set_option maxRecDepth 100000 in
theorem s_X5_firstThatHolds_L2 (s_p1_clauses : Int32) (n_p1_code : Nat) (s_p1_code : Nat → Int32) (n_p1_middles : Nat) (s_p1_middles : Nat → Int32) (n_p1_starts : Nat) (s_p1_starts : Nat → Int32) (s_letters : Nat → Int32) (hp0 : n_p1_code ≤ 120) (hp1 : (n_p1_middles : Int) = s_p1_clauses.toInt) (hp2 : (n_p1_starts : Int) = s_p1_clauses.toInt + 1) (hp3 : 0 ≤ s_p1_clauses.toInt) (hp4 : s_p1_clauses.toInt ≤ 12) (hp5 : ∀ j, 0 ≤ (s_p1_middles j).toInt ∧ (s_p1_middles j).toInt ≤ 120) (hp6 : ∀ j, 0 ≤ (s_p1_starts j).toInt ∧ (s_p1_starts j).toInt ≤ 120) : ∀ (n : Nat) (x2_2 : Int32) (values__3 : Nat → Int32), (0 ≤ x2_2.toInt) → (x2_2.toInt ≤ 13) → (14 - x2_2.toInt < (n : Int)) → Sf (f_X5_firstThatHolds_L2 s_p1_clauses n_p1_code s_p1_code n_p1_middles s_p1_middles n_p1_starts s_p1_starts s_letters n x2_2 values__3) (fun (y : Int32 × (Nat → Int32)) => ((y.1).toInt = -1 ∨ (0 ≤ (y.1).toInt ∧ (y.1).toInt < s_p1_clauses.toInt))) := by
  have hFU : (100000 : Int) ≤ (FU : Int) := Int.ofNat_le.mpr FU_ge
  have g1 := rgI s_p1_clauses
  intro n
  induction n with
  | zero =>
    intro x2_2 values__3 hi0 hi1 hm
    have g2 := rgI x2_2
    exact absurd hm (by omega)
  | succ n ih =>
    intro x2_2 values__3 hi0 hi1 hm
    rw [f_X5_firstThatHolds_L2]
    have g3 := rgI x2_2
    refine Sf_ite (fun h4 => ?_) (fun h4 => ?_)
    · skip
      have c5 := leI h4
      have l6 : ((-1) : Int32).toInt = -1 := by decide
      refine Sf_some (show ((-1 : Int32).toInt = -1 ∨ (0 ≤ (-1 : Int32).toInt ∧ (-1 : Int32).toInt < s_p1_clauses.toInt)) from ?_)
      (omega)
    · skip
      have c7 := nleI h4
      refine Sf_rdI (by omega) (by omega) (fun v20_9 hv8 => ?_)
      have g9 := rgI v20_9
      have hmid_v20_9 := hp5 (Int32.toNatClampNeg x2_2); rw [← hv8] at hmid_v20_9
      have g10 := rgI (x2_2 + 1)
      first | have e11 := adN x2_2 1 (1) (by decide) (by omega) (by omega) | skip
      refine Sf_rdI (by omega) (by omega) (fun v28_13 hv12 => ?_)
      have g13 := rgI v28_13
      have hst_v28_13 := hp6 (Int32.toNatClampNeg (x2_2 + 1)); rw [← hv12] at hst_v28_13
      refine Sf_cb2 (s_X5_reckon n_p1_code s_p1_code s_letters values__3 v20_9 v28_13 (by omega) (by omega) (by omega)) (fun r29_17 o_values29_18 hp14 => ?_)
      have g15 := rgI r29_17
      refine Sf_ite (fun h16 => ?_) (fun h16 => ?_)
      · skip
        have l17 : (0 : Int32).toInt = 0 := by decide
        have c18 := eqI h16
        refine Sf_nmI (fun v37_26 hv19 => ?_)
        have q20 := eqI hv19
        exact ih v37_26 o_values29_18 (by omega) (by omega) (by omega)
      · skip
        have l21 : (0 : Int32).toInt = 0 := by decide
        have c22 := neI h16
        refine Sf_some (show (x2_2.toInt = -1 ∨ (0 ≤ x2_2.toInt ∧ x2_2.toInt < s_p1_clauses.toInt)) from ?_)
        (omega)
set_option maxHeartbeats 4000000 in
set_option maxRecDepth 100000 in
theorem s_X5_firstThatHolds (n_p1_code : Nat) (n_p1_middles : Nat) (n_p1_starts : Nat) (s_p1_clauses : Int32) (s_p1_code : Nat → Int32) (s_p1_middles : Nat → Int32) (s_p1_starts : Nat → Int32) (s_letters : Nat → Int32) (s_values : Nat → Int32) (hp0 : n_p1_code ≤ 120) (hp1 : (n_p1_middles : Int) = s_p1_clauses.toInt) (hp2 : (n_p1_starts : Int) = s_p1_clauses.toInt + 1) (hp3 : 0 ≤ s_p1_clauses.toInt) (hp4 : s_p1_clauses.toInt ≤ 12) (hp5 : ∀ j, 0 ≤ (s_p1_middles j).toInt ∧ (s_p1_middles j).toInt ≤ 120) (hp6 : ∀ j, 0 ≤ (s_p1_starts j).toInt ∧ (s_p1_starts j).toInt ≤ 120) : Sf (f_X5_firstThatHolds n_p1_code n_p1_middles n_p1_starts s_p1_clauses s_p1_code s_p1_middles s_p1_starts s_letters s_values) (fun (y : Int32 × (Nat → Int32)) => ((y.1).toInt = -1 ∨ (0 ≤ (y.1).toInt ∧ (y.1).toInt < s_p1_clauses.toInt))) := by
  have g1 := rgI s_p1_clauses
  have hFU : (100000 : Int) ≤ (FU : Int) := Int.ofNat_le.mpr FU_ge
  rw [f_X5_firstThatHolds]
  have l2 : (0 : Int32).toInt = 0 := by decide
  refine s_X5_firstThatHolds_L2 s_p1_clauses n_p1_code s_p1_code n_p1_middles s_p1_middles n_p1_starts s_p1_starts s_letters (by omega) (by omega) (by omega) (by omega) (by omega) (by assumption) (by assumption)  FU 0 s_values (by omega) (by omega) (by omega)
set_option maxHeartbeats 4000000 in
set_option maxRecDepth 100000 in
theorem s_X5_worth (n_p1_code : Nat) (n_p1_middles : Nat) (n_p1_starts : Nat) (s_p1_code : Nat → Int32) (s_p1_middles : Nat → Int32) (s_p1_starts : Nat → Int32) (s_letters : Nat → Int32) (s_values : Nat → Int32) (p2 : Int32) (hp0 : n_p1_code ≤ 120) (hp1 : 0 ≤ p2.toInt) (hp2 : p2.toInt < n_p1_middles) (hp3 : p2.toInt < n_p1_starts) (hp4 : ∀ j, 0 ≤ (s_p1_middles j).toInt ∧ (s_p1_middles j).toInt ≤ 120) (hp5 : ∀ j, 0 ≤ (s_p1_starts j).toInt ∧ (s_p1_starts j).toInt ≤ 120) : Sf (f_X5_worth n_p1_code n_p1_middles n_p1_starts s_p1_code s_p1_middles s_p1_starts s_letters s_values p2) (fun (y : Int32 × (Nat → Int32)) => True) := by
  have g1 := rgI p2
  have hFU : (100000 : Int) ≤ (FU : Int) := Int.ofNat_le.mpr FU_ge
  rw [f_X5_worth]
  refine Sf_rdI (by omega) (by omega) (fun v10_1 hv2 => ?_)
  have g3 := rgI v10_1
  have hst_v10_1 := hp5 (Int32.toNatClampNeg p2); rw [← hv2] at hst_v10_1
  refine Sf_rdI (by omega) (by omega) (fun v16_5 hv4 => ?_)
  have g5 := rgI v16_5
  have hmid_v16_5 := hp4 (Int32.toNatClampNeg p2); rw [← hv4] at hmid_v16_5
  refine Sf_cb2 (s_X5_reckon n_p1_code s_p1_code s_letters s_values v10_1 v16_5 (by omega) (by omega) (by omega)) (fun r17_9 o_values17_10 hp6 => ?_)
  have g7 := rgI r17_9
  exact Sf_some trivial
set_option maxHeartbeats 4000000 in
set_option maxRecDepth 100000 in
theorem s_X8_comesOn (s_weekdays : Int32) (p1 : Int32)  : Sf (f_X8_comesOn s_weekdays p1) (fun (y : Int32) => ((y.toInt = 0 ∨ y.toInt = 1))) := by
  have g1 := rgI s_weekdays
  have g2 := rgI p1
  have hFU : (100000 : Int) ≤ (FU : Int) := Int.ofNat_le.mpr FU_ge
  rw [f_X8_comesOn]
  refine Sf_ite (fun h3 => ?_) (fun h3 => ?_)
  · skip
    have l4 : (7 : Int32).toInt = 7 := by decide
    have g5 := rgI (jrem p1 7)
    have m6 := rm_ p1 7 (by decide)
    have g7 := rgI (jshr s_weekdays (jrem p1 7))
    have l8 : (1 : Int32).toInt = 1 := by decide
    have a9 := an_ (jshr s_weekdays (jrem p1 7)) 1 (by decide)
    have c10 := eqI h3
    refine Sf_some (show (((1 : Int32).toInt = 0 ∨ (1 : Int32).toInt = 1)) from ?_)
    (omega)
  · skip
    have l11 : (7 : Int32).toInt = 7 := by decide
    have g12 := rgI (jrem p1 7)
    have m13 := rm_ p1 7 (by decide)
    have g14 := rgI (jshr s_weekdays (jrem p1 7))
    have l15 : (1 : Int32).toInt = 1 := by decide
    have a16 := an_ (jshr s_weekdays (jrem p1 7)) 1 (by decide)
    have c17 := neI h3
    have l18 : (0 : Int32).toInt = 0 := by decide
    refine Sf_some (show (((0 : Int32).toInt = 0 ∨ (0 : Int32).toInt = 1)) from ?_)
    (omega)
set_option maxHeartbeats 4000000 in
set_option maxRecDepth 100000 in
theorem s_X11_isDay (p1 : Int32)  : Sf (f_X11_isDay p1) (fun (y : Int32) => ((y.toInt = 0 ∨ y.toInt = 1)) ∧ ((y.toInt = 1 ∧ 0 ≤ p1.toInt ∧ p1.toInt ≤ 399) ∨ (y.toInt = 0 ∧ (p1.toInt < 0 ∨ 399 < p1.toInt)))) := by
  have g1 := rgI p1
  have hFU : (100000 : Int) ≤ (FU : Int) := Int.ofNat_le.mpr FU_ge
  rw [f_X11_isDay]
  have l2 : (0 : Int32).toInt = 0 := by decide
  have l3 : (399 : Int32).toInt = 399 := by decide
  refine Sf_cb1 (s_X11_isWithin p1 0 399 ) (fun r5_1 hp4 => ?_)
  have hp4 : ((r5_1.toInt = 0 ∨ r5_1.toInt = 1)) ∧ ((r5_1.toInt = 1 ∧ (0 : Int32).toInt ≤ p1.toInt ∧ p1.toInt ≤ (399 : Int32).toInt) ∨ (r5_1.toInt = 0 ∧ (p1.toInt < (0 : Int32).toInt ∨ (399 : Int32).toInt < p1.toInt))) := hp4
  obtain ⟨hq5, hq6⟩ := hp4
  have g7 := rgI r5_1
  refine Sf_bo (by omega) ?_
  refine Sf_some (show ((r5_1.toInt = 0 ∨ r5_1.toInt = 1)) ∧ ((r5_1.toInt = 1 ∧ 0 ≤ p1.toInt ∧ p1.toInt ≤ 399) ∨ (r5_1.toInt = 0 ∧ (p1.toInt < 0 ∨ 399 < p1.toInt))) from ?_)
  refine ⟨?_, ?_⟩ <;> (omega)
set_option maxHeartbeats 4000000 in
set_option maxRecDepth 100000 in
theorem s_X11_isMinute (p1 : Int32)  : Sf (f_X11_isMinute p1) (fun (y : Int32) => ((y.toInt = 0 ∨ y.toInt = 1)) ∧ ((y.toInt = 1 ∧ 0 ≤ p1.toInt ∧ p1.toInt ≤ 1439) ∨ (y.toInt = 0 ∧ (p1.toInt < 0 ∨ 1439 < p1.toInt)))) := by
  have g1 := rgI p1
  have hFU : (100000 : Int) ≤ (FU : Int) := Int.ofNat_le.mpr FU_ge
  rw [f_X11_isMinute]
  have l2 : (0 : Int32).toInt = 0 := by decide
  have l3 : (1439 : Int32).toInt = 1439 := by decide
  refine Sf_cb1 (s_X11_isWithin p1 0 1439 ) (fun r5_1 hp4 => ?_)
  have hp4 : ((r5_1.toInt = 0 ∨ r5_1.toInt = 1)) ∧ ((r5_1.toInt = 1 ∧ (0 : Int32).toInt ≤ p1.toInt ∧ p1.toInt ≤ (1439 : Int32).toInt) ∨ (r5_1.toInt = 0 ∧ (p1.toInt < (0 : Int32).toInt ∨ (1439 : Int32).toInt < p1.toInt))) := hp4
  obtain ⟨hq5, hq6⟩ := hp4
  have g7 := rgI r5_1
  refine Sf_bo (by omega) ?_
  refine Sf_some (show ((r5_1.toInt = 0 ∨ r5_1.toInt = 1)) ∧ ((r5_1.toInt = 1 ∧ 0 ≤ p1.toInt ∧ p1.toInt ≤ 1439) ∨ (r5_1.toInt = 0 ∧ (p1.toInt < 0 ∨ 1439 < p1.toInt))) from ?_)
  refine ⟨?_, ?_⟩ <;> (omega)
set_option maxHeartbeats 4000000 in
set_option maxRecDepth 100000 in
theorem s_X11_isShape (p1 : Int32)  : Sf (f_X11_isShape p1) (fun (y : Int32) => ((y.toInt = 0 ∨ y.toInt = 1)) ∧ ((y.toInt = 1 ∧ 0 ≤ p1.toInt ∧ p1.toInt ≤ 3) ∨ (y.toInt = 0 ∧ (p1.toInt < 0 ∨ 3 < p1.toInt)))) := by
  have g1 := rgI p1
  have hFU : (100000 : Int) ≤ (FU : Int) := Int.ofNat_le.mpr FU_ge
  rw [f_X11_isShape]
  have l2 : (0 : Int32).toInt = 0 := by decide
  have l3 : (3 : Int32).toInt = 3 := by decide
  refine Sf_cb1 (s_X11_isWithin p1 0 3 ) (fun r3_1 hp4 => ?_)
  have hp4 : ((r3_1.toInt = 0 ∨ r3_1.toInt = 1)) ∧ ((r3_1.toInt = 1 ∧ (0 : Int32).toInt ≤ p1.toInt ∧ p1.toInt ≤ (3 : Int32).toInt) ∨ (r3_1.toInt = 0 ∧ (p1.toInt < (0 : Int32).toInt ∨ (3 : Int32).toInt < p1.toInt))) := hp4
  obtain ⟨hq5, hq6⟩ := hp4
  have g7 := rgI r3_1
  refine Sf_bo (by omega) ?_
  refine Sf_some (show ((r3_1.toInt = 0 ∨ r3_1.toInt = 1)) ∧ ((r3_1.toInt = 1 ∧ 0 ≤ p1.toInt ∧ p1.toInt ≤ 3) ∨ (r3_1.toInt = 0 ∧ (p1.toInt < 0 ∨ 3 < p1.toInt))) from ?_)
  refine ⟨?_, ?_⟩ <;> (omega)
set_option maxHeartbeats 4000000 in
set_option maxRecDepth 100000 in
theorem s_X11_isReader (p1 : Int32)  : Sf (f_X11_isReader p1) (fun (y : Int32) => ((y.toInt = 0 ∨ y.toInt = 1)) ∧ ((y.toInt = 1 ∧ 0 ≤ p1.toInt ∧ p1.toInt ≤ 3) ∨ (y.toInt = 0 ∧ (p1.toInt < 0 ∨ 3 < p1.toInt)))) := by
  have g1 := rgI p1
  have hFU : (100000 : Int) ≤ (FU : Int) := Int.ofNat_le.mpr FU_ge
  rw [f_X11_isReader]
  have l2 : (0 : Int32).toInt = 0 := by decide
  have l3 : (3 : Int32).toInt = 3 := by decide
  refine Sf_cb1 (s_X11_isWithin p1 0 3 ) (fun r3_1 hp4 => ?_)
  have hp4 : ((r3_1.toInt = 0 ∨ r3_1.toInt = 1)) ∧ ((r3_1.toInt = 1 ∧ (0 : Int32).toInt ≤ p1.toInt ∧ p1.toInt ≤ (3 : Int32).toInt) ∨ (r3_1.toInt = 0 ∧ (p1.toInt < (0 : Int32).toInt ∨ (3 : Int32).toInt < p1.toInt))) := hp4
  obtain ⟨hq5, hq6⟩ := hp4
  have g7 := rgI r3_1
  refine Sf_bo (by omega) ?_
  refine Sf_some (show ((r3_1.toInt = 0 ∨ r3_1.toInt = 1)) ∧ ((r3_1.toInt = 1 ∧ 0 ≤ p1.toInt ∧ p1.toInt ≤ 3) ∨ (r3_1.toInt = 0 ∧ (p1.toInt < 0 ∨ 3 < p1.toInt))) from ?_)
  refine ⟨?_, ?_⟩ <;> (omega)
set_option maxHeartbeats 4000000 in
set_option maxRecDepth 100000 in
theorem s_X11_isStory (p1 : Int32)  : Sf (f_X11_isStory p1) (fun (y : Int32) => ((y.toInt = 0 ∨ y.toInt = 1)) ∧ ((y.toInt = 1 ∧ 0 ≤ p1.toInt ∧ p1.toInt ≤ 5) ∨ (y.toInt = 0 ∧ (p1.toInt < 0 ∨ 5 < p1.toInt)))) := by
  have g1 := rgI p1
  have hFU : (100000 : Int) ≤ (FU : Int) := Int.ofNat_le.mpr FU_ge
  rw [f_X11_isStory]
  have l2 : (0 : Int32).toInt = 0 := by decide
  have l3 : (5 : Int32).toInt = 5 := by decide
  refine Sf_cb1 (s_X11_isWithin p1 0 5 ) (fun r3_1 hp4 => ?_)
  have hp4 : ((r3_1.toInt = 0 ∨ r3_1.toInt = 1)) ∧ ((r3_1.toInt = 1 ∧ (0 : Int32).toInt ≤ p1.toInt ∧ p1.toInt ≤ (5 : Int32).toInt) ∨ (r3_1.toInt = 0 ∧ (p1.toInt < (0 : Int32).toInt ∨ (5 : Int32).toInt < p1.toInt))) := hp4
  obtain ⟨hq5, hq6⟩ := hp4
  have g7 := rgI r3_1
  refine Sf_bo (by omega) ?_
  refine Sf_some (show ((r3_1.toInt = 0 ∨ r3_1.toInt = 1)) ∧ ((r3_1.toInt = 1 ∧ 0 ≤ p1.toInt ∧ p1.toInt ≤ 5) ∨ (r3_1.toInt = 0 ∧ (p1.toInt < 0 ∨ 5 < p1.toInt))) from ?_)
  refine ⟨?_, ?_⟩ <;> (omega)
set_option maxHeartbeats 4000000 in
set_option maxRecDepth 100000 in
theorem s_X11_isBeat (p1 : Int32)  : Sf (f_X11_isBeat p1) (fun (y : Int32) => ((y.toInt = 0 ∨ y.toInt = 1)) ∧ ((y.toInt = 1 ∧ 1 ≤ p1.toInt ∧ p1.toInt ≤ 1000000) ∨ (y.toInt = 0 ∧ (p1.toInt < 1 ∨ 1000000 < p1.toInt)))) := by
  have g1 := rgI p1
  have hFU : (100000 : Int) ≤ (FU : Int) := Int.ofNat_le.mpr FU_ge
  rw [f_X11_isBeat]
  have l2 : (1 : Int32).toInt = 1 := by decide
  have l3 : (1000000 : Int32).toInt = 1000000 := by decide
  refine Sf_cb1 (s_X11_isWithin p1 1 1000000 ) (fun r5_1 hp4 => ?_)
  have hp4 : ((r5_1.toInt = 0 ∨ r5_1.toInt = 1)) ∧ ((r5_1.toInt = 1 ∧ (1 : Int32).toInt ≤ p1.toInt ∧ p1.toInt ≤ (1000000 : Int32).toInt) ∨ (r5_1.toInt = 0 ∧ (p1.toInt < (1 : Int32).toInt ∨ (1000000 : Int32).toInt < p1.toInt))) := hp4
  obtain ⟨hq5, hq6⟩ := hp4
  have g7 := rgI r5_1
  refine Sf_bo (by omega) ?_
  refine Sf_some (show ((r5_1.toInt = 0 ∨ r5_1.toInt = 1)) ∧ ((r5_1.toInt = 1 ∧ 1 ≤ p1.toInt ∧ p1.toInt ≤ 1000000) ∨ (r5_1.toInt = 0 ∧ (p1.toInt < 1 ∨ 1000000 < p1.toInt))) from ?_)
  refine ⟨?_, ?_⟩ <;> (omega)
set_option maxHeartbeats 4000000 in
set_option maxRecDepth 100000 in
theorem s_X11_isNightError (p1 : Int32)  : Sf (f_X11_isNightError p1) (fun (y : Int32) => ((y.toInt = 0 ∨ y.toInt = 1)) ∧ ((y.toInt = 1 ∧ 0 ≤ p1.toInt ∧ p1.toInt ≤ 100000) ∨ (y.toInt = 0 ∧ (p1.toInt < 0 ∨ 100000 < p1.toInt)))) := by
  have g1 := rgI p1
  have hFU : (100000 : Int) ≤ (FU : Int) := Int.ofNat_le.mpr FU_ge
  rw [f_X11_isNightError]
  have l2 : (0 : Int32).toInt = 0 := by decide
  have l3 : (100000 : Int32).toInt = 100000 := by decide
  refine Sf_cb1 (s_X11_isWithin p1 0 100000 ) (fun r4_1 hp4 => ?_)
  have hp4 : ((r4_1.toInt = 0 ∨ r4_1.toInt = 1)) ∧ ((r4_1.toInt = 1 ∧ (0 : Int32).toInt ≤ p1.toInt ∧ p1.toInt ≤ (100000 : Int32).toInt) ∨ (r4_1.toInt = 0 ∧ (p1.toInt < (0 : Int32).toInt ∨ (100000 : Int32).toInt < p1.toInt))) := hp4
  obtain ⟨hq5, hq6⟩ := hp4
  have g7 := rgI r4_1
  refine Sf_bo (by omega) ?_
  refine Sf_some (show ((r4_1.toInt = 0 ∨ r4_1.toInt = 1)) ∧ ((r4_1.toInt = 1 ∧ 0 ≤ p1.toInt ∧ p1.toInt ≤ 100000) ∨ (r4_1.toInt = 0 ∧ (p1.toInt < 0 ∨ 100000 < p1.toInt))) from ?_)
  refine ⟨?_, ?_⟩ <;> (omega)
set_option maxHeartbeats 4000000 in
set_option maxRecDepth 100000 in
theorem s_X11_isLook (p1 : Int32) (p2 : Int32) (p3 : Int32)  : Sf (f_X11_isLook p1 p2 p3) (fun (y : Int32) => ((y.toInt = 0 ∨ y.toInt = 1)) ∧ (y.toInt = 0 ∨ (0 ≤ p1.toInt ∧ p1.toInt ≤ 20 ∧ 0 ≤ p2.toInt ∧ p2.toInt ≤ 20 ∧ 0 ≤ p3.toInt ∧ p3.toInt ≤ p1.toInt ∧ p3.toInt ≤ p2.toInt))) := by
  have g1 := rgI p1
  have g2 := rgI p2
  have g3 := rgI p3
  have hFU : (100000 : Int) ≤ (FU : Int) := Int.ofNat_le.mpr FU_ge
  rw [f_X11_isLook]
  have l4 : (0 : Int32).toInt = 0 := by decide
  have l5 : (20 : Int32).toInt = 20 := by decide
  refine Sf_cb1 (s_X11_isWithin p1 0 20 ) (fun r4_1 hp6 => ?_)
  have hp6 : ((r4_1.toInt = 0 ∨ r4_1.toInt = 1)) ∧ ((r4_1.toInt = 1 ∧ (0 : Int32).toInt ≤ p1.toInt ∧ p1.toInt ≤ (20 : Int32).toInt) ∨ (r4_1.toInt = 0 ∧ (p1.toInt < (0 : Int32).toInt ∨ (20 : Int32).toInt < p1.toInt))) := hp6
  obtain ⟨hq7, hq8⟩ := hp6
  have g9 := rgI r4_1
  refine Sf_ite (fun h10 => ?_) (fun h10 => ?_)
  · skip
    have c11 := eqI h10
    refine Sf_some (show (((0 : Int32).toInt = 0 ∨ (0 : Int32).toInt = 1)) ∧ ((0 : Int32).toInt = 0 ∨ (0 ≤ p1.toInt ∧ p1.toInt ≤ 20 ∧ 0 ≤ p2.toInt ∧ p2.toInt ≤ 20 ∧ 0 ≤ p3.toInt ∧ p3.toInt ≤ p1.toInt ∧ p3.toInt ≤ p2.toInt)) from ?_)
    refine ⟨?_, ?_⟩ <;> (omega)
  · skip
    have c12 := neI h10
    refine Sf_cb1 (s_X11_isWithin p2 0 20 ) (fun r14_10 hp13 => ?_)
    have hp13 : ((r14_10.toInt = 0 ∨ r14_10.toInt = 1)) ∧ ((r14_10.toInt = 1 ∧ (0 : Int32).toInt ≤ p2.toInt ∧ p2.toInt ≤ (20 : Int32).toInt) ∨ (r14_10.toInt = 0 ∧ (p2.toInt < (0 : Int32).toInt ∨ (20 : Int32).toInt < p2.toInt))) := hp13
    obtain ⟨hq14, hq15⟩ := hp13
    have g16 := rgI r14_10
    refine Sf_ite (fun h17 => ?_) (fun h17 => ?_)
    · skip
      have c18 := eqI h17
      refine Sf_some (show (((0 : Int32).toInt = 0 ∨ (0 : Int32).toInt = 1)) ∧ ((0 : Int32).toInt = 0 ∨ (0 ≤ p1.toInt ∧ p1.toInt ≤ 20 ∧ 0 ≤ p2.toInt ∧ p2.toInt ≤ 20 ∧ 0 ≤ p3.toInt ∧ p3.toInt ≤ p1.toInt ∧ p3.toInt ≤ p2.toInt)) from ?_)
      refine ⟨?_, ?_⟩ <;> (omega)
    · skip
      have c19 := neI h17
      have g20 := rgI (jmin p1 p2)
      have m21 := jmin_ p1 p2
      refine Sf_cb1 (s_X11_isWithin p3 0 (jmin p1 p2) ) (fun r27_19 hp22 => ?_)
      have hp22 : ((r27_19.toInt = 0 ∨ r27_19.toInt = 1)) ∧ ((r27_19.toInt = 1 ∧ (0 : Int32).toInt ≤ p3.toInt ∧ p3.toInt ≤ (jmin p1 p2).toInt) ∨ (r27_19.toInt = 0 ∧ (p3.toInt < (0 : Int32).toInt ∨ (jmin p1 p2).toInt < p3.toInt))) := hp22
      obtain ⟨hq23, hq24⟩ := hp22
      have g25 := rgI r27_19
      refine Sf_ite (fun h26 => ?_) (fun h26 => ?_)
      · skip
        have c27 := eqI h26
        refine Sf_some (show (((0 : Int32).toInt = 0 ∨ (0 : Int32).toInt = 1)) ∧ ((0 : Int32).toInt = 0 ∨ (0 ≤ p1.toInt ∧ p1.toInt ≤ 20 ∧ 0 ≤ p2.toInt ∧ p2.toInt ≤ 20 ∧ 0 ≤ p3.toInt ∧ p3.toInt ≤ p1.toInt ∧ p3.toInt ≤ p2.toInt)) from ?_)
        refine ⟨?_, ?_⟩ <;> (omega)
      · skip
        have c28 := neI h26
        have l29 : (1 : Int32).toInt = 1 := by decide
        refine Sf_some (show (((1 : Int32).toInt = 0 ∨ (1 : Int32).toInt = 1)) ∧ ((1 : Int32).toInt = 0 ∨ (0 ≤ p1.toInt ∧ p1.toInt ≤ 20 ∧ 0 ≤ p2.toInt ∧ p2.toInt ≤ 20 ∧ 0 ≤ p3.toInt ∧ p3.toInt ≤ p1.toInt ∧ p3.toInt ≤ p2.toInt)) from ?_)
        refine ⟨?_, ?_⟩ <;> (omega)
set_option maxHeartbeats 4000000 in
set_option maxRecDepth 100000 in
theorem s_X11_starMinute (p1 : Int32) (p2 : Int32)  : Sf (f_X11_starMinute p1 p2) (fun (y : Int32) => True) := by
  have g1 := rgI p1
  have g2 := rgI p2
  have hFU : (100000 : Int) ≤ (FU : Int) := Int.ofNat_le.mpr FU_ge
  rw [f_X11_starMinute]
  exact Sf_some trivial
set_option maxHeartbeats 4000000 in
set_option maxRecDepth 100000 in
theorem s_X11_minutesApart (p1 : Int32) (p2 : Int32)  : Sf (f_X11_minutesApart p1 p2) (fun (y : Int32) => True) := by
  have g1 := rgI p1
  have g2 := rgI p2
  have hFU : (100000 : Int) ≤ (FU : Int) := Int.ofNat_le.mpr FU_ge
  rw [f_X11_minutesApart]
  refine Sf_nmI (fun v6_1 hv3 => ?_)
  have g4 := rgI (p1 - p2)
  first | have e5 := sbX p1 p2 (by omega) (by omega) | skip
  have g6 := rgI (jabs (p1 - p2))
  have q7 := eqI hv3
  exact Sf_some trivial
set_option maxHeartbeats 4000000 in
set_option maxRecDepth 100000 in
theorem s_X11_lieOnArcFrom_L3 (n_p2 : Nat) (s_p2 : Nat → Int32) (p1 : Int32) (p3 : Int32) (p4 : Int32) (p5 : Int32) (hp0 : p3.toInt ≤ n_p2) (hp1 : p3.toInt ≤ 40) : ∀ (n : Nat) (x5_2 : Int32), (0 ≤ x5_2.toInt) → (x5_2.toInt ≤ 41) → (42 - x5_2.toInt < (n : Int)) → Sf (f_X11_lieOnArcFrom_L3 n_p2 s_p2 p1 p3 p4 p5 n x5_2) (fun (y : Int32) => ((y.toInt = 0 ∨ y.toInt = 1))) := by
  have hFU : (100000 : Int) ≤ (FU : Int) := Int.ofNat_le.mpr FU_ge
  have g1 := rgI p1
  have g2 := rgI p3
  have g3 := rgI p4
  have g4 := rgI p5
  intro n
  induction n with
  | zero =>
    intro x5_2 hi0 hi1 hm
    have g5 := rgI x5_2
    exact absurd hm (by omega)
  | succ n ih =>
    intro x5_2 hi0 hi1 hm
    rw [f_X11_lieOnArcFrom_L3]
    have g6 := rgI x5_2
    refine Sf_ite (fun h7 => ?_) (fun h7 => ?_)
    · skip
      have c8 := leI h7
      have l9 : (1 : Int32).toInt = 1 := by decide
      refine Sf_some (show (((1 : Int32).toInt = 0 ∨ (1 : Int32).toInt = 1)) from ?_)
      (omega)
    · skip
      have c10 := nleI h7
      refine Sf_rdI (by omega) (by omega) (fun v12_7 hv11 => ?_)
      have g12 := rgI v12_7
      refine Sf_nmI (fun v15_11 hv13 => ?_)
      have g14 := rgI (v12_7 - p1)
      first | have e15 := sbX v12_7 p1 (by omega) (by omega) | skip
      have q16 := eqI hv13
      refine Sf_ite (fun h17 => ?_) (fun h17 => ?_)
      · skip
        have l18 : (0 : Int32).toInt = 0 := by decide
        have c19 := leI h17
        rw [f_X11_lieOnArcFrom_J31]
        refine Sf_ite (fun h20 => ?_) (fun h20 => ?_)
        · skip
          have c21 := leI h20
          refine Sf_nmI (fun v38_19 hv22 => ?_)
          have g23 := rgI (x5_2 + 1)
          first | have e24 := adN x5_2 1 (1) (by decide) (by omega) (by omega) | skip
          have q25 := eqI hv22
          exact ih v38_19 (by omega) (by omega) (by omega)
        · skip
          have c26 := nleI h20
          refine Sf_some (show (((0 : Int32).toInt = 0 ∨ (0 : Int32).toInt = 1)) from ?_)
          (omega)
      · skip
        have l27 : (0 : Int32).toInt = 0 := by decide
        have c28 := nleI h17
        rw [f_X11_lieOnArcFrom_J31]
        refine Sf_ite (fun h29 => ?_) (fun h29 => ?_)
        · skip
          have g30 := rgI (v15_11 + p4)
          first | have e31 := adX v15_11 p4 (by omega) (by omega) | skip
          have c32 := leI h29
          refine Sf_nmI (fun v38_19 hv33 => ?_)
          have g34 := rgI (x5_2 + 1)
          first | have e35 := adN x5_2 1 (1) (by decide) (by omega) (by omega) | skip
          have q36 := eqI hv33
          exact ih v38_19 (by omega) (by omega) (by omega)
        · skip
          have g37 := rgI (v15_11 + p4)
          first | have e38 := adX v15_11 p4 (by omega) (by omega) | skip
          have c39 := nleI h29
          refine Sf_some (show (((0 : Int32).toInt = 0 ∨ (0 : Int32).toInt = 1)) from ?_)
          (omega)
set_option maxHeartbeats 4000000 in
set_option maxRecDepth 100000 in
theorem s_X11_lieOnArcFrom (n_p2 : Nat) (s_p2 : Nat → Int32) (p1 : Int32) (p3 : Int32) (p4 : Int32) (p5 : Int32) (hp0 : p3.toInt ≤ n_p2) (hp1 : p3.toInt ≤ 40) : Sf (f_X11_lieOnArcFrom n_p2 s_p2 p1 p3 p4 p5) (fun (y : Int32) => ((y.toInt = 0 ∨ y.toInt = 1))) := by
  have g1 := rgI p1
  have g2 := rgI p3
  have g3 := rgI p4
  have g4 := rgI p5
  have hFU : (100000 : Int) ≤ (FU : Int) := Int.ofNat_le.mpr FU_ge
  rw [f_X11_lieOnArcFrom]
  have l5 : (0 : Int32).toInt = 0 := by decide
  refine s_X11_lieOnArcFrom_L3 n_p2 s_p2 p1 p3 p4 p5 (by omega) (by omega)  FU 0 (by omega) (by omega) (by omega)
set_option maxHeartbeats 4000000 in
set_option maxRecDepth 100000 in
theorem s_X11_lieOnArc_L3 (n_p1 : Nat) (s_p1 : Nat → Int32) (p2 : Int32) (p3 : Int32) (p4 : Int32) (hp0 : p2.toInt ≤ n_p1) (hp1 : p2.toInt ≤ 40) : ∀ (n : Nat) (x4_2 : Int32), (0 ≤ x4_2.toInt) → (x4_2.toInt ≤ 41) → (42 - x4_2.toInt < (n : Int)) → Sf (f_X11_lieOnArc_L3 n_p1 s_p1 p2 p3 p4 n x4_2) (fun (y : Int32) => ((y.toInt = 0 ∨ y.toInt = 1))) := by
  have hFU : (100000 : Int) ≤ (FU : Int) := Int.ofNat_le.mpr FU_ge
  have g1 := rgI p2
  have g2 := rgI p3
  have g3 := rgI p4
  intro n
  induction n with
  | zero =>
    intro x4_2 hi0 hi1 hm
    have g4 := rgI x4_2
    exact absurd hm (by omega)
  | succ n ih =>
    intro x4_2 hi0 hi1 hm
    rw [f_X11_lieOnArc_L3]
    have g5 := rgI x4_2
    refine Sf_ite (fun h6 => ?_) (fun h6 => ?_)
    · skip
      have c7 := leI h6
      have l8 : (0 : Int32).toInt = 0 := by decide
      refine Sf_some (show (((0 : Int32).toInt = 0 ∨ (0 : Int32).toInt = 1)) from ?_)
      (omega)
    · skip
      have c9 := nleI h6
      refine Sf_rdI (by omega) (by omega) (fun v12_7 hv10 => ?_)
      have g11 := rgI v12_7
      refine Sf_cb1 (s_X11_lieOnArcFrom n_p1 s_p1 v12_7 p2 p3 p4 (by omega) (by omega)) (fun r17_11 hp12 => ?_)
      have hp12 : ((r17_11.toInt = 0 ∨ r17_11.toInt = 1)) := hp12
      have g13 := rgI r17_11
      refine Sf_ite (fun h14 => ?_) (fun h14 => ?_)
      · skip
        have l15 : (0 : Int32).toInt = 0 := by decide
        have c16 := eqI h14
        refine Sf_nmI (fun v25_19 hv17 => ?_)
        have g18 := rgI (x4_2 + 1)
        first | have e19 := adN x4_2 1 (1) (by decide) (by omega) (by omega) | skip
        have q20 := eqI hv17
        exact ih v25_19 (by omega) (by omega) (by omega)
      · skip
        have l21 : (0 : Int32).toInt = 0 := by decide
        have c22 := neI h14
        have l23 : (1 : Int32).toInt = 1 := by decide
        refine Sf_some (show (((1 : Int32).toInt = 0 ∨ (1 : Int32).toInt = 1)) from ?_)
        (omega)
set_option maxHeartbeats 4000000 in
set_option maxRecDepth 100000 in
theorem s_X11_lieOnArc (n_p1 : Nat) (s_p1 : Nat → Int32) (p2 : Int32) (p3 : Int32) (p4 : Int32) (hp0 : p2.toInt ≤ n_p1) (hp1 : p2.toInt ≤ 40) : Sf (f_X11_lieOnArc n_p1 s_p1 p2 p3 p4) (fun (y : Int32) => ((y.toInt = 0 ∨ y.toInt = 1))) := by
  have g1 := rgI p2
  have g2 := rgI p3
  have g3 := rgI p4
  have hFU : (100000 : Int) ≤ (FU : Int) := Int.ofNat_le.mpr FU_ge
  rw [f_X11_lieOnArc]
  have l4 : (0 : Int32).toInt = 0 := by decide
  refine s_X11_lieOnArc_L3 n_p1 s_p1 p2 p3 p4 (by omega) (by omega)  FU 0 (by omega) (by omega) (by omega)
set_option maxHeartbeats 4000000 in
set_option maxRecDepth 100000 in
theorem s_X11_clausesOf (s_p1_clauses : Int32)  : Sf (f_X11_clausesOf s_p1_clauses) (fun (y : Int32) => True) := by
  have g1 := rgI s_p1_clauses
  have hFU : (100000 : Int) ≤ (FU : Int) := Int.ofNat_le.mpr FU_ge
  rw [f_X11_clausesOf]
  exact Sf_some trivial
set_option maxHeartbeats 4000000 in
set_option maxRecDepth 100000 in
theorem s_X11_clausesOf_N   : Sf (f_X11_clausesOf_N ) (fun (y : Int32) => True) := by
  have hFU : (100000 : Int) ≤ (FU : Int) := Int.ofNat_le.mpr FU_ge
  rw [f_X11_clausesOf_N]
  exact Sf_some trivial
set_option maxHeartbeats 4000000 in
set_option maxRecDepth 100000 in
theorem s_X7_luck (s_seed : Int32) (p1 : Int32) (p2 : Int32) (p3 : Int32)  : Sf (f_X7_luck s_seed p1 p2 p3) (fun (y : Int32) => True) := by
  have g1 := rgI s_seed
  have g2 := rgI p1
  have g3 := rgI p2
  have g4 := rgI p3
  have hFU : (100000 : Int) ≤ (FU : Int) := Int.ofNat_le.mpr FU_ge
  rw [f_X7_luck]
  refine Sf_nmI (fun v21_1 hv5 => ?_)
  have l6 : (1009 : Int32).toInt = 1009 := by decide
  have g7 := rgI (1009 * p2)
  first | have e8 := mlY 1009 p2 (1009) (by decide) (by omega) (by omega) | skip
  have g9 := rgI (s_seed + (1009 * p2))
  first | have e10 := adX s_seed (1009 * p2) (by omega) (by omega) | skip
  have l11 : (9176 : Int32).toInt = 9176 := by decide
  have g12 := rgI (9176 * p3)
  first | have e13 := mlY 9176 p3 (9176) (by decide) (by omega) (by omega) | skip
  have g14 := rgI ((s_seed + (1009 * p2)) + (9176 * p3))
  first | have e15 := adX (s_seed + (1009 * p2)) (9176 * p3) (by omega) (by omega) | skip
  have l16 : (31 : Int32).toInt = 31 := by decide
  have g17 := rgI (31 * p1)
  first | have e18 := mlY 31 p1 (31) (by decide) (by omega) (by omega) | skip
  have g19 := rgI (((s_seed + (1009 * p2)) + (9176 * p3)) + (31 * p1))
  first | have e20 := adX ((s_seed + (1009 * p2)) + (9176 * p3)) (31 * p1) (by omega) (by omega) | skip
  have q21 := eqI hv5
  exact Sf_some trivial
set_option maxHeartbeats 4000000 in
set_option maxRecDepth 100000 in
theorem s_X7_heightOf (n_p1_law_code : Nat) (n_p1_law_middles : Nat) (n_p1_law_starts : Nat) (s_seed : Int32) (s_p1_number : Int32) (s_p1_star : Int32) (s_p1_minute : Int32) (s_p1_wide : Int32) (s_p1_weekdays : Int32) (s_p1_law_clauses : Int32) (s_p1_law_code : Nat → Int32) (s_p1_law_middles : Nat → Int32) (s_p1_law_starts : Nat → Int32) (s_reckoner_letters : Nat → Int32) (s_reckoner_values : Nat → Int32) (p2 : Int32) (p3 : Int32) (hp0 : n_p1_law_code ≤ 120) (hp1 : (n_p1_law_middles : Int) = s_p1_law_clauses.toInt) (hp2 : (n_p1_law_starts : Int) = s_p1_law_clauses.toInt + 1) (hp3 : 0 ≤ s_p1_law_clauses.toInt) (hp4 : s_p1_law_clauses.toInt ≤ 12) (hp5 : ∀ j, 0 ≤ (s_p1_law_middles j).toInt ∧ (s_p1_law_middles j).toInt ≤ 120) (hp6 : ∀ j, 0 ≤ (s_p1_law_starts j).toInt ∧ (s_p1_law_starts j).toInt ≤ 120) : Sf (f_X7_heightOf n_p1_law_code n_p1_law_middles n_p1_law_starts s_seed s_p1_number s_p1_star s_p1_minute s_p1_wide s_p1_weekdays s_p1_law_clauses s_p1_law_code s_p1_law_middles s_p1_law_starts s_reckoner_letters s_reckoner_values p2 p3) (fun (y : Int32 × (Nat → Int32) × (Nat → Int32)) => True) := by
  have g1 := rgI s_seed
  have g2 := rgI s_p1_number
  have g3 := rgI s_p1_star
  have g4 := rgI s_p1_minute
  have g5 := rgI s_p1_wide
  have g6 := rgI s_p1_weekdays
  have g7 := rgI s_p1_law_clauses
  have g8 := rgI p2
  have g9 := rgI p3
  have hFU : (100000 : Int) ≤ (FU : Int) := Int.ofNat_le.mpr FU_ge
  rw [f_X7_heightOf]
  refine Sf_cb1 (s_X11_starMinute p2 p3 ) (fun r2_1 hp10 => ?_)
  have g11 := rgI r2_1
  refine Sf_ite (fun h12 => ?_) (fun h12 => ?_)
  · skip
    have l13 : (0 : Int32).toInt = 0 := by decide
    have c14 := eqI h12
    rw [f_X7_heightOf_J20]
    refine Sf_cb1 (s_X11_minutesApart p3 s_p1_minute ) (fun r24_8 hp15 => ?_)
    have g16 := rgI r24_8
    refine Sf_ite (fun h17 => ?_) (fun h17 => ?_)
    · skip
      have c18 := ltI h17
      exact Sf_some trivial
    · skip
      have c19 := nltI h17
      refine Sf_cb1 (s_X8_comesOn s_p1_weekdays p2 ) (fun r40_20 hp20 => ?_)
      have hp20 : ((r40_20.toInt = 0 ∨ r40_20.toInt = 1)) := hp20
      have g21 := rgI r40_20
      refine Sf_ite (fun h22 => ?_) (fun h22 => ?_)
      · skip
        have c23 := eqI h22
        exact Sf_some trivial
      · skip
        have c24 := neI h22
        have l25 : (100 : Int32).toInt = 100 := by decide
        refine Sf_wrI (by omega) (by omega) (fun g69_32 hw26 => ?_)
        have l27 : (109 : Int32).toInt = 109 := by decide
        refine Sf_wrI (by omega) (by omega) (fun g75_37 hw28 => ?_)
        have l29 : (115 : Int32).toInt = 115 := by decide
        refine Sf_wrI (by omega) (by omega) (fun g82_42 hw30 => ?_)
        have l31 : (97 : Int32).toInt = 97 := by decide
        refine Sf_wrI (by omega) (by omega) (fun g89_47 hw32 => ?_)
        have l33 : (720 : Int32).toInt = 720 := by decide
        refine Sf_cb1 (s_X11_starMinute p2 720 ) (fun r100_52 hp34 => ?_)
        have g35 := rgI r100_52
        refine Sf_cb1 (s_X11_minutesApart r2_1 r100_52 ) (fun r103_57 hp36 => ?_)
        have g37 := rgI r103_57
        have l38 : (117 : Int32).toInt = 117 := by decide
        refine Sf_wrI (by omega) (by omega) (fun g106_62 hw39 => ?_)
        refine Sf_nmI (fun v115_67 hv40 => ?_)
        have l41 : (7 : Int32).toInt = 7 := by decide
        have g42 := rgI (jrem p2 7)
        have m43 := rm_ p2 7 (by decide)
        have q44 := eqI hv40
        have l45 : (102 : Int32).toInt = 102 := by decide
        refine Sf_wrI (by omega) (by omega) (fun g115_70 hw46 => ?_)
        refine Sf_cb1 (s_X7_luck s_seed s_p1_number p2 p3 ) (fun r127_75 hp47 => ?_)
        have g48 := rgI r127_75
        have l49 : (120 : Int32).toInt = 120 := by decide
        refine Sf_wrI (by omega) (by omega) (fun g130_80 hw50 => ?_)
        refine Sf_cb2 (s_X5_firstThatHolds n_p1_law_code n_p1_law_middles n_p1_law_starts s_p1_law_clauses s_p1_law_code s_p1_law_middles s_p1_law_starts g130_80 s_reckoner_values (by omega) (by omega) (by omega) (by omega) (by omega) (by assumption) (by assumption)) (fun r139_85 o_values139_86 hp51 => ?_)
        have hp51 : (r139_85.toInt = -1 ∨ (0 ≤ r139_85.toInt ∧ r139_85.toInt < s_p1_law_clauses.toInt)) := hp51
        have g52 := rgI r139_85
        refine Sf_ite (fun h53 => ?_) (fun h53 => ?_)
        · skip
          have l54 : ((-1) : Int32).toInt = -1 := by decide
          have c55 := eqI h53
          exact Sf_some trivial
        · skip
          have l56 : ((-1) : Int32).toInt = -1 := by decide
          have c57 := neI h53
          refine Sf_cb2 (s_X5_worth n_p1_law_code n_p1_law_middles n_p1_law_starts s_p1_law_code s_p1_law_middles s_p1_law_starts g130_80 o_values139_86 r139_85 (by omega) (by omega) (by omega) (by omega) (by assumption) (by assumption)) (fun r168_95 o_values168_96 hp58 => ?_)
          have g59 := rgI r168_95
          exact Sf_some trivial
  · skip
    have l60 : (0 : Int32).toInt = 0 := by decide
    have c61 := neI h12
    rw [f_X7_heightOf_J20]
    refine Sf_cb1 (s_X11_minutesApart r2_1 s_p1_minute ) (fun r24_8 hp62 => ?_)
    have g63 := rgI r24_8
    refine Sf_ite (fun h64 => ?_) (fun h64 => ?_)
    · skip
      have c65 := ltI h64
      exact Sf_some trivial
    · skip
      have c66 := nltI h64
      refine Sf_cb1 (s_X8_comesOn s_p1_weekdays p2 ) (fun r40_20 hp67 => ?_)
      have hp67 : ((r40_20.toInt = 0 ∨ r40_20.toInt = 1)) := hp67
      have g68 := rgI r40_20
      refine Sf_ite (fun h69 => ?_) (fun h69 => ?_)
      · skip
        have c70 := eqI h69
        exact Sf_some trivial
      · skip
        have c71 := neI h69
        have l72 : (100 : Int32).toInt = 100 := by decide
        refine Sf_wrI (by omega) (by omega) (fun g69_32 hw73 => ?_)
        have l74 : (109 : Int32).toInt = 109 := by decide
        refine Sf_wrI (by omega) (by omega) (fun g75_37 hw75 => ?_)
        have l76 : (115 : Int32).toInt = 115 := by decide
        refine Sf_wrI (by omega) (by omega) (fun g82_42 hw77 => ?_)
        have l78 : (97 : Int32).toInt = 97 := by decide
        refine Sf_wrI (by omega) (by omega) (fun g89_47 hw79 => ?_)
        have l80 : (720 : Int32).toInt = 720 := by decide
        refine Sf_cb1 (s_X11_starMinute p2 720 ) (fun r100_52 hp81 => ?_)
        have g82 := rgI r100_52
        refine Sf_cb1 (s_X11_minutesApart r2_1 r100_52 ) (fun r103_57 hp83 => ?_)
        have g84 := rgI r103_57
        have l85 : (117 : Int32).toInt = 117 := by decide
        refine Sf_wrI (by omega) (by omega) (fun g106_62 hw86 => ?_)
        refine Sf_nmI (fun v115_67 hv87 => ?_)
        have l88 : (7 : Int32).toInt = 7 := by decide
        have g89 := rgI (jrem p2 7)
        have m90 := rm_ p2 7 (by decide)
        have q91 := eqI hv87
        have l92 : (102 : Int32).toInt = 102 := by decide
        refine Sf_wrI (by omega) (by omega) (fun g115_70 hw93 => ?_)
        refine Sf_cb1 (s_X7_luck s_seed s_p1_number p2 p3 ) (fun r127_75 hp94 => ?_)
        have g95 := rgI r127_75
        have l96 : (120 : Int32).toInt = 120 := by decide
        refine Sf_wrI (by omega) (by omega) (fun g130_80 hw97 => ?_)
        refine Sf_cb2 (s_X5_firstThatHolds n_p1_law_code n_p1_law_middles n_p1_law_starts s_p1_law_clauses s_p1_law_code s_p1_law_middles s_p1_law_starts g130_80 s_reckoner_values (by omega) (by omega) (by omega) (by omega) (by omega) (by assumption) (by assumption)) (fun r139_85 o_values139_86 hp98 => ?_)
        have hp98 : (r139_85.toInt = -1 ∨ (0 ≤ r139_85.toInt ∧ r139_85.toInt < s_p1_law_clauses.toInt)) := hp98
        have g99 := rgI r139_85
        refine Sf_ite (fun h100 => ?_) (fun h100 => ?_)
        · skip
          have l101 : ((-1) : Int32).toInt = -1 := by decide
          have c102 := eqI h100
          exact Sf_some trivial
        · skip
          have l103 : ((-1) : Int32).toInt = -1 := by decide
          have c104 := neI h100
          refine Sf_cb2 (s_X5_worth n_p1_law_code n_p1_law_middles n_p1_law_starts s_p1_law_code s_p1_law_middles s_p1_law_starts g130_80 o_values139_86 r139_85 (by omega) (by omega) (by omega) (by omega) (by assumption) (by assumption)) (fun r168_95 o_values168_96 hp105 => ?_)
          have g106 := rgI r168_95
          exact Sf_some trivial
set_option maxHeartbeats 4000000 in
set_option maxRecDepth 100000 in
theorem s_X7_heightOf_N (s_p1_star : Int32) (s_p1_minute : Int32) (s_p1_wide : Int32) (s_p1_weekdays : Int32) (p2 : Int32) (p3 : Int32)  : Sf (f_X7_heightOf_N s_p1_star s_p1_minute s_p1_wide s_p1_weekdays p2 p3) (fun (y : Int32) => True) := by
  have g1 := rgI s_p1_star
  have g2 := rgI s_p1_minute
  have g3 := rgI s_p1_wide
  have g4 := rgI s_p1_weekdays
  have g5 := rgI p2
  have g6 := rgI p3
  have hFU : (100000 : Int) ≤ (FU : Int) := Int.ofNat_le.mpr FU_ge
  rw [f_X7_heightOf_N]
  refine Sf_cb1 (s_X11_starMinute p2 p3 ) (fun r2_1 hp7 => ?_)
  have g8 := rgI r2_1
  refine Sf_ite (fun h9 => ?_) (fun h9 => ?_)
  · skip
    have l10 : (0 : Int32).toInt = 0 := by decide
    have c11 := eqI h9
    rw [f_X7_heightOf_N_J20]
    refine Sf_cb1 (s_X11_minutesApart p3 s_p1_minute ) (fun r24_8 hp12 => ?_)
    have g13 := rgI r24_8
    refine Sf_ite (fun h14 => ?_) (fun h14 => ?_)
    · skip
      have c15 := ltI h14
      exact Sf_some trivial
    · skip
      have c16 := nltI h14
      refine Sf_cb1 (s_X8_comesOn s_p1_weekdays p2 ) (fun r40_18 hp17 => ?_)
      have hp17 : ((r40_18.toInt = 0 ∨ r40_18.toInt = 1)) := hp17
      have g18 := rgI r40_18
      refine Sf_ite (fun h19 => ?_) (fun h19 => ?_)
      · skip
        have c20 := eqI h19
        exact Sf_some trivial
      · skip
        have c21 := neI h19
        exact Sf_some trivial
  · skip
    have l22 : (0 : Int32).toInt = 0 := by decide
    have c23 := neI h9
    rw [f_X7_heightOf_N_J20]
    refine Sf_cb1 (s_X11_minutesApart r2_1 s_p1_minute ) (fun r24_8 hp24 => ?_)
    have g25 := rgI r24_8
    refine Sf_ite (fun h26 => ?_) (fun h26 => ?_)
    · skip
      have c27 := ltI h26
      exact Sf_some trivial
    · skip
      have c28 := nltI h26
      refine Sf_cb1 (s_X8_comesOn s_p1_weekdays p2 ) (fun r40_18 hp29 => ?_)
      have hp29 : ((r40_18.toInt = 0 ∨ r40_18.toInt = 1)) := hp29
      have g30 := rgI r40_18
      refine Sf_ite (fun h31 => ?_) (fun h31 => ?_)
      · skip
        have c32 := eqI h31
        exact Sf_some trivial
      · skip
        have c33 := neI h31
        exact Sf_some trivial
set_option maxHeartbeats 4000000 in
set_option maxRecDepth 100000 in
theorem s_J9_floorMod_7cf53 (p1 : Int32) (p2 : Int32) (hp0 : p2.toInt = 1440) : Sf (f_J9_floorMod_7cf53 p1 p2) (fun (y : Int32) => (0 ≤ y.toInt ∧ y.toInt < 1440)) := by
  have g1 := rgI p1
  have g2 := rgI p2
  have hFU : (100000 : Int) ≤ (FU : Int) := Int.ofNat_le.mpr FU_ge
  rw [f_J9_floorMod_7cf53]
  refine Sf_dvI (by omega) ?_
  refine Sf_nmI (fun v3_3 hv3 => ?_)
  have g4 := rgI (jrem p1 p2)
  have m5 := rm_ p1 p2 (by omega)
  have q6 := eqI hv3
  refine Sf_ite (fun h7 => ?_) (fun h7 => ?_)
  · skip
    have l8 : (0 : Int32).toInt = 0 := by decide
    have a9 := xo_ p1 p2 (by omega)
    have g10 := rgI (p1 ^^^ p2)
    have c11 := leI h7
    refine Sf_some (show (0 ≤ v3_3.toInt ∧ v3_3.toInt < 1440) from ?_)
    (omega)
  · skip
    have l12 : (0 : Int32).toInt = 0 := by decide
    have a13 := xo_ p1 p2 (by omega)
    have g14 := rgI (p1 ^^^ p2)
    have c15 := nleI h7
    refine Sf_ite (fun h16 => ?_) (fun h16 => ?_)
    · skip
      have c17 := eqI h16
      refine Sf_some (show (0 ≤ v3_3.toInt ∧ v3_3.toInt < 1440) from ?_)
      (omega)
    · skip
      have c18 := neI h16
      have g19 := rgI (v3_3 + p2)
      first | have e20 := adX v3_3 p2 (by omega) (by omega) | skip
      refine Sf_some (show (0 ≤ (v3_3 + p2).toInt ∧ (v3_3 + p2).toInt < 1440) from ?_)
      (omega)
set_option maxHeartbeats 4000000 in
set_option maxRecDepth 100000 in
theorem s_X4_add (s_heights : Nat → Int32) (s_highest : Nat → Int32) (s_shapes : Nat → Int32) (p1 : Int32) (p2 : Int32) (p3 : Int32) (hp0 : 0 ≤ p1.toInt) (hp1 : p1.toInt < 1440) : Sf (f_X4_add s_heights s_highest s_shapes p1 p2 p3) (fun (y : (Nat → Int32) × (Nat → Int32) × (Nat → Int32)) => True) := by
  have g1 := rgI p1
  have g2 := rgI p2
  have g3 := rgI p3
  have hFU : (100000 : Int) ≤ (FU : Int) := Int.ofNat_le.mpr FU_ge
  rw [f_X4_add]
  refine Sf_rdI (by omega) (by omega) (fun v6_1 hv4 => ?_)
  have g5 := rgI v6_1
  refine Sf_nmI (fun v9_5 hv6 => ?_)
  have g7 := rgI (v6_1 + p2)
  first | have e8 := adX v6_1 p2 (by omega) (by omega) | skip
  have q9 := eqI hv6
  refine Sf_wrI (by omega) (by omega) (fun g9_8 hw10 => ?_)
  refine Sf_rdI (by omega) (by omega) (fun v16_13 hv11 => ?_)
  have g12 := rgI v16_13
  refine Sf_ite (fun h13 => ?_) (fun h13 => ?_)
  · skip
    have c14 := leI h13
    exact Sf_some trivial
  · skip
    have c15 := nleI h13
    refine Sf_wrI (by omega) (by omega) (fun g26_23 hw16 => ?_)
    refine Sf_wrI (by omega) (by omega) (fun g33_28 hw17 => ?_)
    exact Sf_some trivial
set_option maxHeartbeats 4000000 in
set_option maxRecDepth 100000 in
theorem s_X7_layOne_L33 (s_seed : Int32) (s_p1_day : Int32) (s_p2_number : Int32) (s_p2_star : Int32) (s_p2_minute : Int32) (s_p2_wide : Int32) (s_p2_shape : Int32) (s_p2_weekdays : Int32) (s_p2_law_clauses : Int32) (n_p2_law_code : Nat) (s_p2_law_code : Nat → Int32) (n_p2_law_middles : Nat) (s_p2_law_middles : Nat → Int32) (n_p2_law_starts : Nat) (s_p2_law_starts : Nat → Int32) (t0_1 : Int32) (hp0 : n_p2_law_code ≤ 120) (hp1 : (n_p2_law_middles : Int) = s_p2_law_clauses.toInt) (hp2 : (n_p2_law_starts : Int) = s_p2_law_clauses.toInt + 1) (hp3 : 0 ≤ s_p2_law_clauses.toInt) (hp4 : s_p2_law_clauses.toInt ≤ 12) (hp5 : ∀ j, 0 ≤ (s_p2_law_middles j).toInt ∧ (s_p2_law_middles j).toInt ≤ 120) (hp6 : ∀ j, 0 ≤ (s_p2_law_starts j).toInt ∧ (s_p2_law_starts j).toInt ≤ 120) (hp7 : 0 ≤ s_p2_wide.toInt) (hp8 : s_p2_wide.toInt ≤ 30) : ∀ (n : Nat) (x4_7 : Int32) (p1_heights__8 : Nat → Int32) (p1_highest__9 : Nat → Int32) (p1_shapes__10 : Nat → Int32) (reckoner_letters__11 : Nat → Int32) (reckoner_values__12 : Nat → Int32), (-30 ≤ x4_7.toInt) → (x4_7.toInt ≤ 31) → (32 - x4_7.toInt < (n : Int)) → Sf (f_X7_layOne_L33 s_seed s_p1_day s_p2_number s_p2_star s_p2_minute s_p2_wide s_p2_shape s_p2_weekdays s_p2_law_clauses n_p2_law_code s_p2_law_code n_p2_law_middles s_p2_law_middles n_p2_law_starts s_p2_law_starts t0_1 n x4_7 p1_heights__8 p1_highest__9 p1_shapes__10 reckoner_letters__11 reckoner_values__12) (fun (y : (Nat → Int32) × (Nat → Int32) × (Nat → Int32) × (Nat → Int32) × (Nat → Int32)) => True) := by
  have hFU : (100000 : Int) ≤ (FU : Int) := Int.ofNat_le.mpr FU_ge
  have g1 := rgI s_seed
  have g2 := rgI s_p1_day
  have g3 := rgI s_p2_number
  have g4 := rgI s_p2_star
  have g5 := rgI s_p2_minute
  have g6 := rgI s_p2_wide
  have g7 := rgI s_p2_shape
  have g8 := rgI s_p2_weekdays
  have g9 := rgI s_p2_law_clauses
  have g10 := rgI t0_1
  intro n
  induction n with
  | zero =>
    intro x4_7 p1_heights__8 p1_highest__9 p1_shapes__10 reckoner_letters__11 reckoner_values__12 hi0 hi1 hm
    have g11 := rgI x4_7
    exact absurd hm (by omega)
  | succ n ih =>
    intro x4_7 p1_heights__8 p1_highest__9 p1_shapes__10 reckoner_letters__11 reckoner_values__12 hi0 hi1 hm
    rw [f_X7_layOne_L33]
    have g12 := rgI x4_7
    refine Sf_ite (fun h13 => ?_) (fun h13 => ?_)
    · skip
      have c14 := ltI h13
      exact Sf_some trivial
    · skip
      have c15 := nltI h13
      have g16 := rgI (t0_1 + x4_7)
      first | have e17 := adX t0_1 x4_7 (by omega) (by omega) | skip
      have l18 : (1440 : Int32).toInt = 1440 := by decide
      refine Sf_cb1 (s_J9_floorMod_7cf53 (t0_1 + x4_7) 1440 (by omega)) (fun r49_21 hp19 => ?_)
      have hp19 : (0 ≤ r49_21.toInt ∧ r49_21.toInt < 1440) := hp19
      have g20 := rgI r49_21
      refine Sf_cb3 (s_X7_heightOf n_p2_law_code n_p2_law_middles n_p2_law_starts s_seed s_p2_number s_p2_star s_p2_minute s_p2_wide s_p2_weekdays s_p2_law_clauses s_p2_law_code s_p2_law_middles s_p2_law_starts reckoner_letters__11 reckoner_values__12 s_p1_day r49_21 (by omega) (by omega) (by omega) (by omega) (by omega) (by assumption) (by assumption)) (fun r65_27 o_reckoner_letters65_28 o_reckoner_values65_29 hp21 => ?_)
      have g22 := rgI r65_27
      refine Sf_cb3 (s_X4_add p1_heights__8 p1_highest__9 p1_shapes__10 r49_21 r65_27 s_p2_shape (by omega) (by omega)) (fun o_heights72_34 o_highest72_35 o_shapes72_36 hp23 => ?_)
      refine Sf_nmI (fun v75_41 hv24 => ?_)
      have g25 := rgI (x4_7 + 1)
      first | have e26 := adN x4_7 1 (1) (by decide) (by omega) (by omega) | skip
      have q27 := eqI hv24
      exact ih v75_41 o_heights72_34 o_highest72_35 o_shapes72_36 o_reckoner_letters65_28 o_reckoner_values65_29 (by omega) (by omega) (by omega)
set_option maxHeartbeats 4000000 in
set_option maxRecDepth 100000 in
theorem s_X7_layOne (n_p2_law_code : Nat) (n_p2_law_middles : Nat) (n_p2_law_starts : Nat) (s_seed : Int32) (s_p1_day : Int32) (s_p2_number : Int32) (s_p2_star : Int32) (s_p2_minute : Int32) (s_p2_wide : Int32) (s_p2_shape : Int32) (s_p2_weekdays : Int32) (s_p1_heights : Nat → Int32) (s_p1_highest : Nat → Int32) (s_p1_shapes : Nat → Int32) (s_p2_law_clauses : Int32) (s_p2_law_code : Nat → Int32) (s_p2_law_middles : Nat → Int32) (s_p2_law_starts : Nat → Int32) (s_reckoner_letters : Nat → Int32) (s_reckoner_values : Nat → Int32) (hp0 : n_p2_law_code ≤ 120) (hp1 : (n_p2_law_middles : Int) = s_p2_law_clauses.toInt) (hp2 : (n_p2_law_starts : Int) = s_p2_law_clauses.toInt + 1) (hp3 : 0 ≤ s_p2_law_clauses.toInt) (hp4 : s_p2_law_clauses.toInt ≤ 12) (hp5 : ∀ j, 0 ≤ (s_p2_law_middles j).toInt ∧ (s_p2_law_middles j).toInt ≤ 120) (hp6 : ∀ j, 0 ≤ (s_p2_law_starts j).toInt ∧ (s_p2_law_starts j).toInt ≤ 120) (hp7 : 0 ≤ s_p2_wide.toInt) (hp8 : s_p2_wide.toInt ≤ 30) : Sf (f_X7_layOne n_p2_law_code n_p2_law_middles n_p2_law_starts s_seed s_p1_day s_p2_number s_p2_star s_p2_minute s_p2_wide s_p2_shape s_p2_weekdays s_p1_heights s_p1_highest s_p1_shapes s_p2_law_clauses s_p2_law_code s_p2_law_middles s_p2_law_starts s_reckoner_letters s_reckoner_values) (fun (y : (Nat → Int32) × (Nat → Int32) × (Nat → Int32) × (Nat → Int32) × (Nat → Int32)) => True) := by
  have g1 := rgI s_seed
  have g2 := rgI s_p1_day
  have g3 := rgI s_p2_number
  have g4 := rgI s_p2_star
  have g5 := rgI s_p2_minute
  have g6 := rgI s_p2_wide
  have g7 := rgI s_p2_shape
  have g8 := rgI s_p2_weekdays
  have g9 := rgI s_p2_law_clauses
  have hFU : (100000 : Int) ≤ (FU : Int) := Int.ofNat_le.mpr FU_ge
  rw [f_X7_layOne]
  refine Sf_ite (fun h10 => ?_) (fun h10 => ?_)
  · skip
    have l11 : (0 : Int32).toInt = 0 := by decide
    have c12 := eqI h10
    rw [f_X7_layOne_J25]
    refine Sf_nmI (fun v31_3 hv13 => ?_)
    have g14 := rgI (-s_p2_wide)
    first | have e15 := ngX s_p2_wide (by omega) | skip
    have q16 := eqI hv13
    refine s_X7_layOne_L33 s_seed s_p1_day s_p2_number s_p2_star s_p2_minute s_p2_wide s_p2_shape s_p2_weekdays s_p2_law_clauses n_p2_law_code s_p2_law_code n_p2_law_middles s_p2_law_middles n_p2_law_starts s_p2_law_starts s_p2_minute (by omega) (by omega) (by omega) (by omega) (by omega) (by assumption) (by assumption) (by omega) (by omega)  FU v31_3 s_p1_heights s_p1_highest s_p1_shapes s_reckoner_letters s_reckoner_values (by omega) (by omega) (by omega)
  · skip
    have l17 : (0 : Int32).toInt = 0 := by decide
    have c18 := neI h10
    rw [f_X7_layOne_J25]
    refine Sf_nmI (fun v31_3 hv19 => ?_)
    have g20 := rgI (-s_p2_wide)
    first | have e21 := ngX s_p2_wide (by omega) | skip
    have q22 := eqI hv19
    refine s_X7_layOne_L33 s_seed s_p1_day s_p2_number s_p2_star s_p2_minute s_p2_wide s_p2_shape s_p2_weekdays s_p2_law_clauses n_p2_law_code s_p2_law_code n_p2_law_middles s_p2_law_middles n_p2_law_starts s_p2_law_starts (s_p2_minute - (4 * s_p1_day)) (by omega) (by omega) (by omega) (by omega) (by omega) (by assumption) (by assumption) (by omega) (by omega)  FU v31_3 s_p1_heights s_p1_highest s_p1_shapes s_reckoner_letters s_reckoner_values (by omega) (by omega) (by omega)
set_option maxHeartbeats 4000000 in
set_option maxRecDepth 100000 in
theorem s_J7_fill_53178_L5 (n_p1 : Nat) (p2 : Int32) (v4_2 : Int32) (hp0 : n_p1 = 1440) (hp1 : v4_2.toInt = 1440) : ∀ (n : Nat) (x2_6 : Int32) (p1__7 : Nat → Int32), (0 ≤ x2_6.toInt) → (x2_6.toInt ≤ 1440) → (1441 - x2_6.toInt < (n : Int)) → Sf (f_J7_fill_53178_L5 n_p1 p2 v4_2 n x2_6 p1__7) (fun (y : (Nat → Int32)) => True) := by
  have hFU : (100000 : Int) ≤ (FU : Int) := Int.ofNat_le.mpr FU_ge
  have g1 := rgI p2
  have g2 := rgI v4_2
  intro n
  induction n with
  | zero =>
    intro x2_6 p1__7 hi0 hi1 hm
    have g3 := rgI x2_6
    exact absurd hm (by omega)
  | succ n ih =>
    intro x2_6 p1__7 hi0 hi1 hm
    rw [f_J7_fill_53178_L5]
    have g4 := rgI x2_6
    refine Sf_ite (fun h5 => ?_) (fun h5 => ?_)
    · skip
      have c6 := leI h5
      exact Sf_some trivial
    · skip
      have c7 := nleI h5
      refine Sf_wrI (by omega) (by omega) (fun g13_12 hw8 => ?_)
      refine Sf_nmI (fun v14_17 hv9 => ?_)
      have g10 := rgI (x2_6 + 1)
      first | have e11 := adN x2_6 1 (1) (by decide) (by omega) (by omega) | skip
      have q12 := eqI hv9
      exact ih v14_17 g13_12 (by omega) (by omega) (by omega)
set_option maxHeartbeats 4000000 in
set_option maxRecDepth 100000 in
theorem s_J7_fill_53178 (n_p1 : Nat) (s_p1 : Nat → Int32) (p2 : Int32) (hp0 : n_p1 = 1440) : Sf (f_J7_fill_53178 n_p1 s_p1 p2) (fun (y : (Nat → Int32)) => True) := by
  have g1 := rgI p2
  have hFU : (100000 : Int) ≤ (FU : Int) := Int.ofNat_le.mpr FU_ge
  rw [f_J7_fill_53178]
  refine Sf_nmI (fun v4_2 hv2 => ?_)
  have o3 := ofN n_p1 (by omega)
  have q4 := eqI hv2
  have l5 : (0 : Int32).toInt = 0 := by decide
  refine s_J7_fill_53178_L5 n_p1 p2 v4_2 (by omega) (by omega)  FU 0 s_p1 (by omega) (by omega) (by omega)
set_option maxHeartbeats 4000000 in
set_option maxRecDepth 100000 in
theorem s_X4_forget (s_day : Int32)  : Sf (f_X4_forget s_day) (fun (y : Int32) => True) := by
  have g1 := rgI s_day
  have hFU : (100000 : Int) ≤ (FU : Int) := Int.ofNat_le.mpr FU_ge
  rw [f_X4_forget]
  exact Sf_some trivial
set_option maxHeartbeats 4000000 in
set_option maxRecDepth 100000 in
theorem s_X4_forgetReader (s_readers : Int32) (p1 : Int32)  : Sf (f_X4_forgetReader s_readers p1) (fun (y : Int32) => True) := by
  have g1 := rgI s_readers
  have g2 := rgI p1
  have hFU : (100000 : Int) ≤ (FU : Int) := Int.ofNat_le.mpr FU_ge
  rw [f_X4_forgetReader]
  refine Sf_nmI (fun v11_1 hv3 => ?_)
  have l4 : (1 : Int32).toInt = 1 := by decide
  have g5 := rgI (jshl 1 p1)
  have l6 : ((-1) : Int32).toInt = -1 := by decide
  have g7 := rgI ((jshl 1 p1) ^^^ (-1))
  have g8 := rgI (s_readers &&& ((jshl 1 p1) ^^^ (-1)))
  have q9 := eqI hv3
  exact Sf_some trivial
set_option maxHeartbeats 4000000 in
set_option maxRecDepth 100000 in
theorem s_X4_clear (s_readers : Int32) (s_day : Int32) (s_heights : Nat → Int32) (s_highest : Nat → Int32) (s_shapes : Nat → Int32) (p1 : Int32)  : Sf (f_X4_clear s_readers s_day s_heights s_highest s_shapes p1) (fun (y : Int32 × Int32 × (Nat → Int32) × (Nat → Int32) × (Nat → Int32)) => True) := by
  have g1 := rgI s_readers
  have g2 := rgI s_day
  have g3 := rgI p1
  have hFU : (100000 : Int) ≤ (FU : Int) := Int.ofNat_le.mpr FU_ge
  rw [f_X4_clear]
  have l4 : (0 : Int32).toInt = 0 := by decide
  refine Sf_cb1 (s_J7_fill_53178 1440 s_heights 0 (by omega)) (fun o_p115_3 hp5 => ?_)
  refine Sf_cb1 (s_J7_fill_53178 1440 s_highest 0 (by omega)) (fun o_p123_8 hp6 => ?_)
  have l7 : (4 : Int32).toInt = 4 := by decide
  refine Sf_cb1 (s_J7_fill_53178 1440 s_shapes 4 (by omega)) (fun o_p131_13 hp8 => ?_)
  exact Sf_some trivial
set_option maxHeartbeats 4000000 in
set_option maxRecDepth 100000 in
theorem s_X4_greatestOf_L5 (s_heights : Nat → Int32) (p2 : Int32)  : ∀ (n : Nat) (x3_3 : Int32) (x4_4 : Int32), (0 ≤ x4_4.toInt) → (x4_4.toInt ≤ 1440) → (1441 - x4_4.toInt < (n : Int)) → Sf (f_X4_greatestOf_L5 s_heights p2 n x3_3 x4_4) (fun (y : Int32) => True) := by
  have hFU : (100000 : Int) ≤ (FU : Int) := Int.ofNat_le.mpr FU_ge
  have g1 := rgI p2
  intro n
  induction n with
  | zero =>
    intro x3_3 x4_4 hi0 hi1 hm
    have g2 := rgI x3_3
    have g3 := rgI x4_4
    exact absurd hm (by omega)
  | succ n ih =>
    intro x3_3 x4_4 hi0 hi1 hm
    rw [f_X4_greatestOf_L5]
    have g4 := rgI x3_3
    have g5 := rgI x4_4
    refine Sf_ite (fun h6 => ?_) (fun h6 => ?_)
    · skip
      have c7 := ltI h6
      exact Sf_some trivial
    · skip
      have c8 := nltI h6
      refine Sf_ite (fun h9 => ?_) (fun h9 => ?_)
      · skip
        have l10 : (1440 : Int32).toInt = 1440 := by decide
        have c11 := leI h9
        exact Sf_some trivial
      · skip
        have l12 : (1440 : Int32).toInt = 1440 := by decide
        have c13 := nleI h9
        refine Sf_rdI (by omega) (by omega) (fun v26_13 hv14 => ?_)
        have g15 := rgI v26_13
        refine Sf_nmI (fun v30_17 hv16 => ?_)
        have g17 := rgI (jmax x3_3 v26_13)
        have m18 := jmax_ x3_3 v26_13
        have q19 := eqI hv16
        refine Sf_nmI (fun v31_21 hv20 => ?_)
        have g21 := rgI (x4_4 + 1)
        first | have e22 := adN x4_4 1 (1) (by decide) (by omega) (by omega) | skip
        have q23 := eqI hv20
        exact ih v30_17 v31_21 (by omega) (by omega) (by omega)
set_option maxHeartbeats 4000000 in
set_option maxRecDepth 100000 in
theorem s_X4_greatestOf (s_heights : Nat → Int32) (p1 : Int32) (p2 : Int32) (hp0 : 0 ≤ p1.toInt) (hp1 : p1.toInt ≤ 1440) : Sf (f_X4_greatestOf s_heights p1 p2) (fun (y : Int32) => True) := by
  have g1 := rgI p1
  have g2 := rgI p2
  have hFU : (100000 : Int) ≤ (FU : Int) := Int.ofNat_le.mpr FU_ge
  rw [f_X4_greatestOf]
  have l3 : (0 : Int32).toInt = 0 := by decide
  refine s_X4_greatestOf_L5 s_heights p2   FU 0 p1 (by omega) (by omega) (by omega)
set_option maxHeartbeats 4000000 in
set_option maxRecDepth 100000 in
theorem s_X4_greatestBefore (s_heights : Nat → Int32) (p1 : Int32) (p2 : Int32) (hp0 : 0 ≤ p1.toInt) (hp1 : p1.toInt < 1440) : Sf (f_X4_greatestBefore s_heights p1 p2) (fun (y : Int32) => True) := by
  have g1 := rgI p1
  have g2 := rgI p2
  have hFU : (100000 : Int) ≤ (FU : Int) := Int.ofNat_le.mpr FU_ge
  rw [f_X4_greatestBefore]
  refine Sf_ite (fun h3 => ?_) (fun h3 => ?_)
  · skip
    have l4 : (0 : Int32).toInt = 0 := by decide
    have c5 := leI h3
    rw [f_X4_greatestBefore_J25]
    refine Sf_nmI (fun v31_1 hv6 => ?_)
    have g7 := rgI (p1 - 10)
    first | have e8 := sbN p1 10 (10) (by decide) (by omega) (by omega) | skip
    have g9 := rgI ((p1 - 10) - 1)
    first | have e10 := sbN (p1 - 10) 1 (1) (by decide) (by omega) (by omega) | skip
    have q11 := eqI hv6
    refine Sf_ite (fun h12 => ?_) (fun h12 => ?_)
    · skip
      have c13 := ltI h12
      rw [f_X4_greatestBefore_J51]
      refine Sf_ite (fun h14 => ?_) (fun h14 => ?_)
      · skip
        have l15 : (1 : Int32).toInt = 1 := by decide
        have c16 := eqI h14
        have g17 := rgI (v31_1 + 1)
        first | have e18 := adN v31_1 1 (1) (by decide) (by omega) (by omega) | skip
        have g19 := rgI (p1 - 1)
        first | have e20 := sbN p1 1 (1) (by decide) (by omega) (by omega) | skip
        refine Sf_cb1 (s_X4_greatestOf s_heights (v31_1 + 1) (p1 - 1) (by omega) (by omega)) (fun r69_10 hp21 => ?_)
        have g22 := rgI r69_10
        exact Sf_some trivial
      · skip
        have l23 : (1 : Int32).toInt = 1 := by decide
        have c24 := neI h14
        exact Sf_some trivial
    · skip
      have c25 := nltI h12
      refine Sf_rdI (by omega) (by omega) (fun v41_20 hv26 => ?_)
      have g27 := rgI v41_20
      refine Sf_ite (fun h28 => ?_) (fun h28 => ?_)
      · skip
        have c29 := leI h28
        rw [f_X4_greatestBefore_J51]
        refine Sf_ite (fun h30 => ?_) (fun h30 => ?_)
        · skip
          have c31 := eqI h30
          have g32 := rgI (v31_1 + 1)
          first | have e33 := adN v31_1 1 (1) (by decide) (by omega) (by omega) | skip
          have g34 := rgI (p1 - 1)
          first | have e35 := sbN p1 1 (1) (by decide) (by omega) (by omega) | skip
          refine Sf_cb1 (s_X4_greatestOf s_heights (v31_1 + 1) (p1 - 1) (by omega) (by omega)) (fun r69_10 hp36 => ?_)
          have g37 := rgI r69_10
          exact Sf_some trivial
        · skip
          have c38 := neI h30
          exact Sf_some trivial
      · skip
        have c39 := nleI h28
        rw [f_X4_greatestBefore_J51]
        refine Sf_ite (fun h40 => ?_) (fun h40 => ?_)
        · skip
          have l41 : (1 : Int32).toInt = 1 := by decide
          have c42 := eqI h40
          have g43 := rgI (v31_1 + 1)
          first | have e44 := adN v31_1 1 (1) (by decide) (by omega) (by omega) | skip
          have g45 := rgI (p1 - 1)
          first | have e46 := sbN p1 1 (1) (by decide) (by omega) (by omega) | skip
          refine Sf_cb1 (s_X4_greatestOf s_heights (v31_1 + 1) (p1 - 1) (by omega) (by omega)) (fun r69_10 hp47 => ?_)
          have g48 := rgI r69_10
          exact Sf_some trivial
        · skip
          have l49 : (1 : Int32).toInt = 1 := by decide
          have c50 := neI h40
          exact Sf_some trivial
  · skip
    have l51 : (0 : Int32).toInt = 0 := by decide
    have c52 := nleI h3
    have g53 := rgI (p1 - 1)
    first | have e54 := sbN p1 1 (1) (by decide) (by omega) (by omega) | skip
    refine Sf_rdI (by omega) (by omega) (fun v11_30 hv55 => ?_)
    have g56 := rgI v11_30
    refine Sf_ite (fun h57 => ?_) (fun h57 => ?_)
    · skip
      have c58 := ltI h57
      rw [f_X4_greatestBefore_J25]
      refine Sf_nmI (fun v31_1 hv59 => ?_)
      have g60 := rgI (p1 - 10)
      first | have e61 := sbN p1 10 (10) (by decide) (by omega) (by omega) | skip
      have g62 := rgI ((p1 - 10) - 1)
      first | have e63 := sbN (p1 - 10) 1 (1) (by decide) (by omega) (by omega) | skip
      have q64 := eqI hv59
      refine Sf_ite (fun h65 => ?_) (fun h65 => ?_)
      · skip
        have c66 := ltI h65
        rw [f_X4_greatestBefore_J51]
        refine Sf_ite (fun h67 => ?_) (fun h67 => ?_)
        · skip
          have l68 : (1 : Int32).toInt = 1 := by decide
          have c69 := eqI h67
          have g70 := rgI (v31_1 + 1)
          first | have e71 := adN v31_1 1 (1) (by decide) (by omega) (by omega) | skip
          refine Sf_cb1 (s_X4_greatestOf s_heights (v31_1 + 1) (p1 - 1) (by omega) (by omega)) (fun r69_10 hp72 => ?_)
          have g73 := rgI r69_10
          exact Sf_some trivial
        · skip
          have l74 : (1 : Int32).toInt = 1 := by decide
          have c75 := neI h67
          exact Sf_some trivial
      · skip
        have c76 := nltI h65
        refine Sf_rdI (by omega) (by omega) (fun v41_20 hv77 => ?_)
        have g78 := rgI v41_20
        refine Sf_ite (fun h79 => ?_) (fun h79 => ?_)
        · skip
          have c80 := leI h79
          rw [f_X4_greatestBefore_J51]
          refine Sf_ite (fun h81 => ?_) (fun h81 => ?_)
          · skip
            have c82 := eqI h81
            have g83 := rgI (v31_1 + 1)
            first | have e84 := adN v31_1 1 (1) (by decide) (by omega) (by omega) | skip
            refine Sf_cb1 (s_X4_greatestOf s_heights (v31_1 + 1) (p1 - 1) (by omega) (by omega)) (fun r69_10 hp85 => ?_)
            have g86 := rgI r69_10
            exact Sf_some trivial
          · skip
            have c87 := neI h81
            exact Sf_some trivial
        · skip
          have c88 := nleI h79
          rw [f_X4_greatestBefore_J51]
          refine Sf_ite (fun h89 => ?_) (fun h89 => ?_)
          · skip
            have l90 : (1 : Int32).toInt = 1 := by decide
            have c91 := eqI h89
            have g92 := rgI (v31_1 + 1)
            first | have e93 := adN v31_1 1 (1) (by decide) (by omega) (by omega) | skip
            refine Sf_cb1 (s_X4_greatestOf s_heights (v31_1 + 1) (p1 - 1) (by omega) (by omega)) (fun r69_10 hp94 => ?_)
            have g95 := rgI r69_10
            exact Sf_some trivial
          · skip
            have l96 : (1 : Int32).toInt = 1 := by decide
            have c97 := neI h89
            exact Sf_some trivial
    · skip
      have c98 := nltI h57
      refine Sf_rdI (by omega) (by omega) (fun v23_37 hv99 => ?_)
      have g100 := rgI v23_37
      exact Sf_some trivial
set_option maxHeartbeats 4000000 in
set_option maxRecDepth 100000 in
theorem s_X4_isMarked (s_marked : Nat → Int32) (p1 : Int32) (p2 : Int32)  : Sf (f_X4_isMarked s_marked p1 p2) (fun (y : Int32) => ((y.toInt = 0 ∨ y.toInt = 1))) := by
  have g1 := rgI p1
  have g2 := rgI p2
  have hFU : (100000 : Int) ≤ (FU : Int) := Int.ofNat_le.mpr FU_ge
  rw [f_X4_isMarked]
  refine Sf_cb1 (s_X11_isMinute p2 ) (fun r1_1 hp3 => ?_)
  have hp3 : ((r1_1.toInt = 0 ∨ r1_1.toInt = 1)) ∧ ((r1_1.toInt = 1 ∧ 0 ≤ p2.toInt ∧ p2.toInt ≤ 1439) ∨ (r1_1.toInt = 0 ∧ (p2.toInt < 0 ∨ 1439 < p2.toInt))) := hp3
  obtain ⟨hq4, hq5⟩ := hp3
  have g6 := rgI r1_1
  refine Sf_ite (fun h7 => ?_) (fun h7 => ?_)
  · skip
    have l8 : (0 : Int32).toInt = 0 := by decide
    have c9 := eqI h7
    refine Sf_some (show (((0 : Int32).toInt = 0 ∨ (0 : Int32).toInt = 1)) from ?_)
    (omega)
  · skip
    have l10 : (0 : Int32).toInt = 0 := by decide
    have c11 := neI h7
    refine Sf_rdI (by omega) (by omega) (fun v12_10 hv12 => ?_)
    have g13 := rgI v12_10
    refine Sf_ite (fun h14 => ?_) (fun h14 => ?_)
    · skip
      have g15 := rgI (jshr v12_10 p1)
      have l16 : (1 : Int32).toInt = 1 := by decide
      have a17 := an_ (jshr v12_10 p1) 1 (by decide)
      have c18 := eqI h14
      refine Sf_some (show (((1 : Int32).toInt = 0 ∨ (1 : Int32).toInt = 1)) from ?_)
      (omega)
    · skip
      have g19 := rgI (jshr v12_10 p1)
      have l20 : (1 : Int32).toInt = 1 := by decide
      have a21 := an_ (jshr v12_10 p1) 1 (by decide)
      have c22 := neI h14
      refine Sf_some (show (((0 : Int32).toInt = 0 ∨ (0 : Int32).toInt = 1)) from ?_)
      (omega)
set_option maxHeartbeats 4000000 in
set_option maxRecDepth 100000 in
theorem s_X4_read_L66 (s_day : Int32) (s_p2_clauses : Int32) (n_p2_code : Nat) (s_p2_code : Nat → Int32) (n_p2_middles : Nat) (s_p2_middles : Nat → Int32) (n_p2_starts : Nat) (s_p2_starts : Nat → Int32) (s_heights : Nat → Int32) (s_shapes : Nat → Int32) (p1 : Int32) (v3_1 : Int32) (v21_8 : Int32) (hp0 : n_p2_code ≤ 120) (hp1 : (n_p2_middles : Int) = s_p2_clauses.toInt) (hp2 : (n_p2_starts : Int) = s_p2_clauses.toInt + 1) (hp3 : 0 ≤ s_p2_clauses.toInt) (hp4 : s_p2_clauses.toInt ≤ 12) (hp5 : ∀ j, 0 ≤ (s_p2_middles j).toInt ∧ (s_p2_middles j).toInt ≤ 120) (hp6 : ∀ j, 0 ≤ (s_p2_starts j).toInt ∧ (s_p2_starts j).toInt ≤ 120) : ∀ (n : Nat) (x5_33 : Int32) (x6_34 : Int32) (marked__35 : Nat → Int32) (reckoner_letters__36 : Nat → Int32) (reckoner_values__37 : Nat → Int32), (0 ≤ x6_34.toInt) → (x6_34.toInt ≤ 1440) → (1441 - x6_34.toInt < (n : Int)) → Sf (f_X4_read_L66 s_day s_p2_clauses n_p2_code s_p2_code n_p2_middles s_p2_middles n_p2_starts s_p2_starts s_heights s_shapes p1 v3_1 v21_8 n x5_33 x6_34 marked__35 reckoner_letters__36 reckoner_values__37) (fun (y : Int32 × (Nat → Int32) × (Nat → Int32) × (Nat → Int32)) => True) := by
  have hFU : (100000 : Int) ≤ (FU : Int) := Int.ofNat_le.mpr FU_ge
  have g1 := rgI s_day
  have g2 := rgI s_p2_clauses
  have g3 := rgI p1
  have g4 := rgI v3_1
  have g5 := rgI v21_8
  intro n
  induction n with
  | zero =>
    intro x5_33 x6_34 marked__35 reckoner_letters__36 reckoner_values__37 hi0 hi1 hm
    have g6 := rgI x5_33
    have g7 := rgI x6_34
    exact absurd hm (by omega)
  | succ n ih =>
    intro x5_33 x6_34 marked__35 reckoner_letters__36 reckoner_values__37 hi0 hi1 hm
    rw [f_X4_read_L66]
    have g8 := rgI x5_33
    have g9 := rgI x6_34
    refine Sf_ite (fun h10 => ?_) (fun h10 => ?_)
    · skip
      have l11 : (1440 : Int32).toInt = 1440 := by decide
      have c12 := leI h10
      exact Sf_some trivial
    · skip
      have l13 : (1440 : Int32).toInt = 1440 := by decide
      have c14 := nleI h10
      refine Sf_cb1 (s_X4_greatestBefore s_heights x6_34 x5_33 (by omega) (by omega)) (fun r79_45 hp15 => ?_)
      have g16 := rgI r79_45
      have l17 : (103 : Int32).toInt = 103 := by decide
      refine Sf_wrI (by omega) (by omega) (fun g90_51 hw18 => ?_)
      refine Sf_rdI (by omega) (by omega) (fun v101_56 hv19 => ?_)
      have g20 := rgI v101_56
      have l21 : (104 : Int32).toInt = 104 := by decide
      refine Sf_wrI (by omega) (by omega) (fun g102_60 hw22 => ?_)
      refine Sf_ite (fun h23 => ?_) (fun h23 => ?_)
      · skip
        have l24 : (0 : Int32).toInt = 0 := by decide
        have c25 := leI h23
        rw [f_X4_read_J125]
        have l26 : (98 : Int32).toInt = 98 := by decide
        refine Sf_wrI (by omega) (by omega) (fun g125_66 hw27 => ?_)
        refine Sf_rdI (by omega) (by omega) (fun v136_71 hv28 => ?_)
        have g29 := rgI v136_71
        have l30 : (108 : Int32).toInt = 108 := by decide
        refine Sf_wrI (by omega) (by omega) (fun g137_75 hw31 => ?_)
        have l32 : (109 : Int32).toInt = 109 := by decide
        refine Sf_wrI (by omega) (by omega) (fun g144_80 hw33 => ?_)
        refine Sf_cb1 (s_X11_starMinute s_day x6_34 ) (fun r155_85 hp34 => ?_)
        have g35 := rgI r155_85
        have l36 : (115 : Int32).toInt = 115 := by decide
        refine Sf_wrI (by omega) (by omega) (fun g158_90 hw37 => ?_)
        have g38 := rgI (x6_34 - 2)
        first | have e39 := sbN x6_34 2 (2) (by decide) (by omega) (by omega) | skip
        refine Sf_cb1 (s_X4_isMarked marked__35 p1 (x6_34 - 2) ) (fun r165_95 hp40 => ?_)
        have hp40 : ((r165_95.toInt = 0 ∨ r165_95.toInt = 1)) := hp40
        have g41 := rgI r165_95
        refine Sf_ite (fun h42 => ?_) (fun h42 => ?_)
        · skip
          have c43 := eqI h42
          rw [f_X4_read_J192]
          refine Sf_cb2 (s_X5_firstThatHolds n_p2_code n_p2_middles n_p2_starts s_p2_clauses s_p2_code s_p2_middles s_p2_starts g158_90 reckoner_values__37 (by omega) (by omega) (by omega) (by omega) (by omega) (by assumption) (by assumption)) (fun r201_101 o_values201_102 hp44 => ?_)
          have hp44 : (r201_101.toInt = -1 ∨ (0 ≤ r201_101.toInt ∧ r201_101.toInt < s_p2_clauses.toInt)) := hp44
          have g45 := rgI r201_101
          refine Sf_ite (fun h46 => ?_) (fun h46 => ?_)
          · skip
            have l47 : ((-1) : Int32).toInt = -1 := by decide
            have c48 := eqI h46
            rw [f_X4_read_J213]
            refine Sf_ite (fun h49 => ?_) (fun h49 => ?_)
            · skip
              have c50 := eqI h49
              refine Sf_rdI (by omega) (by omega) (fun v244_112 hv51 => ?_)
              have g52 := rgI v244_112
              refine Sf_nmI (fun v249_116 hv53 => ?_)
              have g54 := rgI (v3_1 ^^^ (-1))
              have g55 := rgI (v244_112 &&& (v3_1 ^^^ (-1)))
              have q56 := eqI hv53
              refine Sf_wrI (by omega) (by omega) (fun g249_119 hw57 => ?_)
              refine Sf_nmI (fun v250_124 hv58 => ?_)
              have g59 := rgI (x6_34 + 1)
              first | have e60 := adN x6_34 1 (1) (by decide) (by omega) (by omega) | skip
              have q61 := eqI hv58
              exact ih r79_45 v250_124 g249_119 g158_90 o_values201_102 (by omega) (by omega) (by omega)
            · skip
              have c62 := neI h49
              refine Sf_rdI (by omega) (by omega) (fun v232_128 hv63 => ?_)
              have g64 := rgI v232_128
              refine Sf_nmI (fun v249_132 hv65 => ?_)
              have g66 := rgI (v232_128 ||| v3_1)
              have q67 := eqI hv65
              refine Sf_wrI (by omega) (by omega) (fun g249_135 hw68 => ?_)
              refine Sf_nmI (fun v250_140 hv69 => ?_)
              have g70 := rgI (x6_34 + 1)
              first | have e71 := adN x6_34 1 (1) (by decide) (by omega) (by omega) | skip
              have q72 := eqI hv69
              exact ih r79_45 v250_140 g249_135 g158_90 o_values201_102 (by omega) (by omega) (by omega)
          · skip
            have l73 : ((-1) : Int32).toInt = -1 := by decide
            have c74 := neI h46
            rw [f_X4_read_J213]
            refine Sf_ite (fun h75 => ?_) (fun h75 => ?_)
            · skip
              have l76 : (1 : Int32).toInt = 1 := by decide
              have c77 := eqI h75
              refine Sf_rdI (by omega) (by omega) (fun v244_112 hv78 => ?_)
              have g79 := rgI v244_112
              refine Sf_nmI (fun v249_116 hv80 => ?_)
              have g81 := rgI (v3_1 ^^^ (-1))
              have g82 := rgI (v244_112 &&& (v3_1 ^^^ (-1)))
              have q83 := eqI hv80
              refine Sf_wrI (by omega) (by omega) (fun g249_119 hw84 => ?_)
              refine Sf_nmI (fun v250_124 hv85 => ?_)
              have g86 := rgI (x6_34 + 1)
              first | have e87 := adN x6_34 1 (1) (by decide) (by omega) (by omega) | skip
              have q88 := eqI hv85
              exact ih r79_45 v250_124 g249_119 g158_90 o_values201_102 (by omega) (by omega) (by omega)
            · skip
              have l89 : (1 : Int32).toInt = 1 := by decide
              have c90 := neI h75
              refine Sf_rdI (by omega) (by omega) (fun v232_128 hv91 => ?_)
              have g92 := rgI v232_128
              refine Sf_nmI (fun v249_132 hv93 => ?_)
              have g94 := rgI (v232_128 ||| v3_1)
              have q95 := eqI hv93
              refine Sf_wrI (by omega) (by omega) (fun g249_135 hw96 => ?_)
              refine Sf_nmI (fun v250_140 hv97 => ?_)
              have g98 := rgI (x6_34 + 1)
              first | have e99 := adN x6_34 1 (1) (by decide) (by omega) (by omega) | skip
              have q100 := eqI hv97
              exact ih r79_45 v250_140 g249_135 g158_90 o_values201_102 (by omega) (by omega) (by omega)
        · skip
          have c101 := neI h42
          have g102 := rgI (x6_34 - 1)
          first | have e103 := sbN x6_34 1 (1) (by decide) (by omega) (by omega) | skip
          refine Sf_cb1 (s_X4_isMarked marked__35 p1 (x6_34 - 1) ) (fun r177_150 hp104 => ?_)
          have hp104 : ((r177_150.toInt = 0 ∨ r177_150.toInt = 1)) := hp104
          have g105 := rgI r177_150
          refine Sf_ite (fun h106 => ?_) (fun h106 => ?_)
          · skip
            have c107 := eqI h106
            have l108 : (116 : Int32).toInt = 116 := by decide
            refine Sf_rdI (by omega) (by omega) (fun v188_158 hv109 => ?_)
            have g110 := rgI v188_158
            refine Sf_nmI (fun v191_162 hv111 => ?_)
            have g112 := rgI (v188_158 + 1)
            first | have e113 := adN v188_158 1 (1) (by decide) (by omega) (by omega) | skip
            have q114 := eqI hv111
            refine Sf_wrI (by omega) (by omega) (fun g191_165 hw115 => ?_)
            rw [f_X4_read_J192]
            refine Sf_cb2 (s_X5_firstThatHolds n_p2_code n_p2_middles n_p2_starts s_p2_clauses s_p2_code s_p2_middles s_p2_starts g191_165 reckoner_values__37 (by omega) (by omega) (by omega) (by omega) (by omega) (by assumption) (by assumption)) (fun r201_101 o_values201_102 hp116 => ?_)
            have hp116 : (r201_101.toInt = -1 ∨ (0 ≤ r201_101.toInt ∧ r201_101.toInt < s_p2_clauses.toInt)) := hp116
            have g117 := rgI r201_101
            refine Sf_ite (fun h118 => ?_) (fun h118 => ?_)
            · skip
              have l119 : ((-1) : Int32).toInt = -1 := by decide
              have c120 := eqI h118
              rw [f_X4_read_J213]
              refine Sf_ite (fun h121 => ?_) (fun h121 => ?_)
              · skip
                have c122 := eqI h121
                refine Sf_rdI (by omega) (by omega) (fun v244_112 hv123 => ?_)
                have g124 := rgI v244_112
                refine Sf_nmI (fun v249_116 hv125 => ?_)
                have g126 := rgI (v3_1 ^^^ (-1))
                have g127 := rgI (v244_112 &&& (v3_1 ^^^ (-1)))
                have q128 := eqI hv125
                refine Sf_wrI (by omega) (by omega) (fun g249_119 hw129 => ?_)
                refine Sf_nmI (fun v250_124 hv130 => ?_)
                have g131 := rgI (x6_34 + 1)
                first | have e132 := adN x6_34 1 (1) (by decide) (by omega) (by omega) | skip
                have q133 := eqI hv130
                exact ih r79_45 v250_124 g249_119 g191_165 o_values201_102 (by omega) (by omega) (by omega)
              · skip
                have c134 := neI h121
                refine Sf_rdI (by omega) (by omega) (fun v232_128 hv135 => ?_)
                have g136 := rgI v232_128
                refine Sf_nmI (fun v249_132 hv137 => ?_)
                have g138 := rgI (v232_128 ||| v3_1)
                have q139 := eqI hv137
                refine Sf_wrI (by omega) (by omega) (fun g249_135 hw140 => ?_)
                refine Sf_nmI (fun v250_140 hv141 => ?_)
                have g142 := rgI (x6_34 + 1)
                first | have e143 := adN x6_34 1 (1) (by decide) (by omega) (by omega) | skip
                have q144 := eqI hv141
                exact ih r79_45 v250_140 g249_135 g191_165 o_values201_102 (by omega) (by omega) (by omega)
            · skip
              have l145 : ((-1) : Int32).toInt = -1 := by decide
              have c146 := neI h118
              rw [f_X4_read_J213]
              refine Sf_ite (fun h147 => ?_) (fun h147 => ?_)
              · skip
                have l148 : (1 : Int32).toInt = 1 := by decide
                have c149 := eqI h147
                refine Sf_rdI (by omega) (by omega) (fun v244_112 hv150 => ?_)
                have g151 := rgI v244_112
                refine Sf_nmI (fun v249_116 hv152 => ?_)
                have g153 := rgI (v3_1 ^^^ (-1))
                have g154 := rgI (v244_112 &&& (v3_1 ^^^ (-1)))
                have q155 := eqI hv152
                refine Sf_wrI (by omega) (by omega) (fun g249_119 hw156 => ?_)
                refine Sf_nmI (fun v250_124 hv157 => ?_)
                have g158 := rgI (x6_34 + 1)
                first | have e159 := adN x6_34 1 (1) (by decide) (by omega) (by omega) | skip
                have q160 := eqI hv157
                exact ih r79_45 v250_124 g249_119 g191_165 o_values201_102 (by omega) (by omega) (by omega)
              · skip
                have l161 : (1 : Int32).toInt = 1 := by decide
                have c162 := neI h147
                refine Sf_rdI (by omega) (by omega) (fun v232_128 hv163 => ?_)
                have g164 := rgI v232_128
                refine Sf_nmI (fun v249_132 hv165 => ?_)
                have g166 := rgI (v232_128 ||| v3_1)
                have q167 := eqI hv165
                refine Sf_wrI (by omega) (by omega) (fun g249_135 hw168 => ?_)
                refine Sf_nmI (fun v250_140 hv169 => ?_)
                have g170 := rgI (x6_34 + 1)
                first | have e171 := adN x6_34 1 (1) (by decide) (by omega) (by omega) | skip
                have q172 := eqI hv169
                exact ih r79_45 v250_140 g249_135 g191_165 o_values201_102 (by omega) (by omega) (by omega)
          · skip
            have c173 := neI h106
            rw [f_X4_read_J192]
            refine Sf_cb2 (s_X5_firstThatHolds n_p2_code n_p2_middles n_p2_starts s_p2_clauses s_p2_code s_p2_middles s_p2_starts g158_90 reckoner_values__37 (by omega) (by omega) (by omega) (by omega) (by omega) (by assumption) (by assumption)) (fun r201_101 o_values201_102 hp174 => ?_)
            have hp174 : (r201_101.toInt = -1 ∨ (0 ≤ r201_101.toInt ∧ r201_101.toInt < s_p2_clauses.toInt)) := hp174
            have g175 := rgI r201_101
            refine Sf_ite (fun h176 => ?_) (fun h176 => ?_)
            · skip
              have l177 : ((-1) : Int32).toInt = -1 := by decide
              have c178 := eqI h176
              rw [f_X4_read_J213]
              refine Sf_ite (fun h179 => ?_) (fun h179 => ?_)
              · skip
                have c180 := eqI h179
                refine Sf_rdI (by omega) (by omega) (fun v244_112 hv181 => ?_)
                have g182 := rgI v244_112
                refine Sf_nmI (fun v249_116 hv183 => ?_)
                have g184 := rgI (v3_1 ^^^ (-1))
                have g185 := rgI (v244_112 &&& (v3_1 ^^^ (-1)))
                have q186 := eqI hv183
                refine Sf_wrI (by omega) (by omega) (fun g249_119 hw187 => ?_)
                refine Sf_nmI (fun v250_124 hv188 => ?_)
                have g189 := rgI (x6_34 + 1)
                first | have e190 := adN x6_34 1 (1) (by decide) (by omega) (by omega) | skip
                have q191 := eqI hv188
                exact ih r79_45 v250_124 g249_119 g158_90 o_values201_102 (by omega) (by omega) (by omega)
              · skip
                have c192 := neI h179
                refine Sf_rdI (by omega) (by omega) (fun v232_128 hv193 => ?_)
                have g194 := rgI v232_128
                refine Sf_nmI (fun v249_132 hv195 => ?_)
                have g196 := rgI (v232_128 ||| v3_1)
                have q197 := eqI hv195
                refine Sf_wrI (by omega) (by omega) (fun g249_135 hw198 => ?_)
                refine Sf_nmI (fun v250_140 hv199 => ?_)
                have g200 := rgI (x6_34 + 1)
                first | have e201 := adN x6_34 1 (1) (by decide) (by omega) (by omega) | skip
                have q202 := eqI hv199
                exact ih r79_45 v250_140 g249_135 g158_90 o_values201_102 (by omega) (by omega) (by omega)
            · skip
              have l203 : ((-1) : Int32).toInt = -1 := by decide
              have c204 := neI h176
              rw [f_X4_read_J213]
              refine Sf_ite (fun h205 => ?_) (fun h205 => ?_)
              · skip
                have l206 : (1 : Int32).toInt = 1 := by decide
                have c207 := eqI h205
                refine Sf_rdI (by omega) (by omega) (fun v244_112 hv208 => ?_)
                have g209 := rgI v244_112
                refine Sf_nmI (fun v249_116 hv210 => ?_)
                have g211 := rgI (v3_1 ^^^ (-1))
                have g212 := rgI (v244_112 &&& (v3_1 ^^^ (-1)))
                have q213 := eqI hv210
                refine Sf_wrI (by omega) (by omega) (fun g249_119 hw214 => ?_)
                refine Sf_nmI (fun v250_124 hv215 => ?_)
                have g216 := rgI (x6_34 + 1)
                first | have e217 := adN x6_34 1 (1) (by decide) (by omega) (by omega) | skip
                have q218 := eqI hv215
                exact ih r79_45 v250_124 g249_119 g158_90 o_values201_102 (by omega) (by omega) (by omega)
              · skip
                have l219 : (1 : Int32).toInt = 1 := by decide
                have c220 := neI h205
                refine Sf_rdI (by omega) (by omega) (fun v232_128 hv221 => ?_)
                have g222 := rgI v232_128
                refine Sf_nmI (fun v249_132 hv223 => ?_)
                have g224 := rgI (v232_128 ||| v3_1)
                have q225 := eqI hv223
                refine Sf_wrI (by omega) (by omega) (fun g249_135 hw226 => ?_)
                refine Sf_nmI (fun v250_140 hv227 => ?_)
                have g228 := rgI (x6_34 + 1)
                first | have e229 := adN x6_34 1 (1) (by decide) (by omega) (by omega) | skip
                have q230 := eqI hv227
                exact ih r79_45 v250_140 g249_135 g158_90 o_values201_102 (by omega) (by omega) (by omega)
      · skip
        have l231 : (0 : Int32).toInt = 0 := by decide
        have c232 := nleI h23
        have g233 := rgI (x6_34 - 1)
        first | have e234 := sbN x6_34 1 (1) (by decide) (by omega) (by omega) | skip
        refine Sf_rdI (by omega) (by omega) (fun v120_173 hv235 => ?_)
        have g236 := rgI v120_173
        rw [f_X4_read_J125]
        have l237 : (98 : Int32).toInt = 98 := by decide
        refine Sf_wrI (by omega) (by omega) (fun g125_66 hw238 => ?_)
        refine Sf_rdI (by omega) (by omega) (fun v136_71 hv239 => ?_)
        have g240 := rgI v136_71
        have l241 : (108 : Int32).toInt = 108 := by decide
        refine Sf_wrI (by omega) (by omega) (fun g137_75 hw242 => ?_)
        have l243 : (109 : Int32).toInt = 109 := by decide
        refine Sf_wrI (by omega) (by omega) (fun g144_80 hw244 => ?_)
        refine Sf_cb1 (s_X11_starMinute s_day x6_34 ) (fun r155_85 hp245 => ?_)
        have g246 := rgI r155_85
        have l247 : (115 : Int32).toInt = 115 := by decide
        refine Sf_wrI (by omega) (by omega) (fun g158_90 hw248 => ?_)
        have g249 := rgI (x6_34 - 2)
        first | have e250 := sbN x6_34 2 (2) (by decide) (by omega) (by omega) | skip
        refine Sf_cb1 (s_X4_isMarked marked__35 p1 (x6_34 - 2) ) (fun r165_95 hp251 => ?_)
        have hp251 : ((r165_95.toInt = 0 ∨ r165_95.toInt = 1)) := hp251
        have g252 := rgI r165_95
        refine Sf_ite (fun h253 => ?_) (fun h253 => ?_)
        · skip
          have c254 := eqI h253
          rw [f_X4_read_J192]
          refine Sf_cb2 (s_X5_firstThatHolds n_p2_code n_p2_middles n_p2_starts s_p2_clauses s_p2_code s_p2_middles s_p2_starts g158_90 reckoner_values__37 (by omega) (by omega) (by omega) (by omega) (by omega) (by assumption) (by assumption)) (fun r201_101 o_values201_102 hp255 => ?_)
          have hp255 : (r201_101.toInt = -1 ∨ (0 ≤ r201_101.toInt ∧ r201_101.toInt < s_p2_clauses.toInt)) := hp255
          have g256 := rgI r201_101
          refine Sf_ite (fun h257 => ?_) (fun h257 => ?_)
          · skip
            have l258 : ((-1) : Int32).toInt = -1 := by decide
            have c259 := eqI h257
            rw [f_X4_read_J213]
            refine Sf_ite (fun h260 => ?_) (fun h260 => ?_)
            · skip
              have c261 := eqI h260
              refine Sf_rdI (by omega) (by omega) (fun v244_112 hv262 => ?_)
              have g263 := rgI v244_112
              refine Sf_nmI (fun v249_116 hv264 => ?_)
              have g265 := rgI (v3_1 ^^^ (-1))
              have g266 := rgI (v244_112 &&& (v3_1 ^^^ (-1)))
              have q267 := eqI hv264
              refine Sf_wrI (by omega) (by omega) (fun g249_119 hw268 => ?_)
              refine Sf_nmI (fun v250_124 hv269 => ?_)
              have g270 := rgI (x6_34 + 1)
              first | have e271 := adN x6_34 1 (1) (by decide) (by omega) (by omega) | skip
              have q272 := eqI hv269
              exact ih r79_45 v250_124 g249_119 g158_90 o_values201_102 (by omega) (by omega) (by omega)
            · skip
              have c273 := neI h260
              refine Sf_rdI (by omega) (by omega) (fun v232_128 hv274 => ?_)
              have g275 := rgI v232_128
              refine Sf_nmI (fun v249_132 hv276 => ?_)
              have g277 := rgI (v232_128 ||| v3_1)
              have q278 := eqI hv276
              refine Sf_wrI (by omega) (by omega) (fun g249_135 hw279 => ?_)
              refine Sf_nmI (fun v250_140 hv280 => ?_)
              have g281 := rgI (x6_34 + 1)
              first | have e282 := adN x6_34 1 (1) (by decide) (by omega) (by omega) | skip
              have q283 := eqI hv280
              exact ih r79_45 v250_140 g249_135 g158_90 o_values201_102 (by omega) (by omega) (by omega)
          · skip
            have l284 : ((-1) : Int32).toInt = -1 := by decide
            have c285 := neI h257
            rw [f_X4_read_J213]
            refine Sf_ite (fun h286 => ?_) (fun h286 => ?_)
            · skip
              have l287 : (1 : Int32).toInt = 1 := by decide
              have c288 := eqI h286
              refine Sf_rdI (by omega) (by omega) (fun v244_112 hv289 => ?_)
              have g290 := rgI v244_112
              refine Sf_nmI (fun v249_116 hv291 => ?_)
              have g292 := rgI (v3_1 ^^^ (-1))
              have g293 := rgI (v244_112 &&& (v3_1 ^^^ (-1)))
              have q294 := eqI hv291
              refine Sf_wrI (by omega) (by omega) (fun g249_119 hw295 => ?_)
              refine Sf_nmI (fun v250_124 hv296 => ?_)
              have g297 := rgI (x6_34 + 1)
              first | have e298 := adN x6_34 1 (1) (by decide) (by omega) (by omega) | skip
              have q299 := eqI hv296
              exact ih r79_45 v250_124 g249_119 g158_90 o_values201_102 (by omega) (by omega) (by omega)
            · skip
              have l300 : (1 : Int32).toInt = 1 := by decide
              have c301 := neI h286
              refine Sf_rdI (by omega) (by omega) (fun v232_128 hv302 => ?_)
              have g303 := rgI v232_128
              refine Sf_nmI (fun v249_132 hv304 => ?_)
              have g305 := rgI (v232_128 ||| v3_1)
              have q306 := eqI hv304
              refine Sf_wrI (by omega) (by omega) (fun g249_135 hw307 => ?_)
              refine Sf_nmI (fun v250_140 hv308 => ?_)
              have g309 := rgI (x6_34 + 1)
              first | have e310 := adN x6_34 1 (1) (by decide) (by omega) (by omega) | skip
              have q311 := eqI hv308
              exact ih r79_45 v250_140 g249_135 g158_90 o_values201_102 (by omega) (by omega) (by omega)
        · skip
          have c312 := neI h253
          refine Sf_cb1 (s_X4_isMarked marked__35 p1 (x6_34 - 1) ) (fun r177_150 hp313 => ?_)
          have hp313 : ((r177_150.toInt = 0 ∨ r177_150.toInt = 1)) := hp313
          have g314 := rgI r177_150
          refine Sf_ite (fun h315 => ?_) (fun h315 => ?_)
          · skip
            have c316 := eqI h315
            have l317 : (116 : Int32).toInt = 116 := by decide
            refine Sf_rdI (by omega) (by omega) (fun v188_158 hv318 => ?_)
            have g319 := rgI v188_158
            refine Sf_nmI (fun v191_162 hv320 => ?_)
            have g321 := rgI (v188_158 + 1)
            first | have e322 := adN v188_158 1 (1) (by decide) (by omega) (by omega) | skip
            have q323 := eqI hv320
            refine Sf_wrI (by omega) (by omega) (fun g191_165 hw324 => ?_)
            rw [f_X4_read_J192]
            refine Sf_cb2 (s_X5_firstThatHolds n_p2_code n_p2_middles n_p2_starts s_p2_clauses s_p2_code s_p2_middles s_p2_starts g191_165 reckoner_values__37 (by omega) (by omega) (by omega) (by omega) (by omega) (by assumption) (by assumption)) (fun r201_101 o_values201_102 hp325 => ?_)
            have hp325 : (r201_101.toInt = -1 ∨ (0 ≤ r201_101.toInt ∧ r201_101.toInt < s_p2_clauses.toInt)) := hp325
            have g326 := rgI r201_101
            refine Sf_ite (fun h327 => ?_) (fun h327 => ?_)
            · skip
              have l328 : ((-1) : Int32).toInt = -1 := by decide
              have c329 := eqI h327
              rw [f_X4_read_J213]
              refine Sf_ite (fun h330 => ?_) (fun h330 => ?_)
              · skip
                have c331 := eqI h330
                refine Sf_rdI (by omega) (by omega) (fun v244_112 hv332 => ?_)
                have g333 := rgI v244_112
                refine Sf_nmI (fun v249_116 hv334 => ?_)
                have g335 := rgI (v3_1 ^^^ (-1))
                have g336 := rgI (v244_112 &&& (v3_1 ^^^ (-1)))
                have q337 := eqI hv334
                refine Sf_wrI (by omega) (by omega) (fun g249_119 hw338 => ?_)
                refine Sf_nmI (fun v250_124 hv339 => ?_)
                have g340 := rgI (x6_34 + 1)
                first | have e341 := adN x6_34 1 (1) (by decide) (by omega) (by omega) | skip
                have q342 := eqI hv339
                exact ih r79_45 v250_124 g249_119 g191_165 o_values201_102 (by omega) (by omega) (by omega)
              · skip
                have c343 := neI h330
                refine Sf_rdI (by omega) (by omega) (fun v232_128 hv344 => ?_)
                have g345 := rgI v232_128
                refine Sf_nmI (fun v249_132 hv346 => ?_)
                have g347 := rgI (v232_128 ||| v3_1)
                have q348 := eqI hv346
                refine Sf_wrI (by omega) (by omega) (fun g249_135 hw349 => ?_)
                refine Sf_nmI (fun v250_140 hv350 => ?_)
                have g351 := rgI (x6_34 + 1)
                first | have e352 := adN x6_34 1 (1) (by decide) (by omega) (by omega) | skip
                have q353 := eqI hv350
                exact ih r79_45 v250_140 g249_135 g191_165 o_values201_102 (by omega) (by omega) (by omega)
            · skip
              have l354 : ((-1) : Int32).toInt = -1 := by decide
              have c355 := neI h327
              rw [f_X4_read_J213]
              refine Sf_ite (fun h356 => ?_) (fun h356 => ?_)
              · skip
                have l357 : (1 : Int32).toInt = 1 := by decide
                have c358 := eqI h356
                refine Sf_rdI (by omega) (by omega) (fun v244_112 hv359 => ?_)
                have g360 := rgI v244_112
                refine Sf_nmI (fun v249_116 hv361 => ?_)
                have g362 := rgI (v3_1 ^^^ (-1))
                have g363 := rgI (v244_112 &&& (v3_1 ^^^ (-1)))
                have q364 := eqI hv361
                refine Sf_wrI (by omega) (by omega) (fun g249_119 hw365 => ?_)
                refine Sf_nmI (fun v250_124 hv366 => ?_)
                have g367 := rgI (x6_34 + 1)
                first | have e368 := adN x6_34 1 (1) (by decide) (by omega) (by omega) | skip
                have q369 := eqI hv366
                exact ih r79_45 v250_124 g249_119 g191_165 o_values201_102 (by omega) (by omega) (by omega)
              · skip
                have l370 : (1 : Int32).toInt = 1 := by decide
                have c371 := neI h356
                refine Sf_rdI (by omega) (by omega) (fun v232_128 hv372 => ?_)
                have g373 := rgI v232_128
                refine Sf_nmI (fun v249_132 hv374 => ?_)
                have g375 := rgI (v232_128 ||| v3_1)
                have q376 := eqI hv374
                refine Sf_wrI (by omega) (by omega) (fun g249_135 hw377 => ?_)
                refine Sf_nmI (fun v250_140 hv378 => ?_)
                have g379 := rgI (x6_34 + 1)
                first | have e380 := adN x6_34 1 (1) (by decide) (by omega) (by omega) | skip
                have q381 := eqI hv378
                exact ih r79_45 v250_140 g249_135 g191_165 o_values201_102 (by omega) (by omega) (by omega)
          · skip
            have c382 := neI h315
            rw [f_X4_read_J192]
            refine Sf_cb2 (s_X5_firstThatHolds n_p2_code n_p2_middles n_p2_starts s_p2_clauses s_p2_code s_p2_middles s_p2_starts g158_90 reckoner_values__37 (by omega) (by omega) (by omega) (by omega) (by omega) (by assumption) (by assumption)) (fun r201_101 o_values201_102 hp383 => ?_)
            have hp383 : (r201_101.toInt = -1 ∨ (0 ≤ r201_101.toInt ∧ r201_101.toInt < s_p2_clauses.toInt)) := hp383
            have g384 := rgI r201_101
            refine Sf_ite (fun h385 => ?_) (fun h385 => ?_)
            · skip
              have l386 : ((-1) : Int32).toInt = -1 := by decide
              have c387 := eqI h385
              rw [f_X4_read_J213]
              refine Sf_ite (fun h388 => ?_) (fun h388 => ?_)
              · skip
                have c389 := eqI h388
                refine Sf_rdI (by omega) (by omega) (fun v244_112 hv390 => ?_)
                have g391 := rgI v244_112
                refine Sf_nmI (fun v249_116 hv392 => ?_)
                have g393 := rgI (v3_1 ^^^ (-1))
                have g394 := rgI (v244_112 &&& (v3_1 ^^^ (-1)))
                have q395 := eqI hv392
                refine Sf_wrI (by omega) (by omega) (fun g249_119 hw396 => ?_)
                refine Sf_nmI (fun v250_124 hv397 => ?_)
                have g398 := rgI (x6_34 + 1)
                first | have e399 := adN x6_34 1 (1) (by decide) (by omega) (by omega) | skip
                have q400 := eqI hv397
                exact ih r79_45 v250_124 g249_119 g158_90 o_values201_102 (by omega) (by omega) (by omega)
              · skip
                have c401 := neI h388
                refine Sf_rdI (by omega) (by omega) (fun v232_128 hv402 => ?_)
                have g403 := rgI v232_128
                refine Sf_nmI (fun v249_132 hv404 => ?_)
                have g405 := rgI (v232_128 ||| v3_1)
                have q406 := eqI hv404
                refine Sf_wrI (by omega) (by omega) (fun g249_135 hw407 => ?_)
                refine Sf_nmI (fun v250_140 hv408 => ?_)
                have g409 := rgI (x6_34 + 1)
                first | have e410 := adN x6_34 1 (1) (by decide) (by omega) (by omega) | skip
                have q411 := eqI hv408
                exact ih r79_45 v250_140 g249_135 g158_90 o_values201_102 (by omega) (by omega) (by omega)
            · skip
              have l412 : ((-1) : Int32).toInt = -1 := by decide
              have c413 := neI h385
              rw [f_X4_read_J213]
              refine Sf_ite (fun h414 => ?_) (fun h414 => ?_)
              · skip
                have l415 : (1 : Int32).toInt = 1 := by decide
                have c416 := eqI h414
                refine Sf_rdI (by omega) (by omega) (fun v244_112 hv417 => ?_)
                have g418 := rgI v244_112
                refine Sf_nmI (fun v249_116 hv419 => ?_)
                have g420 := rgI (v3_1 ^^^ (-1))
                have g421 := rgI (v244_112 &&& (v3_1 ^^^ (-1)))
                have q422 := eqI hv419
                refine Sf_wrI (by omega) (by omega) (fun g249_119 hw423 => ?_)
                refine Sf_nmI (fun v250_124 hv424 => ?_)
                have g425 := rgI (x6_34 + 1)
                first | have e426 := adN x6_34 1 (1) (by decide) (by omega) (by omega) | skip
                have q427 := eqI hv424
                exact ih r79_45 v250_124 g249_119 g158_90 o_values201_102 (by omega) (by omega) (by omega)
              · skip
                have l428 : (1 : Int32).toInt = 1 := by decide
                have c429 := neI h414
                refine Sf_rdI (by omega) (by omega) (fun v232_128 hv430 => ?_)
                have g431 := rgI v232_128
                refine Sf_nmI (fun v249_132 hv432 => ?_)
                have g433 := rgI (v232_128 ||| v3_1)
                have q434 := eqI hv432
                refine Sf_wrI (by omega) (by omega) (fun g249_135 hw435 => ?_)
                refine Sf_nmI (fun v250_140 hv436 => ?_)
                have g437 := rgI (x6_34 + 1)
                first | have e438 := adN x6_34 1 (1) (by decide) (by omega) (by omega) | skip
                have q439 := eqI hv436
                exact ih r79_45 v250_140 g249_135 g158_90 o_values201_102 (by omega) (by omega) (by omega)
set_option maxHeartbeats 4000000 in
set_option maxRecDepth 100000 in
theorem s_X4_read (n_p2_code : Nat) (n_p2_middles : Nat) (n_p2_starts : Nat) (s_readers : Int32) (s_day : Int32) (s_p2_clauses : Int32) (s_p2_code : Nat → Int32) (s_p2_middles : Nat → Int32) (s_p2_starts : Nat → Int32) (s_heights : Nat → Int32) (s_marked : Nat → Int32) (s_shapes : Nat → Int32) (s_reckoner_letters : Nat → Int32) (s_reckoner_values : Nat → Int32) (p1 : Int32) (hp0 : n_p2_code ≤ 120) (hp1 : (n_p2_middles : Int) = s_p2_clauses.toInt) (hp2 : (n_p2_starts : Int) = s_p2_clauses.toInt + 1) (hp3 : 0 ≤ s_p2_clauses.toInt) (hp4 : s_p2_clauses.toInt ≤ 12) (hp5 : ∀ j, 0 ≤ (s_p2_middles j).toInt ∧ (s_p2_middles j).toInt ≤ 120) (hp6 : ∀ j, 0 ≤ (s_p2_starts j).toInt ∧ (s_p2_starts j).toInt ≤ 120) : Sf (f_X4_read n_p2_code n_p2_middles n_p2_starts s_readers s_day s_p2_clauses s_p2_code s_p2_middles s_p2_starts s_heights s_marked s_shapes s_reckoner_letters s_reckoner_values p1) (fun (y : Int32 × (Nat → Int32) × (Nat → Int32) × (Nat → Int32)) => True) := by
  have g1 := rgI s_readers
  have g2 := rgI s_day
  have g3 := rgI s_p2_clauses
  have g4 := rgI p1
  have hFU : (100000 : Int) ≤ (FU : Int) := Int.ofNat_le.mpr FU_ge
  rw [f_X4_read]
  refine Sf_nmI (fun v3_1 hv5 => ?_)
  have l6 : (1 : Int32).toInt = 1 := by decide
  have g7 := rgI (jshl 1 p1)
  have q8 := eqI hv5
  refine Sf_ite (fun h9 => ?_) (fun h9 => ?_)
  · skip
    have g10 := rgI (s_readers &&& v3_1)
    have l11 : (0 : Int32).toInt = 0 := by decide
    have c12 := eqI h9
    refine Sf_nmI (fun v21_8 hv13 => ?_)
    have g14 := rgI (s_readers ||| v3_1)
    have q15 := eqI hv13
    have l16 : (100 : Int32).toInt = 100 := by decide
    refine Sf_wrI (by omega) (by omega) (fun g41_13 hw17 => ?_)
    refine Sf_nmI (fun v53_18 hv18 => ?_)
    have l19 : (7 : Int32).toInt = 7 := by decide
    have g20 := rgI (jrem s_day 7)
    have m21 := rm_ s_day 7 (by decide)
    have q22 := eqI hv18
    have l23 : (102 : Int32).toInt = 102 := by decide
    refine Sf_wrI (by omega) (by omega) (fun g53_21 hw24 => ?_)
    have l25 : (116 : Int32).toInt = 116 := by decide
    refine Sf_wrI (by omega) (by omega) (fun g59_26 hw26 => ?_)
    refine s_X4_read_L66 s_day s_p2_clauses n_p2_code s_p2_code n_p2_middles s_p2_middles n_p2_starts s_p2_starts s_heights s_shapes p1 v3_1 v21_8 (by omega) (by omega) (by omega) (by omega) (by omega) (by assumption) (by assumption)  FU 0 0 s_marked g59_26 s_reckoner_values (by omega) (by omega) (by omega)
  · skip
    have g27 := rgI (s_readers &&& v3_1)
    have l28 : (0 : Int32).toInt = 0 := by decide
    have c29 := neI h9
    exact Sf_some trivial
set_option maxHeartbeats 4000000 in
set_option maxRecDepth 100000 in
theorem s_X4_read_N_L66 (s_day : Int32) (s_heights : Nat → Int32) (s_shapes : Nat → Int32) (p1 : Int32) (v3_1 : Int32) (v21_8 : Int32)  : ∀ (n : Nat) (x5_33 : Int32) (x6_34 : Int32) (marked__35 : Nat → Int32) (reckoner_letters__36 : Nat → Int32), (0 ≤ x6_34.toInt) → (x6_34.toInt ≤ 1440) → (1441 - x6_34.toInt < (n : Int)) → Sf (f_X4_read_N_L66 s_day s_heights s_shapes p1 v3_1 v21_8 n x5_33 x6_34 marked__35 reckoner_letters__36) (fun (y : Int32 × (Nat → Int32) × (Nat → Int32)) => True) := by
  have hFU : (100000 : Int) ≤ (FU : Int) := Int.ofNat_le.mpr FU_ge
  have g1 := rgI s_day
  have g2 := rgI p1
  have g3 := rgI v3_1
  have g4 := rgI v21_8
  intro n
  induction n with
  | zero =>
    intro x5_33 x6_34 marked__35 reckoner_letters__36 hi0 hi1 hm
    have g5 := rgI x5_33
    have g6 := rgI x6_34
    exact absurd hm (by omega)
  | succ n ih =>
    intro x5_33 x6_34 marked__35 reckoner_letters__36 hi0 hi1 hm
    rw [f_X4_read_N_L66]
    have g7 := rgI x5_33
    have g8 := rgI x6_34
    refine Sf_ite (fun h9 => ?_) (fun h9 => ?_)
    · skip
      have l10 : (1440 : Int32).toInt = 1440 := by decide
      have c11 := leI h9
      exact Sf_some trivial
    · skip
      have l12 : (1440 : Int32).toInt = 1440 := by decide
      have c13 := nleI h9
      refine Sf_cb1 (s_X4_greatestBefore s_heights x6_34 x5_33 (by omega) (by omega)) (fun r79_43 hp14 => ?_)
      have g15 := rgI r79_43
      have l16 : (103 : Int32).toInt = 103 := by decide
      refine Sf_wrI (by omega) (by omega) (fun g90_49 hw17 => ?_)
      refine Sf_rdI (by omega) (by omega) (fun v101_54 hv18 => ?_)
      have g19 := rgI v101_54
      have l20 : (104 : Int32).toInt = 104 := by decide
      refine Sf_wrI (by omega) (by omega) (fun g102_58 hw21 => ?_)
      refine Sf_ite (fun h22 => ?_) (fun h22 => ?_)
      · skip
        have l23 : (0 : Int32).toInt = 0 := by decide
        have c24 := leI h22
        rw [f_X4_read_N_J125]
        have l25 : (98 : Int32).toInt = 98 := by decide
        refine Sf_wrI (by omega) (by omega) (fun g125_64 hw26 => ?_)
        refine Sf_rdI (by omega) (by omega) (fun v136_69 hv27 => ?_)
        have g28 := rgI v136_69
        have l29 : (108 : Int32).toInt = 108 := by decide
        refine Sf_wrI (by omega) (by omega) (fun g137_73 hw30 => ?_)
        have l31 : (109 : Int32).toInt = 109 := by decide
        refine Sf_wrI (by omega) (by omega) (fun g144_78 hw32 => ?_)
        refine Sf_cb1 (s_X11_starMinute s_day x6_34 ) (fun r155_83 hp33 => ?_)
        have g34 := rgI r155_83
        have l35 : (115 : Int32).toInt = 115 := by decide
        refine Sf_wrI (by omega) (by omega) (fun g158_88 hw36 => ?_)
        have g37 := rgI (x6_34 - 2)
        first | have e38 := sbN x6_34 2 (2) (by decide) (by omega) (by omega) | skip
        refine Sf_cb1 (s_X4_isMarked marked__35 p1 (x6_34 - 2) ) (fun r165_93 hp39 => ?_)
        have hp39 : ((r165_93.toInt = 0 ∨ r165_93.toInt = 1)) := hp39
        have g40 := rgI r165_93
        refine Sf_ite (fun h41 => ?_) (fun h41 => ?_)
        · skip
          have c42 := eqI h41
          rw [f_X4_read_N_J192]
          refine Sf_rdI (by omega) (by omega) (fun v244_101 hv43 => ?_)
          have g44 := rgI v244_101
          refine Sf_nmI (fun v249_105 hv45 => ?_)
          have l46 : ((-1) : Int32).toInt = -1 := by decide
          have g47 := rgI (v3_1 ^^^ (-1))
          have g48 := rgI (v244_101 &&& (v3_1 ^^^ (-1)))
          have q49 := eqI hv45
          refine Sf_wrI (by omega) (by omega) (fun g249_108 hw50 => ?_)
          refine Sf_nmI (fun v250_113 hv51 => ?_)
          have g52 := rgI (x6_34 + 1)
          first | have e53 := adN x6_34 1 (1) (by decide) (by omega) (by omega) | skip
          have q54 := eqI hv51
          exact ih r79_43 v250_113 g249_108 g158_88 (by omega) (by omega) (by omega)
        · skip
          have c55 := neI h41
          have g56 := rgI (x6_34 - 1)
          first | have e57 := sbN x6_34 1 (1) (by decide) (by omega) (by omega) | skip
          refine Sf_cb1 (s_X4_isMarked marked__35 p1 (x6_34 - 1) ) (fun r177_120 hp58 => ?_)
          have hp58 : ((r177_120.toInt = 0 ∨ r177_120.toInt = 1)) := hp58
          have g59 := rgI r177_120
          refine Sf_ite (fun h60 => ?_) (fun h60 => ?_)
          · skip
            have c61 := eqI h60
            have l62 : (116 : Int32).toInt = 116 := by decide
            refine Sf_rdI (by omega) (by omega) (fun v188_128 hv63 => ?_)
            have g64 := rgI v188_128
            refine Sf_nmI (fun v191_132 hv65 => ?_)
            have g66 := rgI (v188_128 + 1)
            first | have e67 := adN v188_128 1 (1) (by decide) (by omega) (by omega) | skip
            have q68 := eqI hv65
            refine Sf_wrI (by omega) (by omega) (fun g191_135 hw69 => ?_)
            rw [f_X4_read_N_J192]
            refine Sf_rdI (by omega) (by omega) (fun v244_101 hv70 => ?_)
            have g71 := rgI v244_101
            refine Sf_nmI (fun v249_105 hv72 => ?_)
            have l73 : ((-1) : Int32).toInt = -1 := by decide
            have g74 := rgI (v3_1 ^^^ (-1))
            have g75 := rgI (v244_101 &&& (v3_1 ^^^ (-1)))
            have q76 := eqI hv72
            refine Sf_wrI (by omega) (by omega) (fun g249_108 hw77 => ?_)
            refine Sf_nmI (fun v250_113 hv78 => ?_)
            have g79 := rgI (x6_34 + 1)
            first | have e80 := adN x6_34 1 (1) (by decide) (by omega) (by omega) | skip
            have q81 := eqI hv78
            exact ih r79_43 v250_113 g249_108 g191_135 (by omega) (by omega) (by omega)
          · skip
            have c82 := neI h60
            rw [f_X4_read_N_J192]
            refine Sf_rdI (by omega) (by omega) (fun v244_101 hv83 => ?_)
            have g84 := rgI v244_101
            refine Sf_nmI (fun v249_105 hv85 => ?_)
            have l86 : ((-1) : Int32).toInt = -1 := by decide
            have g87 := rgI (v3_1 ^^^ (-1))
            have g88 := rgI (v244_101 &&& (v3_1 ^^^ (-1)))
            have q89 := eqI hv85
            refine Sf_wrI (by omega) (by omega) (fun g249_108 hw90 => ?_)
            refine Sf_nmI (fun v250_113 hv91 => ?_)
            have g92 := rgI (x6_34 + 1)
            first | have e93 := adN x6_34 1 (1) (by decide) (by omega) (by omega) | skip
            have q94 := eqI hv91
            exact ih r79_43 v250_113 g249_108 g158_88 (by omega) (by omega) (by omega)
      · skip
        have l95 : (0 : Int32).toInt = 0 := by decide
        have c96 := nleI h22
        have g97 := rgI (x6_34 - 1)
        first | have e98 := sbN x6_34 1 (1) (by decide) (by omega) (by omega) | skip
        refine Sf_rdI (by omega) (by omega) (fun v120_143 hv99 => ?_)
        have g100 := rgI v120_143
        rw [f_X4_read_N_J125]
        have l101 : (98 : Int32).toInt = 98 := by decide
        refine Sf_wrI (by omega) (by omega) (fun g125_64 hw102 => ?_)
        refine Sf_rdI (by omega) (by omega) (fun v136_69 hv103 => ?_)
        have g104 := rgI v136_69
        have l105 : (108 : Int32).toInt = 108 := by decide
        refine Sf_wrI (by omega) (by omega) (fun g137_73 hw106 => ?_)
        have l107 : (109 : Int32).toInt = 109 := by decide
        refine Sf_wrI (by omega) (by omega) (fun g144_78 hw108 => ?_)
        refine Sf_cb1 (s_X11_starMinute s_day x6_34 ) (fun r155_83 hp109 => ?_)
        have g110 := rgI r155_83
        have l111 : (115 : Int32).toInt = 115 := by decide
        refine Sf_wrI (by omega) (by omega) (fun g158_88 hw112 => ?_)
        have g113 := rgI (x6_34 - 2)
        first | have e114 := sbN x6_34 2 (2) (by decide) (by omega) (by omega) | skip
        refine Sf_cb1 (s_X4_isMarked marked__35 p1 (x6_34 - 2) ) (fun r165_93 hp115 => ?_)
        have hp115 : ((r165_93.toInt = 0 ∨ r165_93.toInt = 1)) := hp115
        have g116 := rgI r165_93
        refine Sf_ite (fun h117 => ?_) (fun h117 => ?_)
        · skip
          have c118 := eqI h117
          rw [f_X4_read_N_J192]
          refine Sf_rdI (by omega) (by omega) (fun v244_101 hv119 => ?_)
          have g120 := rgI v244_101
          refine Sf_nmI (fun v249_105 hv121 => ?_)
          have l122 : ((-1) : Int32).toInt = -1 := by decide
          have g123 := rgI (v3_1 ^^^ (-1))
          have g124 := rgI (v244_101 &&& (v3_1 ^^^ (-1)))
          have q125 := eqI hv121
          refine Sf_wrI (by omega) (by omega) (fun g249_108 hw126 => ?_)
          refine Sf_nmI (fun v250_113 hv127 => ?_)
          have g128 := rgI (x6_34 + 1)
          first | have e129 := adN x6_34 1 (1) (by decide) (by omega) (by omega) | skip
          have q130 := eqI hv127
          exact ih r79_43 v250_113 g249_108 g158_88 (by omega) (by omega) (by omega)
        · skip
          have c131 := neI h117
          refine Sf_cb1 (s_X4_isMarked marked__35 p1 (x6_34 - 1) ) (fun r177_120 hp132 => ?_)
          have hp132 : ((r177_120.toInt = 0 ∨ r177_120.toInt = 1)) := hp132
          have g133 := rgI r177_120
          refine Sf_ite (fun h134 => ?_) (fun h134 => ?_)
          · skip
            have c135 := eqI h134
            have l136 : (116 : Int32).toInt = 116 := by decide
            refine Sf_rdI (by omega) (by omega) (fun v188_128 hv137 => ?_)
            have g138 := rgI v188_128
            refine Sf_nmI (fun v191_132 hv139 => ?_)
            have g140 := rgI (v188_128 + 1)
            first | have e141 := adN v188_128 1 (1) (by decide) (by omega) (by omega) | skip
            have q142 := eqI hv139
            refine Sf_wrI (by omega) (by omega) (fun g191_135 hw143 => ?_)
            rw [f_X4_read_N_J192]
            refine Sf_rdI (by omega) (by omega) (fun v244_101 hv144 => ?_)
            have g145 := rgI v244_101
            refine Sf_nmI (fun v249_105 hv146 => ?_)
            have l147 : ((-1) : Int32).toInt = -1 := by decide
            have g148 := rgI (v3_1 ^^^ (-1))
            have g149 := rgI (v244_101 &&& (v3_1 ^^^ (-1)))
            have q150 := eqI hv146
            refine Sf_wrI (by omega) (by omega) (fun g249_108 hw151 => ?_)
            refine Sf_nmI (fun v250_113 hv152 => ?_)
            have g153 := rgI (x6_34 + 1)
            first | have e154 := adN x6_34 1 (1) (by decide) (by omega) (by omega) | skip
            have q155 := eqI hv152
            exact ih r79_43 v250_113 g249_108 g191_135 (by omega) (by omega) (by omega)
          · skip
            have c156 := neI h134
            rw [f_X4_read_N_J192]
            refine Sf_rdI (by omega) (by omega) (fun v244_101 hv157 => ?_)
            have g158 := rgI v244_101
            refine Sf_nmI (fun v249_105 hv159 => ?_)
            have l160 : ((-1) : Int32).toInt = -1 := by decide
            have g161 := rgI (v3_1 ^^^ (-1))
            have g162 := rgI (v244_101 &&& (v3_1 ^^^ (-1)))
            have q163 := eqI hv159
            refine Sf_wrI (by omega) (by omega) (fun g249_108 hw164 => ?_)
            refine Sf_nmI (fun v250_113 hv165 => ?_)
            have g166 := rgI (x6_34 + 1)
            first | have e167 := adN x6_34 1 (1) (by decide) (by omega) (by omega) | skip
            have q168 := eqI hv165
            exact ih r79_43 v250_113 g249_108 g158_88 (by omega) (by omega) (by omega)
set_option maxHeartbeats 4000000 in
set_option maxRecDepth 100000 in
theorem s_X4_read_N (s_readers : Int32) (s_day : Int32) (s_heights : Nat → Int32) (s_marked : Nat → Int32) (s_shapes : Nat → Int32) (s_reckoner_letters : Nat → Int32) (p1 : Int32)  : Sf (f_X4_read_N s_readers s_day s_heights s_marked s_shapes s_reckoner_letters p1) (fun (y : Int32 × (Nat → Int32) × (Nat → Int32)) => True) := by
  have g1 := rgI s_readers
  have g2 := rgI s_day
  have g3 := rgI p1
  have hFU : (100000 : Int) ≤ (FU : Int) := Int.ofNat_le.mpr FU_ge
  rw [f_X4_read_N]
  refine Sf_nmI (fun v3_1 hv4 => ?_)
  have l5 : (1 : Int32).toInt = 1 := by decide
  have g6 := rgI (jshl 1 p1)
  have q7 := eqI hv4
  refine Sf_ite (fun h8 => ?_) (fun h8 => ?_)
  · skip
    have g9 := rgI (s_readers &&& v3_1)
    have l10 : (0 : Int32).toInt = 0 := by decide
    have c11 := eqI h8
    refine Sf_nmI (fun v21_8 hv12 => ?_)
    have g13 := rgI (s_readers ||| v3_1)
    have q14 := eqI hv12
    have l15 : (100 : Int32).toInt = 100 := by decide
    refine Sf_wrI (by omega) (by omega) (fun g41_13 hw16 => ?_)
    refine Sf_nmI (fun v53_18 hv17 => ?_)
    have l18 : (7 : Int32).toInt = 7 := by decide
    have g19 := rgI (jrem s_day 7)
    have m20 := rm_ s_day 7 (by decide)
    have q21 := eqI hv17
    have l22 : (102 : Int32).toInt = 102 := by decide
    refine Sf_wrI (by omega) (by omega) (fun g53_21 hw23 => ?_)
    have l24 : (116 : Int32).toInt = 116 := by decide
    refine Sf_wrI (by omega) (by omega) (fun g59_26 hw25 => ?_)
    refine s_X4_read_N_L66 s_day s_heights s_shapes p1 v3_1 v21_8   FU 0 0 s_marked g59_26 (by omega) (by omega) (by omega)
  · skip
    have g26 := rgI (s_readers &&& v3_1)
    have l27 : (0 : Int32).toInt = 0 := by decide
    have c28 := neI h8
    exact Sf_some trivial
