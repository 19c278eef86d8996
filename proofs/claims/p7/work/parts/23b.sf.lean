set_option maxHeartbeats 4000000 in
set_option maxRecDepth 100000 in
theorem s_X7_sourceAt (G : kG) (s_many : Int32) (p1 : Int32) (hp0 : 0 ≤ s_many.toInt) (hp1 : s_many.toInt ≤ 10) : Sf (f_X7_sourceAt G s_many p1) (fun (y : Option Nat) => (∀ i : Nat, y = some i → (i : Int) < s_many.toInt ∧ i < 10)) := by
  have g1 := rgI s_many
  have g2 := rgI p1
  have hFU : (100000 : Int) ≤ (FU : Int) := Int.ofNat_le.mpr FU_ge
  rw [f_X7_sourceAt]
  have l3 : (0 : Int32).toInt = 0 := by decide
  have g4 := rgI (s_many - 1)
  first | have e5 := sbN s_many 1 (1) (by decide) (by omega) (by omega) | skip
  refine Sf_cb1 (s_X11_isWithin p1 0 (s_many - 1) ) (fun r8_1 hp6 => ?_)
  have hp6 : ((r8_1.toInt = 0 ∨ r8_1.toInt = 1)) ∧ ((r8_1.toInt = 1 ∧ (0 : Int32).toInt ≤ p1.toInt ∧ p1.toInt ≤ (s_many - 1).toInt) ∨ (r8_1.toInt = 0 ∧ (p1.toInt < (0 : Int32).toInt ∨ (s_many - 1).toInt < p1.toInt))) := hp6
  obtain ⟨hq7, hq8⟩ := hp6
  have g9 := rgI r8_1
  refine Sf_ite (fun h10 => ?_) (fun h10 => ?_)
  · skip
    have c11 := eqI h10
    refine Sf_some (show (∀ i : Nat, none = some i → (i : Int) < s_many.toInt ∧ i < 10) from ?_)
    (intro i h; first | (cases h; done) | (cases h; have := tN p1 (by omega); exact ⟨by omega, by omega⟩))
  · skip
    have c12 := neI h10
    refine Sf_gdN (by omega) (by omega) ?_
    refine Sf_some (show (∀ i : Nat, (some (Int32.toNatClampNeg p1)) = some i → (i : Int) < s_many.toInt ∧ i < 10) from ?_)
    (intro i h; first | (cases h; done) | (cases h; have := tN p1 (by omega); exact ⟨by omega, by omega⟩))
set_option maxHeartbeats 4000000 in
set_option maxRecDepth 100000 in
theorem s_X2_storyAt (G : kG) (p1 : Int32)  : Sf (f_X2_storyAt G p1) (fun (y : Option Nat) => (∀ i, y = some i → 14 ≤ i ∧ i < 20)) := by
  have g1 := rgI p1
  have hFU : (100000 : Int) ≤ (FU : Int) := Int.ofNat_le.mpr FU_ge
  rw [f_X2_storyAt]
  refine Sf_cb1 (s_X11_isStory p1 ) (fun r1_1 hp2 => ?_)
  have hp2 : ((r1_1.toInt = 0 ∨ r1_1.toInt = 1)) ∧ ((r1_1.toInt = 1 ∧ 0 ≤ p1.toInt ∧ p1.toInt ≤ 5) ∨ (r1_1.toInt = 0 ∧ (p1.toInt < 0 ∨ 5 < p1.toInt))) := hp2
  obtain ⟨hq3, hq4⟩ := hp2
  have g5 := rgI r1_1
  refine Sf_ite (fun h6 => ?_) (fun h6 => ?_)
  · skip
    have l7 : (0 : Int32).toInt = 0 := by decide
    have c8 := eqI h6
    refine Sf_some (show (∀ i, none = some i → 14 ≤ i ∧ i < 20) from ?_)
    (intro i h; first | (cases h; done) | (cases h; have := tN p1 (by omega); exact ⟨by omega, by omega⟩))
  · skip
    have l9 : (0 : Int32).toInt = 0 := by decide
    have c10 := neI h6
    refine Sf_gdN (by omega) (by omega) ?_
    refine Sf_some (show (∀ i, (some (14 + (Int32.toNatClampNeg p1))) = some i → 14 ≤ i ∧ i < 20) from ?_)
    (intro i h; first | (cases h; done) | (cases h; have := tN p1 (by omega); exact ⟨by omega, by omega⟩))
set_option maxHeartbeats 4000000 in
set_option maxRecDepth 100000 in
theorem s_X7_lay_L16 (s_many : Int32) (s_seed : Int32) (p2 : Int32) (G : kG) (o_readers11_4 : Int32) (o_day11_5 : Int32) (hp0 : gOK G) (hp1 : 0 ≤ s_many.toInt) (hp2 : s_many.toInt ≤ 10) : ∀ (n : Nat) (x3_19 : Int32) (p1_heights__20 : Nat → Int32) (p1_highest__21 : Nat → Int32) (p1_shapes__22 : Nat → Int32) (reckoner_letters__23 : Nat → Int32) (reckoner_values__24 : Nat → Int32), (0 ≤ x3_19.toInt) → (x3_19.toInt ≤ 10) → (11 - x3_19.toInt < (n : Int)) → Sf (f_X7_lay_L16 s_many s_seed p2 G o_readers11_4 o_day11_5 n x3_19 p1_heights__20 p1_highest__21 p1_shapes__22 reckoner_letters__23 reckoner_values__24) (fun (y : Int32 × Int32 × (Nat → Int32) × (Nat → Int32) × (Nat → Int32) × (Nat → Int32) × (Nat → Int32)) => True) := by
  have hFU : (100000 : Int) ≤ (FU : Int) := Int.ofNat_le.mpr FU_ge
  have g1 := rgI s_many
  have g2 := rgI s_seed
  have g3 := rgI p2
  have g4 := rgI o_readers11_4
  have g5 := rgI o_day11_5
  intro n
  induction n with
  | zero =>
    intro x3_19 p1_heights__20 p1_highest__21 p1_shapes__22 reckoner_letters__23 reckoner_values__24 hi0 hi1 hm
    have g6 := rgI x3_19
    exact absurd hm (by omega)
  | succ n ih =>
    intro x3_19 p1_heights__20 p1_highest__21 p1_shapes__22 reckoner_letters__23 reckoner_values__24 hi0 hi1 hm
    rw [f_X7_lay_L16]
    have g7 := rgI x3_19
    refine Sf_ite (fun h8 => ?_) (fun h8 => ?_)
    · skip
      have c9 := leI h8
      exact Sf_some trivial
    · skip
      have c10 := nleI h8
      refine Sf_gdN (by omega) (by omega) ?_
      have t18 := tN x3_19 (by omega)
      refine Sf_oS (fun z16 hz17 => by cases hz17; omega) (fun hn11 => ?_) (fun i12 s_38 hr13 hi14 hg15 => ?_)
      · skip
        refine Sf_nmI (fun v61_46 hv19 => ?_)
        have g20 := rgI (x3_19 + 1)
        first | have e21 := adN x3_19 1 (1) (by decide) (by omega) (by omega) | skip
        have q22 := eqI hv19
        exact ih v61_46 p1_heights__20 p1_highest__21 p1_shapes__22 reckoner_letters__23 reckoner_values__24 (by omega) (by omega) (by omega)
      · skip
        cases hr13
        obtain ⟨w1_s_38, w2_s_38⟩ := (‹gOK G›).2 _ _ hg15
        have t30 := tN x3_19 (by omega)
        refine Sf_oT (fun z28 hz29 => by cases hz29; omega) (fun hn23 => ?_) (fun i24 t_53 hr25 hi26 hg27 => ?_)
        · skip
          refine Sf_nmI (fun v61_61 hv31 => ?_)
          have g32 := rgI (x3_19 + 1)
          first | have e33 := adN x3_19 1 (1) (by decide) (by omega) (by omega) | skip
          have q34 := eqI hv31
          exact ih v61_61 p1_heights__20 p1_highest__21 p1_shapes__22 reckoner_letters__23 reckoner_values__24 (by omega) (by omega) (by omega)
        · skip
          cases hr25
          obtain ⟨a1_t_53, a2_t_53, a3_t_53, a4_t_53, a5_t_53, a6_t_53, a7_t_53⟩ := (‹gOK G›).1 _ _ hg27
          refine Sf_cb1 (s_X8_comesOn (s_38.2.2.2.2.2.2) p2 ) (fun r48_66 hp35 => ?_)
          have hp35 : ((r48_66.toInt = 0 ∨ r48_66.toInt = 1)) := hp35
          have g36 := rgI r48_66
          refine Sf_ite (fun h37 => ?_) (fun h37 => ?_)
          · skip
            have l38 : (0 : Int32).toInt = 0 := by decide
            have c39 := eqI h37
            refine Sf_nmI (fun v61_80 hv40 => ?_)
            have g41 := rgI (x3_19 + 1)
            first | have e42 := adN x3_19 1 (1) (by decide) (by omega) (by omega) | skip
            have q43 := eqI hv40
            exact ih v61_80 p1_heights__20 p1_highest__21 p1_shapes__22 reckoner_letters__23 reckoner_values__24 (by omega) (by omega) (by omega)
          · skip
            have l44 : (0 : Int32).toInt = 0 := by decide
            have c45 := neI h37
            refine Sf_cb5 (s_X7_layOne (t_53.2.2.1.1) (t_53.2.2.2.2.1) (t_53.2.2.2.1.1) s_seed o_day11_5 (s_38.2.1) (s_38.2.2.1) (s_38.2.2.2.1) (s_38.2.2.2.2.1) (s_38.2.2.2.2.2.1) (s_38.2.2.2.2.2.2) p1_heights__20 p1_highest__21 p1_shapes__22 (t_53.2.1) (t_53.2.2.1.2) (t_53.2.2.2.2.2) (t_53.2.2.2.1.2) reckoner_letters__23 reckoner_values__24 (by omega) (by omega) (by omega) (by omega) (by omega) (by assumption) (by assumption) (by omega) (by omega)) (fun o_p1_heights58_85 o_p1_highest58_86 o_p1_shapes58_87 o_reckoner_letters58_88 o_reckoner_values58_89 hp46 => ?_)
            refine Sf_nmI (fun v61_100 hv47 => ?_)
            have g48 := rgI (x3_19 + 1)
            first | have e49 := adN x3_19 1 (1) (by decide) (by omega) (by omega) | skip
            have q50 := eqI hv47
            exact ih v61_100 o_p1_heights58_85 o_p1_highest58_86 o_p1_shapes58_87 o_reckoner_letters58_88 o_reckoner_values58_89 (by omega) (by omega) (by omega)
set_option maxHeartbeats 4000000 in
set_option maxRecDepth 100000 in
theorem s_X7_lay (G : kG) (s_many : Int32) (s_seed : Int32) (s_p1_readers : Int32) (s_p1_day : Int32) (s_p1_heights : Nat → Int32) (s_p1_highest : Nat → Int32) (s_p1_shapes : Nat → Int32) (s_reckoner_letters : Nat → Int32) (s_reckoner_values : Nat → Int32) (p2 : Int32) (hp0 : gOK G) (hp1 : 0 ≤ s_many.toInt) (hp2 : s_many.toInt ≤ 10) : Sf (f_X7_lay G s_many s_seed s_p1_readers s_p1_day s_p1_heights s_p1_highest s_p1_shapes s_reckoner_letters s_reckoner_values p2) (fun (y : Int32 × Int32 × (Nat → Int32) × (Nat → Int32) × (Nat → Int32) × (Nat → Int32) × (Nat → Int32)) => True) := by
  have g1 := rgI s_many
  have g2 := rgI s_seed
  have g3 := rgI s_p1_readers
  have g4 := rgI s_p1_day
  have g5 := rgI p2
  have hFU : (100000 : Int) ≤ (FU : Int) := Int.ofNat_le.mpr FU_ge
  rw [f_X7_lay]
  refine Sf_ite (fun h6 => ?_) (fun h6 => ?_)
  · skip
    have c7 := eqI h6
    exact Sf_some trivial
  · skip
    have c8 := neI h6
    refine Sf_cb5 (s_X4_clear s_p1_readers s_p1_day s_p1_heights s_p1_highest s_p1_shapes p2 ) (fun o_readers11_4 o_day11_5 o_heights11_6 o_highest11_7 o_shapes11_8 hp9 => ?_)
    have g10 := rgI o_readers11_4
    have g11 := rgI o_day11_5
    have l12 : (0 : Int32).toInt = 0 := by decide
    refine s_X7_lay_L16 s_many s_seed p2 G o_readers11_4 o_day11_5 (by assumption) (by omega) (by omega)  FU 0 o_heights11_6 o_highest11_7 o_shapes11_8 s_reckoner_letters s_reckoner_values (by omega) (by omega) (by omega)
set_option maxHeartbeats 4000000 in
set_option maxRecDepth 100000 in
theorem s_X2_alone_L63 (fallen__2 : Nat → Int32) (x3_19 : Int32) (K106 : Int32 → Int32 → Option (Int32 × (Nat → Int32) × (Nat → Int32) × (Nat → Int32))) (hp0 : 0 ≤ x3_19.toInt) (hp1 : x3_19.toInt ≤ 30) (hK106 : ∀ (a0 : Int32) (a1 : Int32), Sf (K106 a0 a1) (fun (y : Int32 × (Nat → Int32) × (Nat → Int32) × (Nat → Int32)) => True)) : ∀ (n : Nat) (x4_39 : Int32) (x5_40 : Int32) (x6_41 : Int32), (0 ≤ x6_41.toInt) → (x6_41.toInt ≤ 6) → (7 - x6_41.toInt < (n : Int)) → Sf (f_X2_alone_L63 fallen__2 x3_19 K106 n x4_39 x5_40 x6_41) (fun (y : Int32 × (Nat → Int32) × (Nat → Int32) × (Nat → Int32)) => True) := by
  have hFU : (100000 : Int) ≤ (FU : Int) := Int.ofNat_le.mpr FU_ge
  have g1 := rgI x3_19
  intro n
  induction n with
  | zero =>
    intro x4_39 x5_40 x6_41 hi0 hi1 hm
    have g2 := rgI x4_39
    have g3 := rgI x5_40
    have g4 := rgI x6_41
    exact absurd hm (by omega)
  | succ n ih =>
    intro x4_39 x5_40 x6_41 hi0 hi1 hm
    rw [f_X2_alone_L63]
    have g5 := rgI x4_39
    have g6 := rgI x5_40
    have g7 := rgI x6_41
    refine Sf_ite (fun h8 => ?_) (fun h8 => ?_)
    · skip
      have l9 : (6 : Int32).toInt = 6 := by decide
      have c10 := leI h8
      exact hK106 x4_39 x5_40 
    · skip
      have l11 : (6 : Int32).toInt = 6 := by decide
      have c12 := nleI h8
      refine Sf_rdI (by omega) (by omega) (fun v76_45 hv13 => ?_)
      have g14 := rgI v76_45
      refine Sf_ite (fun h15 => ?_) (fun h15 => ?_)
      · skip
        have l16 : ((-2) : Int32).toInt = -2 := by decide
        have c17 := eqI h15
        rw [f_X2_alone_J93]
        refine Sf_nmI (fun v93_50 hv18 => ?_)
        have g19 := rgI (x4_39 + 1)
        first | have e20 := adN x4_39 1 (1) (by decide) (by omega) (by omega) | skip
        have q21 := eqI hv18
        refine Sf_nmI (fun v100_55 hv22 => ?_)
        have g23 := rgI (x6_41 + 1)
        first | have e24 := adN x6_41 1 (1) (by decide) (by omega) (by omega) | skip
        have q25 := eqI hv22
        exact ih v93_50 x6_41 v100_55 (by omega) (by omega) (by omega)
      · skip
        have l26 : ((-2) : Int32).toInt = -2 := by decide
        have c27 := neI h15
        refine Sf_rdI (by omega) (by omega) (fun v88_62 hv28 => ?_)
        have g29 := rgI v88_62
        refine Sf_ite (fun h30 => ?_) (fun h30 => ?_)
        · skip
          have c31 := leI h30
          refine Sf_nmI (fun v100_69 hv32 => ?_)
          have g33 := rgI (x6_41 + 1)
          first | have e34 := adN x6_41 1 (1) (by decide) (by omega) (by omega) | skip
          have q35 := eqI hv32
          exact ih x4_39 x5_40 v100_69 (by omega) (by omega) (by omega)
        · skip
          have c36 := nleI h30
          rw [f_X2_alone_J93]
          refine Sf_nmI (fun v93_50 hv37 => ?_)
          have g38 := rgI (x4_39 + 1)
          first | have e39 := adN x4_39 1 (1) (by decide) (by omega) (by omega) | skip
          have q40 := eqI hv37
          refine Sf_nmI (fun v100_55 hv41 => ?_)
          have g42 := rgI (x6_41 + 1)
          first | have e43 := adN x6_41 1 (1) (by decide) (by omega) (by omega) | skip
          have q44 := eqI hv41
          exact ih v93_50 x6_41 v100_55 (by omega) (by omega) (by omega)
set_option maxHeartbeats 4000000 in
set_option maxRecDepth 100000 in
theorem s_X2_alone_L2 (s_many : Int32) (s_days : Nat → Int32) (s_shifts : Nat → Int32) (p1 : Int32) (G : kG) (K44 : (Nat → Int32) → (Nat → Int32) → (Nat → Int32) → Option (Int32 × (Nat → Int32) × (Nat → Int32) × (Nat → Int32))) (hp0 : gOK G) (hp1 : 0 ≤ s_many.toInt) (hp2 : s_many.toInt ≤ 30) (hK44 : ∀ (a0 : Nat → Int32) (a1 : Nat → Int32) (a2 : Nat → Int32), Sf (K44 a0 a1 a2) (fun (y : Int32 × (Nat → Int32) × (Nat → Int32) × (Nat → Int32)) => True)) : ∀ (n : Nat) (x3_73 : Int32) (fallen__74 : Nat → Int32) (reckoner_letters__75 : Nat → Int32) (reckoner_values__76 : Nat → Int32), (0 ≤ x3_73.toInt) → (x3_73.toInt ≤ 6) → (7 - x3_73.toInt < (n : Int)) → Sf (f_X2_alone_L2 s_many s_days s_shifts p1 G K44 n x3_73 fallen__74 reckoner_letters__75 reckoner_values__76) (fun (y : Int32 × (Nat → Int32) × (Nat → Int32) × (Nat → Int32)) => True) := by
  have hFU : (100000 : Int) ≤ (FU : Int) := Int.ofNat_le.mpr FU_ge
  have g1 := rgI s_many
  have g2 := rgI p1
  intro n
  induction n with
  | zero =>
    intro x3_73 fallen__74 reckoner_letters__75 reckoner_values__76 hi0 hi1 hm
    have g3 := rgI x3_73
    exact absurd hm (by omega)
  | succ n ih =>
    intro x3_73 fallen__74 reckoner_letters__75 reckoner_values__76 hi0 hi1 hm
    rw [f_X2_alone_L2]
    have g4 := rgI x3_73
    refine Sf_ite (fun h5 => ?_) (fun h5 => ?_)
    · skip
      have l6 : (6 : Int32).toInt = 6 := by decide
      have c7 := leI h5
      exact hK44 fallen__74 reckoner_letters__75 reckoner_values__76 
    · skip
      have l8 : (6 : Int32).toInt = 6 := by decide
      have c9 := nleI h5
      refine Sf_gdN (by omega) (by omega) ?_
      have t17 := tN x3_73 (by omega)
      refine Sf_oT (fun z15 hz16 => by cases hz16; omega) (fun hn10 => ?_) (fun i11 t_83 hr12 hi13 hg14 => ?_)
      · skip
        have l19 : (0 : Int32).toInt = 0 := by decide
        refine Sf_wrI (by omega) (by omega) (fun g37_91 hw18 => ?_)
        refine Sf_nmI (fun v38_96 hv20 => ?_)
        have g21 := rgI (x3_73 + 1)
        first | have e22 := adN x3_73 1 (1) (by decide) (by omega) (by omega) | skip
        have q23 := eqI hv20
        exact ih v38_96 g37_91 reckoner_letters__75 reckoner_values__76 (by omega) (by omega) (by omega)
      · skip
        cases hr12
        obtain ⟨a1_t_83, a2_t_83, a3_t_83, a4_t_83, a5_t_83, a6_t_83, a7_t_83⟩ := (‹gOK G›).1 _ _ hg14
        refine Sf_gdN (by omega) (by omega) ?_
        refine Sf_cb3 (s_X2_fallOf (t_83.2.2.1.1) (t_83.2.2.2.2.1) (t_83.2.2.2.1.1) s_many (t_83.2.2.1.2) (t_83.2.2.2.2.2) (t_83.2.2.2.1.2) s_days s_shifts reckoner_letters__75 reckoner_values__76 p1 (by omega) (by omega) (by omega) (by assumption) (by assumption) (by omega) (by omega)) (fun r34_103 o_reckoner_letters34_104 o_reckoner_values34_105 hp24 => ?_)
        have g25 := rgI r34_103
        refine Sf_wrI (by omega) (by omega) (fun g37_116 hw26 => ?_)
        refine Sf_nmI (fun v38_121 hv27 => ?_)
        have g28 := rgI (x3_73 + 1)
        first | have e29 := adN x3_73 1 (1) (by decide) (by omega) (by omega) | skip
        have q30 := eqI hv27
        exact ih v38_121 g37_116 o_reckoner_letters34_104 o_reckoner_values34_105 (by omega) (by omega) (by omega)
set_option maxHeartbeats 4000000 in
set_option maxRecDepth 100000 in
theorem s_X2_alone_L46 (s_many : Int32) (fallen__2 : Nat → Int32) (reckoner_letters__3 : Nat → Int32) (reckoner_values__4 : Nat → Int32) (K112 : Int32 → Int32 → Option (Int32 × (Nat → Int32) × (Nat → Int32) × (Nat → Int32))) (hp0 : 0 ≤ s_many.toInt) (hp1 : s_many.toInt ≤ 30) (hK112 : ∀ (a0 : Int32) (a1 : Int32), Sf (K112 a0 a1) (fun (y : Int32 × (Nat → Int32) × (Nat → Int32) × (Nat → Int32)) => True)) : ∀ (n : Nat) (x3_19 : Int32), (0 ≤ x3_19.toInt) → (x3_19.toInt ≤ 30) → (31 - x3_19.toInt < (n : Int)) → Sf (f_X2_alone_L46 s_many fallen__2 reckoner_letters__3 reckoner_values__4 K112 n x3_19) (fun (y : Int32 × (Nat → Int32) × (Nat → Int32) × (Nat → Int32)) => True) := by
  have hFU : (100000 : Int) ≤ (FU : Int) := Int.ofNat_le.mpr FU_ge
  have g1 := rgI s_many
  intro n
  induction n with
  | zero =>
    intro x3_19 hi0 hi1 hm
    have g2 := rgI x3_19
    exact absurd hm (by omega)
  | succ n ih =>
    intro x3_19 hi0 hi1 hm
    rw [f_X2_alone_L46]
    have g3 := rgI x3_19
    refine Sf_ite (fun h4 => ?_) (fun h4 => ?_)
    · skip
      have c5 := leI h4
      exact Sf_some trivial
    · skip
      have c6 := nleI h4
      have l7 : (0 : Int32).toInt = 0 := by decide
      have l8 : ((-1) : Int32).toInt = -1 := by decide
      refine s_X2_alone_L63 fallen__2 x3_19 (f_X2_alone_J106 x3_19 (f_X2_alone_L46 s_many fallen__2 reckoner_letters__3 reckoner_values__4 K112 n) K112) (by omega) (by omega) ?_ FU 0 (-1) 0 (by omega) (by omega) (by omega)
      · intro z9 z10
        have g11 := rgI z9
        have g12 := rgI z10
        rw [f_X2_alone_J106]
        refine Sf_ite (fun h13 => ?_) (fun h13 => ?_)
        · skip
          have l14 : (1 : Int32).toInt = 1 := by decide
          have c15 := eqI h13
          exact hK112 x3_19 z10 
        · skip
          have l16 : (1 : Int32).toInt = 1 := by decide
          have c17 := neI h13
          refine Sf_nmI (fun v123_35 hv18 => ?_)
          have g19 := rgI (x3_19 + 1)
          first | have e20 := adN x3_19 1 (1) (by decide) (by omega) (by omega) | skip
          have q21 := eqI hv18
          exact ih v123_35 (by omega) (by omega) (by omega)
set_option maxHeartbeats 4000000 in
set_option maxRecDepth 100000 in
theorem s_X2_alone (G : kG) (s_many : Int32) (s_days : Nat → Int32) (s_fallen : Nat → Int32) (s_shifts : Nat → Int32) (s_reckoner_letters : Nat → Int32) (s_reckoner_values : Nat → Int32) (p1 : Int32) (p2 : Int32) (hp0 : gOK G) (hp1 : 0 ≤ s_many.toInt) (hp2 : s_many.toInt ≤ 30) : Sf (f_X2_alone G s_many s_days s_fallen s_shifts s_reckoner_letters s_reckoner_values p1 p2) (fun (y : Int32 × (Nat → Int32) × (Nat → Int32) × (Nat → Int32)) => True) := by
  have g1 := rgI s_many
  have g2 := rgI p1
  have g3 := rgI p2
  have hFU : (100000 : Int) ≤ (FU : Int) := Int.ofNat_le.mpr FU_ge
  rw [f_X2_alone]
  have l4 : (0 : Int32).toInt = 0 := by decide
  refine s_X2_alone_L2 s_many s_days s_shifts p1 G (f_X2_alone_J44 s_many p2) (by assumption) (by omega) (by omega) ?_ FU 0 s_fallen s_reckoner_letters s_reckoner_values (by omega) (by omega) (by omega)
  · intro z5 z6 z7
    rw [f_X2_alone_J44]
    refine s_X2_alone_L46 s_many z5 z6 z7 (f_X2_alone_J112 p2 z5 z6 z7) (by omega) (by omega) ?_ FU 0 (by omega) (by omega) (by omega)
    · intro z8 z9
      have g10 := rgI z8
      have g11 := rgI z9
      rw [f_X2_alone_J112]
      refine Sf_ite (fun h12 => ?_) (fun h12 => ?_)
      · skip
        have c13 := eqI h12
        exact Sf_some trivial
      · skip
        have c14 := neI h12
        exact Sf_some trivial
set_option maxHeartbeats 4000000 in
set_option maxRecDepth 100000 in
theorem s_X11_textCount (G : kG) (s_sky_many : Int32) (p1 : Int32) (hp0 : gOK G) (hp1 : 0 ≤ s_sky_many.toInt) (hp2 : s_sky_many.toInt ≤ 10) : Sf (f_X11_textCount G s_sky_many p1) (fun (y : Int32) => True) := by
  have g1 := rgI s_sky_many
  have g2 := rgI p1
  have hFU : (100000 : Int) ≤ (FU : Int) := Int.ofNat_le.mpr FU_ge
  rw [f_X11_textCount]
  have l3 : (10 : Int32).toInt = 10 := by decide
  have g4 := rgI (10 + s_sky_many)
  first | have e5 := adX 10 s_sky_many (by omega) (by omega) | skip
  have g6 := rgI ((10 + s_sky_many) - 1)
  first | have e7 := sbN (10 + s_sky_many) 1 (1) (by decide) (by omega) (by omega) | skip
  refine Sf_cb1 (s_X11_isWithin p1 10 ((10 + s_sky_many) - 1) ) (fun r15_1 hp8 => ?_)
  have hp8 : ((r15_1.toInt = 0 ∨ r15_1.toInt = 1)) ∧ ((r15_1.toInt = 1 ∧ (10 : Int32).toInt ≤ p1.toInt ∧ p1.toInt ≤ ((10 + s_sky_many) - 1).toInt) ∨ (r15_1.toInt = 0 ∧ (p1.toInt < (10 : Int32).toInt ∨ ((10 + s_sky_many) - 1).toInt < p1.toInt))) := hp8
  obtain ⟨hq9, hq10⟩ := hp8
  have g11 := rgI r15_1
  refine Sf_ite (fun h12 => ?_) (fun h12 => ?_)
  · skip
    have l13 : (0 : Int32).toInt = 0 := by decide
    have c14 := eqI h12
    have l15 : (20 : Int32).toInt = 20 := by decide
    have l16 : (23 : Int32).toInt = 23 := by decide
    refine Sf_cb1 (s_X11_isWithin p1 20 23 ) (fun r54_14 hp17 => ?_)
    have hp17 : ((r54_14.toInt = 0 ∨ r54_14.toInt = 1)) ∧ ((r54_14.toInt = 1 ∧ (20 : Int32).toInt ≤ p1.toInt ∧ p1.toInt ≤ (23 : Int32).toInt) ∨ (r54_14.toInt = 0 ∧ (p1.toInt < (20 : Int32).toInt ∨ (23 : Int32).toInt < p1.toInt))) := hp17
    obtain ⟨hq18, hq19⟩ := hp17
    have g20 := rgI r54_14
    refine Sf_ite (fun h21 => ?_) (fun h21 => ?_)
    · skip
      have c22 := eqI h21
      have l23 : (30 : Int32).toInt = 30 := by decide
      have l24 : (35 : Int32).toInt = 35 := by decide
      refine Sf_cb1 (s_X11_isWithin p1 30 35 ) (fun r78_27 hp25 => ?_)
      have hp25 : ((r78_27.toInt = 0 ∨ r78_27.toInt = 1)) ∧ ((r78_27.toInt = 1 ∧ (30 : Int32).toInt ≤ p1.toInt ∧ p1.toInt ≤ (35 : Int32).toInt) ∨ (r78_27.toInt = 0 ∧ (p1.toInt < (30 : Int32).toInt ∨ (35 : Int32).toInt < p1.toInt))) := hp25
      obtain ⟨hq26, hq27⟩ := hp25
      have g28 := rgI r78_27
      refine Sf_ite (fun h29 => ?_) (fun h29 => ?_)
      · skip
        have c30 := eqI h29
        exact Sf_some trivial
      · skip
        have c31 := neI h29
        have g32 := rgI (p1 - 30)
        first | have e33 := sbN p1 30 (30) (by decide) (by omega) (by omega) | skip
        refine Sf_gdN (by omega) (by omega) ?_
        have t41 := tN (p1 - 30) (by omega)
        refine Sf_oT (fun z39 hz40 => by cases hz40; omega) (fun hn34 => ?_) (fun i35 t_44 hr36 hi37 hg38 => ?_)
        · skip
          refine Sf_cb1 (s_X11_clausesOf_N  ) (fun r96_52 hp42 => ?_)
          have g43 := rgI r96_52
          exact Sf_some trivial
        · skip
          cases hr36
          obtain ⟨a1_t_44, a2_t_44, a3_t_44, a4_t_44, a5_t_44, a6_t_44, a7_t_44⟩ := (‹gOK G›).1 _ _ hg38
          refine Sf_cb1 (s_X11_clausesOf (t_44.2.1) ) (fun r96_64 hp44 => ?_)
          have g45 := rgI r96_64
          exact Sf_some trivial
    · skip
      have c46 := neI h21
      have g47 := rgI (p1 - 20)
      first | have e48 := sbN p1 20 (20) (by decide) (by omega) (by omega) | skip
      refine Sf_gdN (by omega) (by omega) ?_
      have t56 := tN (p1 - 20) (by omega)
      refine Sf_oT (fun z54 hz55 => by cases hz55; omega) (fun hn49 => ?_) (fun i50 t_79 hr51 hi52 hg53 => ?_)
      · skip
        refine Sf_cb1 (s_X11_clausesOf_N  ) (fun r69_87 hp57 => ?_)
        have g58 := rgI r69_87
        exact Sf_some trivial
      · skip
        cases hr51
        obtain ⟨a1_t_79, a2_t_79, a3_t_79, a4_t_79, a5_t_79, a6_t_79, a7_t_79⟩ := (‹gOK G›).1 _ _ hg53
        refine Sf_cb1 (s_X11_clausesOf (t_79.2.1) ) (fun r69_99 hp59 => ?_)
        have g60 := rgI r69_99
        exact Sf_some trivial
  · skip
    have l61 : (0 : Int32).toInt = 0 := by decide
    have c62 := neI h12
    have g63 := rgI (p1 - 10)
    first | have e64 := sbN p1 10 (10) (by decide) (by omega) (by omega) | skip
    refine Sf_cb1 (s_X7_sourceAt G s_sky_many (p1 - 10) (by omega) (by omega)) (fun r29_111 hp65 => ?_)
    have hp65 : (∀ i : Nat, r29_111 = some i → (i : Int) < s_sky_many.toInt ∧ i < 10) := hp65
    refine Sf_oS (fun z71 hz72 => by first | exact hp65 z71 hz72 | exact (hp65 z71 hz72).2) (fun hn66 => ?_) (fun i67 s_122 hr68 hi69 hg70 => ?_)
    · skip
      exact Sf_some trivial
    · skip
      subst hr68
      obtain ⟨w1_s_122, w2_s_122⟩ := (‹gOK G›).2 _ _ hg70
      refine Sf_oT (fun z78 hz79 => by cases hz79; omega) (fun hn73 => ?_) (fun i74 t_134 hr75 hi76 hg77 => ?_)
      · skip
        refine Sf_cb1 (s_X11_clausesOf_N  ) (fun r45_142 hp80 => ?_)
        have g81 := rgI r45_142
        exact Sf_some trivial
      · skip
        cases hr75
        obtain ⟨a1_t_134, a2_t_134, a3_t_134, a4_t_134, a5_t_134, a6_t_134, a7_t_134⟩ := (‹gOK G›).1 _ _ hg77
        refine Sf_cb1 (s_X11_clausesOf (t_134.2.1) ) (fun r45_154 hp82 => ?_)
        have g83 := rgI r45_154
        exact Sf_some trivial
set_option maxHeartbeats 4000000 in
set_option maxRecDepth 100000 in
theorem s_X11_count (G : kG) (s_blips_many : Int32) (s_nights_many : Int32) (s_notes_many : Int32) (s_sky_many : Int32) (s_sky_seed : Int32) (s_tape_length : Int32) (p1 : Int32) (hp0 : gOK G) (hp1 : 0 ≤ s_sky_many.toInt) (hp2 : s_sky_many.toInt ≤ 10) : Sf (f_X11_count G s_blips_many s_nights_many s_notes_many s_sky_many s_sky_seed s_tape_length p1) (fun (y : Int32) => True) := by
  have g1 := rgI s_blips_many
  have g2 := rgI s_nights_many
  have g3 := rgI s_notes_many
  have g4 := rgI s_sky_many
  have g5 := rgI s_sky_seed
  have g6 := rgI s_tape_length
  have g7 := rgI p1
  have hFU : (100000 : Int) ≤ (FU : Int) := Int.ofNat_le.mpr FU_ge
  rw [f_X11_count]
  refine Sf_ite (fun h8 => ?_) (fun h8 => ?_)
  · skip
    have l9 : (0 : Int32).toInt = 0 := by decide
    have c10 := eqI h8
    exact Sf_some trivial
  · skip
    have l11 : (0 : Int32).toInt = 0 := by decide
    have c12 := neI h8
    refine Sf_ite (fun h13 => ?_) (fun h13 => ?_)
    · skip
      have l14 : (1 : Int32).toInt = 1 := by decide
      have c15 := eqI h13
      exact Sf_some trivial
    · skip
      have l16 : (1 : Int32).toInt = 1 := by decide
      have c17 := neI h13
      refine Sf_ite (fun h18 => ?_) (fun h18 => ?_)
      · skip
        have l19 : (2 : Int32).toInt = 2 := by decide
        have c20 := eqI h18
        exact Sf_some trivial
      · skip
        have l21 : (2 : Int32).toInt = 2 := by decide
        have c22 := neI h18
        refine Sf_ite (fun h23 => ?_) (fun h23 => ?_)
        · skip
          have l24 : (3 : Int32).toInt = 3 := by decide
          have c25 := eqI h23
          exact Sf_some trivial
        · skip
          have l26 : (3 : Int32).toInt = 3 := by decide
          have c27 := neI h23
          refine Sf_ite (fun h28 => ?_) (fun h28 => ?_)
          · skip
            have l29 : (4 : Int32).toInt = 4 := by decide
            have c30 := eqI h28
            exact Sf_some trivial
          · skip
            have l31 : (4 : Int32).toInt = 4 := by decide
            have c32 := neI h28
            refine Sf_ite (fun h33 => ?_) (fun h33 => ?_)
            · skip
              have l34 : (5 : Int32).toInt = 5 := by decide
              have c35 := eqI h33
              exact Sf_some trivial
            · skip
              have l36 : (5 : Int32).toInt = 5 := by decide
              have c37 := neI h33
              refine Sf_cb1 (s_X11_textCount G s_sky_many p1 (by assumption) (by omega) (by omega)) (fun r90_25 hp38 => ?_)
              have g39 := rgI r90_25
              exact Sf_some trivial
set_option maxHeartbeats 4000000 in
set_option maxRecDepth 100000 in
theorem s_X11_height (G : kG) (s_sky_many : Int32) (s_sky_seed : Int32) (s_sky_reckoner_letters : Nat → Int32) (s_sky_reckoner_values : Nat → Int32) (p1 : Int32) (p2 : Int32) (p3 : Int32) (hp0 : gOK G) (hp1 : 0 ≤ s_sky_many.toInt) (hp2 : s_sky_many.toInt ≤ 10) : Sf (f_X11_height G s_sky_many s_sky_seed s_sky_reckoner_letters s_sky_reckoner_values p1 p2 p3) (fun (y : Int32 × (Nat → Int32) × (Nat → Int32)) => True) := by
  have g1 := rgI s_sky_many
  have g2 := rgI s_sky_seed
  have g3 := rgI p1
  have g4 := rgI p2
  have g5 := rgI p3
  have hFU : (100000 : Int) ≤ (FU : Int) := Int.ofNat_le.mpr FU_ge
  rw [f_X11_height]
  refine Sf_cb1 (s_X7_sourceAt G s_sky_many p1 (by omega) (by omega)) (fun r5_1 hp6 => ?_)
  have hp6 : (∀ i : Nat, r5_1 = some i → (i : Int) < s_sky_many.toInt ∧ i < 10) := hp6
  refine Sf_oS (fun z12 hz13 => by first | exact hp6 z12 hz13 | exact (hp6 z12 hz13).2) (fun hn7 => ?_) (fun i8 s_12 hr9 hi10 hg11 => ?_)
  · skip
    exact Sf_some trivial
  · skip
    subst hr9
    obtain ⟨w1_s_12, w2_s_12⟩ := (‹gOK G›).2 _ _ hg11
    refine Sf_cb1 (s_X11_isDay p2 ) (fun r16_24 hp14 => ?_)
    have hp14 : ((r16_24.toInt = 0 ∨ r16_24.toInt = 1)) ∧ ((r16_24.toInt = 1 ∧ 0 ≤ p2.toInt ∧ p2.toInt ≤ 399) ∨ (r16_24.toInt = 0 ∧ (p2.toInt < 0 ∨ 399 < p2.toInt))) := hp14
    obtain ⟨hq15, hq16⟩ := hp14
    have g17 := rgI r16_24
    refine Sf_ite (fun h18 => ?_) (fun h18 => ?_)
    · skip
      have l19 : (0 : Int32).toInt = 0 := by decide
      have c20 := eqI h18
      exact Sf_some trivial
    · skip
      have l21 : (0 : Int32).toInt = 0 := by decide
      have c22 := neI h18
      refine Sf_cb1 (s_X11_isMinute p3 ) (fun r23_40 hp23 => ?_)
      have hp23 : ((r23_40.toInt = 0 ∨ r23_40.toInt = 1)) ∧ ((r23_40.toInt = 1 ∧ 0 ≤ p3.toInt ∧ p3.toInt ≤ 1439) ∨ (r23_40.toInt = 0 ∧ (p3.toInt < 0 ∨ 1439 < p3.toInt))) := hp23
      obtain ⟨hq24, hq25⟩ := hp23
      have g26 := rgI r23_40
      refine Sf_ite (fun h27 => ?_) (fun h27 => ?_)
      · skip
        have c28 := eqI h27
        exact Sf_some trivial
      · skip
        have c29 := neI h27
        refine Sf_oT (fun z35 hz36 => by cases hz36; omega) (fun hn30 => ?_) (fun i31 t_54 hr32 hi33 hg34 => ?_)
        · skip
          refine Sf_cb1 (s_X7_heightOf_N (s_12.2.2.1) (s_12.2.2.2.1) (s_12.2.2.2.2.1) (s_12.2.2.2.2.2.2) p2 p3 ) (fun r39_63 hp37 => ?_)
          have g38 := rgI r39_63
          exact Sf_some trivial
        · skip
          cases hr32
          obtain ⟨a1_t_54, a2_t_54, a3_t_54, a4_t_54, a5_t_54, a6_t_54, a7_t_54⟩ := (‹gOK G›).1 _ _ hg34
          refine Sf_cb3 (s_X7_heightOf (t_54.2.2.1.1) (t_54.2.2.2.2.1) (t_54.2.2.2.1.1) s_sky_seed (s_12.2.1) (s_12.2.2.1) (s_12.2.2.2.1) (s_12.2.2.2.2.1) (s_12.2.2.2.2.2.2) (t_54.2.1) (t_54.2.2.1.2) (t_54.2.2.2.2.2) (t_54.2.2.2.1.2) s_sky_reckoner_letters s_sky_reckoner_values p2 p3 (by omega) (by omega) (by omega) (by omega) (by omega) (by assumption) (by assumption)) (fun r39_78 o_reckoner_letters39_79 o_reckoner_values39_80 hp39 => ?_)
          have g40 := rgI r39_78
          exact Sf_some trivial
set_option maxHeartbeats 4000000 in
set_option maxRecDepth 100000 in
theorem s_X11_paper (G : kG) (s_page_readers : Int32) (s_page_day : Int32) (s_sky_many : Int32) (s_sky_seed : Int32) (s_page_heights : Nat → Int32) (s_page_highest : Nat → Int32) (s_page_shapes : Nat → Int32) (s_sky_reckoner_letters : Nat → Int32) (s_sky_reckoner_values : Nat → Int32) (p1 : Int32) (p2 : Int32) (p3 : Int32) (hp0 : gOK G) (hp1 : 0 ≤ s_sky_many.toInt) (hp2 : s_sky_many.toInt ≤ 10) : Sf (f_X11_paper G s_page_readers s_page_day s_sky_many s_sky_seed s_page_heights s_page_highest s_page_shapes s_sky_reckoner_letters s_sky_reckoner_values p1 p2 p3) (fun (y : Int32 × Int32 × Int32 × (Nat → Int32) × (Nat → Int32) × (Nat → Int32) × (Nat → Int32) × (Nat → Int32)) => True) := by
  have g1 := rgI s_page_readers
  have g2 := rgI s_page_day
  have g3 := rgI s_sky_many
  have g4 := rgI s_sky_seed
  have g5 := rgI p1
  have g6 := rgI p2
  have g7 := rgI p3
  have hFU : (100000 : Int) ≤ (FU : Int) := Int.ofNat_le.mpr FU_ge
  rw [f_X11_paper]
  refine Sf_cb1 (s_X11_isDay p1 ) (fun r1_1 hp8 => ?_)
  have hp8 : ((r1_1.toInt = 0 ∨ r1_1.toInt = 1)) ∧ ((r1_1.toInt = 1 ∧ 0 ≤ p1.toInt ∧ p1.toInt ≤ 399) ∨ (r1_1.toInt = 0 ∧ (p1.toInt < 0 ∨ 399 < p1.toInt))) := hp8
  obtain ⟨hq9, hq10⟩ := hp8
  have g11 := rgI r1_1
  refine Sf_ite (fun h12 => ?_) (fun h12 => ?_)
  · skip
    have l13 : (0 : Int32).toInt = 0 := by decide
    have c14 := eqI h12
    exact Sf_some trivial
  · skip
    have l15 : (0 : Int32).toInt = 0 := by decide
    have c16 := neI h12
    refine Sf_cb1 (s_X11_isMinute p2 ) (fun r8_22 hp17 => ?_)
    have hp17 : ((r8_22.toInt = 0 ∨ r8_22.toInt = 1)) ∧ ((r8_22.toInt = 1 ∧ 0 ≤ p2.toInt ∧ p2.toInt ≤ 1439) ∨ (r8_22.toInt = 0 ∧ (p2.toInt < 0 ∨ 1439 < p2.toInt))) := hp17
    obtain ⟨hq18, hq19⟩ := hp17
    have g20 := rgI r8_22
    refine Sf_ite (fun h21 => ?_) (fun h21 => ?_)
    · skip
      have c22 := eqI h21
      exact Sf_some trivial
    · skip
      have c23 := neI h21
      have l24 : (1 : Int32).toInt = 1 := by decide
      refine Sf_cb1 (s_X11_isWithin p3 0 1 ) (fun r17_43 hp25 => ?_)
      have hp25 : ((r17_43.toInt = 0 ∨ r17_43.toInt = 1)) ∧ ((r17_43.toInt = 1 ∧ (0 : Int32).toInt ≤ p3.toInt ∧ p3.toInt ≤ (1 : Int32).toInt) ∨ (r17_43.toInt = 0 ∧ (p3.toInt < (0 : Int32).toInt ∨ (1 : Int32).toInt < p3.toInt))) := hp25
      obtain ⟨hq26, hq27⟩ := hp25
      have g28 := rgI r17_43
      refine Sf_ite (fun h29 => ?_) (fun h29 => ?_)
      · skip
        have c30 := eqI h29
        exact Sf_some trivial
      · skip
        have c31 := neI h29
        refine Sf_cb7 (s_X7_lay G s_sky_many s_sky_seed s_page_readers s_page_day s_page_heights s_page_highest s_page_shapes s_sky_reckoner_letters s_sky_reckoner_values p1 (by assumption) (by omega) (by omega)) (fun o_p1_readers34_56 o_p1_day34_57 o_p1_heights34_58 o_p1_highest34_59 o_p1_shapes34_60 o_reckoner_letters34_61 o_reckoner_values34_62 hp32 => ?_)
        have g33 := rgI o_p1_readers34_56
        have g34 := rgI o_p1_day34_57
        refine Sf_ite (fun h35 => ?_) (fun h35 => ?_)
        · skip
          have c36 := eqI h35
          refine Sf_rdI (by omega) (by omega) (fun v49_87 hv37 => ?_)
          have g38 := rgI v49_87
          exact Sf_some trivial
        · skip
          have c39 := neI h35
          refine Sf_rdI (by omega) (by omega) (fun v61_75 hv40 => ?_)
          have g41 := rgI v61_75
          exact Sf_some trivial
set_option maxHeartbeats 4000000 in
set_option maxRecDepth 100000 in
theorem s_X11_marks (G : kG) (s_page_readers : Int32) (s_page_day : Int32) (s_sky_many : Int32) (s_sky_seed : Int32) (s_page_heights : Nat → Int32) (s_page_highest : Nat → Int32) (s_page_marked : Nat → Int32) (s_page_shapes : Nat → Int32) (s_page_reckoner_letters : Nat → Int32) (s_page_reckoner_values : Nat → Int32) (s_sky_reckoner_letters : Nat → Int32) (s_sky_reckoner_values : Nat → Int32) (p1 : Int32) (p2 : Int32) (p3 : Int32) (hp0 : gOK G) (hp1 : 0 ≤ s_sky_many.toInt) (hp2 : s_sky_many.toInt ≤ 10) : Sf (f_X11_marks G s_page_readers s_page_day s_sky_many s_sky_seed s_page_heights s_page_highest s_page_marked s_page_shapes s_page_reckoner_letters s_page_reckoner_values s_sky_reckoner_letters s_sky_reckoner_values p1 p2 p3) (fun (y : Int32 × Int32 × Int32 × (Nat → Int32) × (Nat → Int32) × (Nat → Int32) × (Nat → Int32) × (Nat → Int32) × (Nat → Int32) × (Nat → Int32) × (Nat → Int32)) => True) := by
  have g1 := rgI s_page_readers
  have g2 := rgI s_page_day
  have g3 := rgI s_sky_many
  have g4 := rgI s_sky_seed
  have g5 := rgI p1
  have g6 := rgI p2
  have g7 := rgI p3
  have hFU : (100000 : Int) ≤ (FU : Int) := Int.ofNat_le.mpr FU_ge
  rw [f_X11_marks]
  refine Sf_cb1 (s_X11_isReader p1 ) (fun r1_1 hp8 => ?_)
  have hp8 : ((r1_1.toInt = 0 ∨ r1_1.toInt = 1)) ∧ ((r1_1.toInt = 1 ∧ 0 ≤ p1.toInt ∧ p1.toInt ≤ 3) ∨ (r1_1.toInt = 0 ∧ (p1.toInt < 0 ∨ 3 < p1.toInt))) := hp8
  obtain ⟨hq9, hq10⟩ := hp8
  have g11 := rgI r1_1
  refine Sf_ite (fun h12 => ?_) (fun h12 => ?_)
  · skip
    have l13 : (0 : Int32).toInt = 0 := by decide
    have c14 := eqI h12
    exact Sf_some trivial
  · skip
    have l15 : (0 : Int32).toInt = 0 := by decide
    have c16 := neI h12
    refine Sf_cb1 (s_X11_isDay p2 ) (fun r8_25 hp17 => ?_)
    have hp17 : ((r8_25.toInt = 0 ∨ r8_25.toInt = 1)) ∧ ((r8_25.toInt = 1 ∧ 0 ≤ p2.toInt ∧ p2.toInt ≤ 399) ∨ (r8_25.toInt = 0 ∧ (p2.toInt < 0 ∨ 399 < p2.toInt))) := hp17
    obtain ⟨hq18, hq19⟩ := hp17
    have g20 := rgI r8_25
    refine Sf_ite (fun h21 => ?_) (fun h21 => ?_)
    · skip
      have c22 := eqI h21
      exact Sf_some trivial
    · skip
      have c23 := neI h21
      refine Sf_ite (fun h24 => ?_) (fun h24 => ?_)
      · skip
        have l25 : ((-1) : Int32).toInt = -1 := by decide
        have c26 := leI h24
        refine Sf_cb7 (s_X7_lay G s_sky_many s_sky_seed s_page_readers s_page_day s_page_heights s_page_highest s_page_shapes s_sky_reckoner_letters s_sky_reckoner_values p2 (by assumption) (by omega) (by omega)) (fun o_p1_readers30_52 o_p1_day30_53 o_p1_heights30_54 o_p1_highest30_55 o_p1_shapes30_56 o_reckoner_letters30_57 o_reckoner_values30_58 hp27 => ?_)
        have g28 := rgI o_p1_readers30_52
        have g29 := rgI o_p1_day30_53
        refine Sf_gdN (by omega) (by omega) ?_
        have t37 := tN p1 (by omega)
        refine Sf_oT (fun z35 hz36 => by cases hz36; omega) (fun hn30 => ?_) (fun i31 t_120 hr32 hi33 hg34 => ?_)
        · skip
          refine Sf_cb3 (s_X4_read_N o_p1_readers30_52 o_p1_day30_53 o_p1_heights30_54 s_page_marked o_p1_shapes30_56 s_page_reckoner_letters p1 ) (fun o_readers44_128 o_marked44_129 o_reckoner_letters44_130 hp38 => ?_)
          have g39 := rgI o_readers44_128
          rw [f_X11_marks_J47]
          refine Sf_ite (fun h40 => ?_) (fun h40 => ?_)
          · skip
            have c41 := eqI h40
            refine Sf_cb1 (s_X4_marksOf o_marked44_129 p1 ) (fun r57_98 hp42 => ?_)
            have g43 := rgI r57_98
            exact Sf_some trivial
          · skip
            have c44 := neI h40
            refine Sf_cb1 (s_X4_markNumber o_p1_heights30_54 o_marked44_129 p1 p3 ) (fun r69_77 hp45 => ?_)
            have g46 := rgI r69_77
            exact Sf_some trivial
        · skip
          cases hr32
          obtain ⟨a1_t_120, a2_t_120, a3_t_120, a4_t_120, a5_t_120, a6_t_120, a7_t_120⟩ := (‹gOK G›).1 _ _ hg34
          refine Sf_cb4 (s_X4_read (t_120.2.2.1.1) (t_120.2.2.2.2.1) (t_120.2.2.2.1.1) o_p1_readers30_52 o_p1_day30_53 (t_120.2.1) (t_120.2.2.1.2) (t_120.2.2.2.2.2) (t_120.2.2.2.1.2) o_p1_heights30_54 s_page_marked o_p1_shapes30_56 s_page_reckoner_letters s_page_reckoner_values p1 (by omega) (by omega) (by omega) (by omega) (by omega) (by assumption) (by assumption)) (fun o_readers44_141 o_marked44_142 o_reckoner_letters44_143 o_reckoner_values44_144 hp47 => ?_)
          have g48 := rgI o_readers44_141
          rw [f_X11_marks_J47]
          refine Sf_ite (fun h49 => ?_) (fun h49 => ?_)
          · skip
            have c50 := eqI h49
            refine Sf_cb1 (s_X4_marksOf o_marked44_142 p1 ) (fun r57_98 hp51 => ?_)
            have g52 := rgI r57_98
            exact Sf_some trivial
          · skip
            have c53 := neI h49
            refine Sf_cb1 (s_X4_markNumber o_p1_heights30_54 o_marked44_142 p1 p3 ) (fun r69_77 hp54 => ?_)
            have g55 := rgI r69_77
            exact Sf_some trivial
      · skip
        have l56 : ((-1) : Int32).toInt = -1 := by decide
        have c57 := nleI h24
        exact Sf_some trivial
set_option maxHeartbeats 4000000 in
set_option maxRecDepth 100000 in
theorem s_X11_passed_L74 (s_sky_many : Int32) (s_sky_seed : Int32) (p1 : Int32) (p2 : Int32) (p4 : Int32) (p5 : Int32) (G : kG) (K143 : Int32 → Int32 → Int32 → (Nat → Int32) → (Nat → Int32) → (Nat → Int32) → (Nat → Int32) → (Nat → Int32) → (Nat → Int32) → (Nat → Int32) → (Nat → Int32) → Option (Int32 × Int32 × Int32 × (Nat → Int32) × (Nat → Int32) × (Nat → Int32) × (Nat → Int32) × (Nat → Int32) × (Nat → Int32) × (Nat → Int32) × (Nat → Int32))) (K177 : Int32 → Int32 → Int32 → (Nat → Int32) → (Nat → Int32) → (Nat → Int32) → (Nat → Int32) → (Nat → Int32) → (Nat → Int32) → (Nat → Int32) → (Nat → Int32) → Option (Int32 × Int32 × Int32 × (Nat → Int32) × (Nat → Int32) × (Nat → Int32) × (Nat → Int32) × (Nat → Int32) × (Nat → Int32) × (Nat → Int32) × (Nat → Int32))) (hp0 : gOK G) (hp1 : 0 ≤ s_sky_many.toInt) (hp2 : s_sky_many.toInt ≤ 10) (hp3 : 0 ≤ p1.toInt) (hp4 : p1.toInt ≤ 3) (hp5 : 0 ≤ p2.toInt) (hp6 : p2.toInt ≤ 3) (hp7 : p4.toInt ≤ 399) (hK143 : ∀ (a0 : Int32) (a1 : Int32) (a2 : Int32) (a3 : Nat → Int32) (a4 : Nat → Int32) (a5 : Nat → Int32) (a6 : Nat → Int32) (a7 : Nat → Int32) (a8 : Nat → Int32) (a9 : Nat → Int32) (a10 : Nat → Int32), Sf (K143 a0 a1 a2 a3 a4 a5 a6 a7 a8 a9 a10) (fun (y : Int32 × Int32 × Int32 × (Nat → Int32) × (Nat → Int32) × (Nat → Int32) × (Nat → Int32) × (Nat → Int32) × (Nat → Int32) × (Nat → Int32) × (Nat → Int32)) => True)) (hK177 : ∀ (a0 : Int32) (a1 : Int32) (a2 : Int32) (a3 : Nat → Int32) (a4 : Nat → Int32) (a5 : Nat → Int32) (a6 : Nat → Int32) (a7 : Nat → Int32) (a8 : Nat → Int32) (a9 : Nat → Int32) (a10 : Nat → Int32), Sf (K177 a0 a1 a2 a3 a4 a5 a6 a7 a8 a9 a10) (fun (y : Int32 × Int32 × Int32 × (Nat → Int32) × (Nat → Int32) × (Nat → Int32) × (Nat → Int32) × (Nat → Int32) × (Nat → Int32) × (Nat → Int32) × (Nat → Int32)) => True)) : ∀ (n : Nat) (x7_128 : Int32) (x8_129 : Int32) (page_day__130 : Int32) (page_readers__131 : Int32) (page_heights__132 : Nat → Int32) (page_highest__133 : Nat → Int32) (page_marked__134 : Nat → Int32) (page_reckoner_letters__135 : Nat → Int32) (page_reckoner_values__136 : Nat → Int32) (page_shapes__137 : Nat → Int32) (sky_reckoner_letters__138 : Nat → Int32) (sky_reckoner_values__139 : Nat → Int32), (0 ≤ x8_129.toInt) → (x8_129.toInt ≤ 400) → (401 - x8_129.toInt < (n : Int)) → Sf (f_X11_passed_L74 s_sky_many s_sky_seed p1 p2 p4 p5 G K143 K177 n x7_128 x8_129 page_day__130 page_readers__131 page_heights__132 page_highest__133 page_marked__134 page_reckoner_letters__135 page_reckoner_values__136 page_shapes__137 sky_reckoner_letters__138 sky_reckoner_values__139) (fun (y : Int32 × Int32 × Int32 × (Nat → Int32) × (Nat → Int32) × (Nat → Int32) × (Nat → Int32) × (Nat → Int32) × (Nat → Int32) × (Nat → Int32) × (Nat → Int32)) => True) := by
  have hFU : (100000 : Int) ≤ (FU : Int) := Int.ofNat_le.mpr FU_ge
  have g1 := rgI s_sky_many
  have g2 := rgI s_sky_seed
  have g3 := rgI p1
  have g4 := rgI p2
  have g5 := rgI p4
  have g6 := rgI p5
  intro n
  induction n with
  | zero =>
    intro x7_128 x8_129 page_day__130 page_readers__131 page_heights__132 page_highest__133 page_marked__134 page_reckoner_letters__135 page_reckoner_values__136 page_shapes__137 sky_reckoner_letters__138 sky_reckoner_values__139 hi0 hi1 hm
    have g7 := rgI x7_128
    have g8 := rgI x8_129
    have g9 := rgI page_day__130
    have g10 := rgI page_readers__131
    exact absurd hm (by omega)
  | succ n ih =>
    intro x7_128 x8_129 page_day__130 page_readers__131 page_heights__132 page_highest__133 page_marked__134 page_reckoner_letters__135 page_reckoner_values__136 page_shapes__137 sky_reckoner_letters__138 sky_reckoner_values__139 hi0 hi1 hm
    rw [f_X11_passed_L74]
    have g11 := rgI x7_128
    have g12 := rgI x8_129
    have g13 := rgI page_day__130
    have g14 := rgI page_readers__131
    refine Sf_ite (fun h15 => ?_) (fun h15 => ?_)
    · skip
      have c16 := ltI h15
      exact hK177 x7_128 page_day__130 page_readers__131 page_heights__132 page_highest__133 page_marked__134 page_reckoner_letters__135 page_reckoner_values__136 page_shapes__137 sky_reckoner_letters__138 sky_reckoner_values__139 
    · skip
      have c17 := nltI h15
      refine Sf_cb7 (s_X7_lay G s_sky_many s_sky_seed page_readers__131 page_day__130 page_heights__132 page_highest__133 page_shapes__137 sky_reckoner_letters__138 sky_reckoner_values__139 x8_129 (by assumption) (by omega) (by omega)) (fun o_p1_readers91_143 o_p1_day91_144 o_p1_heights91_145 o_p1_highest91_146 o_p1_shapes91_147 o_reckoner_letters91_148 o_reckoner_values91_149 hp18 => ?_)
      have g19 := rgI o_p1_readers91_143
      have g20 := rgI o_p1_day91_144
      refine Sf_gdN (by omega) (by omega) ?_
      have t28 := tN p1 (by omega)
      refine Sf_oT (fun z26 hz27 => by cases hz27; omega) (fun hn21 => ?_) (fun i22 t_233 hr23 hi24 hg25 => ?_)
      · skip
        refine Sf_cb3 (s_X4_read_N o_p1_readers91_143 o_p1_day91_144 o_p1_heights91_145 page_marked__134 o_p1_shapes91_147 page_reckoner_letters__135 p1 ) (fun o_readers105_241 o_marked105_242 o_reckoner_letters105_243 hp29 => ?_)
        have g30 := rgI o_readers105_241
        rw [f_X11_passed_J108]
        refine Sf_gdN (by omega) (by omega) ?_
        have t38 := tN p2 (by omega)
        refine Sf_oT (fun z36 hz37 => by cases hz37; omega) (fun hn31 => ?_) (fun i32 t_197 hr33 hi34 hg35 => ?_)
        · skip
          refine Sf_cb3 (s_X4_read_N o_readers105_241 o_p1_day91_144 o_p1_heights91_145 o_marked105_242 o_p1_shapes91_147 o_reckoner_letters105_243 p2 ) (fun o_readers119_205 o_marked119_206 o_reckoner_letters119_207 hp39 => ?_)
          have g40 := rgI o_readers119_205
          rw [f_X11_passed_J122]
          refine Sf_cb1 (s_X4_passedMarks o_marked119_206 p1 p2 ) (fun r128_171 hp41 => ?_)
          have g42 := rgI r128_171
          refine Sf_ite (fun h43 => ?_) (fun h43 => ?_)
          · skip
            have l44 : (0 : Int32).toInt = 0 := by decide
            have c45 := leI h43
            rw [f_X11_passed_J164]
            refine Sf_nmI (fun v169_182 hv46 => ?_)
            have g47 := rgI (x7_128 + r128_171)
            first | have e48 := adX x7_128 r128_171 (by omega) (by omega) | skip
            have q49 := eqI hv46
            refine Sf_nmI (fun v171_186 hv50 => ?_)
            have g51 := rgI (x8_129 + 1)
            first | have e52 := adN x8_129 1 (1) (by decide) (by omega) (by omega) | skip
            have q53 := eqI hv50
            exact ih v169_182 v171_186 o_p1_day91_144 o_readers119_205 o_p1_heights91_145 o_p1_highest91_146 o_marked119_206 o_reckoner_letters119_207 page_reckoner_values__136 o_p1_shapes91_147 o_reckoner_letters91_148 o_reckoner_values91_149 (by omega) (by omega) (by omega)
          · skip
            have l54 : (0 : Int32).toInt = 0 := by decide
            have c55 := nleI h43
            refine Sf_ite (fun h56 => ?_) (fun h56 => ?_)
            · skip
              have c57 := leI h56
              rw [f_X11_passed_J164]
              refine Sf_nmI (fun v169_182 hv58 => ?_)
              have g59 := rgI (x7_128 + r128_171)
              first | have e60 := adX x7_128 r128_171 (by omega) (by omega) | skip
              have q61 := eqI hv58
              refine Sf_nmI (fun v171_186 hv62 => ?_)
              have g63 := rgI (x8_129 + 1)
              first | have e64 := adN x8_129 1 (1) (by decide) (by omega) (by omega) | skip
              have q65 := eqI hv62
              exact ih v169_182 v171_186 o_p1_day91_144 o_readers119_205 o_p1_heights91_145 o_p1_highest91_146 o_marked119_206 o_reckoner_letters119_207 page_reckoner_values__136 o_p1_shapes91_147 o_reckoner_letters91_148 o_reckoner_values91_149 (by omega) (by omega) (by omega)
            · skip
              have c66 := nleI h56
              exact hK143 x8_129 o_p1_day91_144 o_readers119_205 o_p1_heights91_145 o_p1_highest91_146 o_marked119_206 o_reckoner_letters119_207 page_reckoner_values__136 o_p1_shapes91_147 o_reckoner_letters91_148 o_reckoner_values91_149 
        · skip
          cases hr33
          obtain ⟨a1_t_197, a2_t_197, a3_t_197, a4_t_197, a5_t_197, a6_t_197, a7_t_197⟩ := (‹gOK G›).1 _ _ hg35
          refine Sf_cb4 (s_X4_read (t_197.2.2.1.1) (t_197.2.2.2.2.1) (t_197.2.2.2.1.1) o_readers105_241 o_p1_day91_144 (t_197.2.1) (t_197.2.2.1.2) (t_197.2.2.2.2.2) (t_197.2.2.2.1.2) o_p1_heights91_145 o_marked105_242 o_p1_shapes91_147 o_reckoner_letters105_243 page_reckoner_values__136 p2 (by omega) (by omega) (by omega) (by omega) (by omega) (by assumption) (by assumption)) (fun o_readers119_218 o_marked119_219 o_reckoner_letters119_220 o_reckoner_values119_221 hp67 => ?_)
          have g68 := rgI o_readers119_218
          rw [f_X11_passed_J122]
          refine Sf_cb1 (s_X4_passedMarks o_marked119_219 p1 p2 ) (fun r128_171 hp69 => ?_)
          have g70 := rgI r128_171
          refine Sf_ite (fun h71 => ?_) (fun h71 => ?_)
          · skip
            have l72 : (0 : Int32).toInt = 0 := by decide
            have c73 := leI h71
            rw [f_X11_passed_J164]
            refine Sf_nmI (fun v169_182 hv74 => ?_)
            have g75 := rgI (x7_128 + r128_171)
            first | have e76 := adX x7_128 r128_171 (by omega) (by omega) | skip
            have q77 := eqI hv74
            refine Sf_nmI (fun v171_186 hv78 => ?_)
            have g79 := rgI (x8_129 + 1)
            first | have e80 := adN x8_129 1 (1) (by decide) (by omega) (by omega) | skip
            have q81 := eqI hv78
            exact ih v169_182 v171_186 o_p1_day91_144 o_readers119_218 o_p1_heights91_145 o_p1_highest91_146 o_marked119_219 o_reckoner_letters119_220 o_reckoner_values119_221 o_p1_shapes91_147 o_reckoner_letters91_148 o_reckoner_values91_149 (by omega) (by omega) (by omega)
          · skip
            have l82 : (0 : Int32).toInt = 0 := by decide
            have c83 := nleI h71
            refine Sf_ite (fun h84 => ?_) (fun h84 => ?_)
            · skip
              have c85 := leI h84
              rw [f_X11_passed_J164]
              refine Sf_nmI (fun v169_182 hv86 => ?_)
              have g87 := rgI (x7_128 + r128_171)
              first | have e88 := adX x7_128 r128_171 (by omega) (by omega) | skip
              have q89 := eqI hv86
              refine Sf_nmI (fun v171_186 hv90 => ?_)
              have g91 := rgI (x8_129 + 1)
              first | have e92 := adN x8_129 1 (1) (by decide) (by omega) (by omega) | skip
              have q93 := eqI hv90
              exact ih v169_182 v171_186 o_p1_day91_144 o_readers119_218 o_p1_heights91_145 o_p1_highest91_146 o_marked119_219 o_reckoner_letters119_220 o_reckoner_values119_221 o_p1_shapes91_147 o_reckoner_letters91_148 o_reckoner_values91_149 (by omega) (by omega) (by omega)
            · skip
              have c94 := nleI h84
              exact hK143 x8_129 o_p1_day91_144 o_readers119_218 o_p1_heights91_145 o_p1_highest91_146 o_marked119_219 o_reckoner_letters119_220 o_reckoner_values119_221 o_p1_shapes91_147 o_reckoner_letters91_148 o_reckoner_values91_149 
      · skip
        cases hr23
        obtain ⟨a1_t_233, a2_t_233, a3_t_233, a4_t_233, a5_t_233, a6_t_233, a7_t_233⟩ := (‹gOK G›).1 _ _ hg25
        refine Sf_cb4 (s_X4_read (t_233.2.2.1.1) (t_233.2.2.2.2.1) (t_233.2.2.2.1.1) o_p1_readers91_143 o_p1_day91_144 (t_233.2.1) (t_233.2.2.1.2) (t_233.2.2.2.2.2) (t_233.2.2.2.1.2) o_p1_heights91_145 page_marked__134 o_p1_shapes91_147 page_reckoner_letters__135 page_reckoner_values__136 p1 (by omega) (by omega) (by omega) (by omega) (by omega) (by assumption) (by assumption)) (fun o_readers105_254 o_marked105_255 o_reckoner_letters105_256 o_reckoner_values105_257 hp95 => ?_)
        have g96 := rgI o_readers105_254
        rw [f_X11_passed_J108]
        refine Sf_gdN (by omega) (by omega) ?_
        have t104 := tN p2 (by omega)
        refine Sf_oT (fun z102 hz103 => by cases hz103; omega) (fun hn97 => ?_) (fun i98 t_197 hr99 hi100 hg101 => ?_)
        · skip
          refine Sf_cb3 (s_X4_read_N o_readers105_254 o_p1_day91_144 o_p1_heights91_145 o_marked105_255 o_p1_shapes91_147 o_reckoner_letters105_256 p2 ) (fun o_readers119_205 o_marked119_206 o_reckoner_letters119_207 hp105 => ?_)
          have g106 := rgI o_readers119_205
          rw [f_X11_passed_J122]
          refine Sf_cb1 (s_X4_passedMarks o_marked119_206 p1 p2 ) (fun r128_171 hp107 => ?_)
          have g108 := rgI r128_171
          refine Sf_ite (fun h109 => ?_) (fun h109 => ?_)
          · skip
            have l110 : (0 : Int32).toInt = 0 := by decide
            have c111 := leI h109
            rw [f_X11_passed_J164]
            refine Sf_nmI (fun v169_182 hv112 => ?_)
            have g113 := rgI (x7_128 + r128_171)
            first | have e114 := adX x7_128 r128_171 (by omega) (by omega) | skip
            have q115 := eqI hv112
            refine Sf_nmI (fun v171_186 hv116 => ?_)
            have g117 := rgI (x8_129 + 1)
            first | have e118 := adN x8_129 1 (1) (by decide) (by omega) (by omega) | skip
            have q119 := eqI hv116
            exact ih v169_182 v171_186 o_p1_day91_144 o_readers119_205 o_p1_heights91_145 o_p1_highest91_146 o_marked119_206 o_reckoner_letters119_207 o_reckoner_values105_257 o_p1_shapes91_147 o_reckoner_letters91_148 o_reckoner_values91_149 (by omega) (by omega) (by omega)
          · skip
            have l120 : (0 : Int32).toInt = 0 := by decide
            have c121 := nleI h109
            refine Sf_ite (fun h122 => ?_) (fun h122 => ?_)
            · skip
              have c123 := leI h122
              rw [f_X11_passed_J164]
              refine Sf_nmI (fun v169_182 hv124 => ?_)
              have g125 := rgI (x7_128 + r128_171)
              first | have e126 := adX x7_128 r128_171 (by omega) (by omega) | skip
              have q127 := eqI hv124
              refine Sf_nmI (fun v171_186 hv128 => ?_)
              have g129 := rgI (x8_129 + 1)
              first | have e130 := adN x8_129 1 (1) (by decide) (by omega) (by omega) | skip
              have q131 := eqI hv128
              exact ih v169_182 v171_186 o_p1_day91_144 o_readers119_205 o_p1_heights91_145 o_p1_highest91_146 o_marked119_206 o_reckoner_letters119_207 o_reckoner_values105_257 o_p1_shapes91_147 o_reckoner_letters91_148 o_reckoner_values91_149 (by omega) (by omega) (by omega)
            · skip
              have c132 := nleI h122
              exact hK143 x8_129 o_p1_day91_144 o_readers119_205 o_p1_heights91_145 o_p1_highest91_146 o_marked119_206 o_reckoner_letters119_207 o_reckoner_values105_257 o_p1_shapes91_147 o_reckoner_letters91_148 o_reckoner_values91_149 
        · skip
          cases hr99
          obtain ⟨a1_t_197, a2_t_197, a3_t_197, a4_t_197, a5_t_197, a6_t_197, a7_t_197⟩ := (‹gOK G›).1 _ _ hg101
          refine Sf_cb4 (s_X4_read (t_197.2.2.1.1) (t_197.2.2.2.2.1) (t_197.2.2.2.1.1) o_readers105_254 o_p1_day91_144 (t_197.2.1) (t_197.2.2.1.2) (t_197.2.2.2.2.2) (t_197.2.2.2.1.2) o_p1_heights91_145 o_marked105_255 o_p1_shapes91_147 o_reckoner_letters105_256 o_reckoner_values105_257 p2 (by omega) (by omega) (by omega) (by omega) (by omega) (by assumption) (by assumption)) (fun o_readers119_218 o_marked119_219 o_reckoner_letters119_220 o_reckoner_values119_221 hp133 => ?_)
          have g134 := rgI o_readers119_218
          rw [f_X11_passed_J122]
          refine Sf_cb1 (s_X4_passedMarks o_marked119_219 p1 p2 ) (fun r128_171 hp135 => ?_)
          have g136 := rgI r128_171
          refine Sf_ite (fun h137 => ?_) (fun h137 => ?_)
          · skip
            have l138 : (0 : Int32).toInt = 0 := by decide
            have c139 := leI h137
            rw [f_X11_passed_J164]
            refine Sf_nmI (fun v169_182 hv140 => ?_)
            have g141 := rgI (x7_128 + r128_171)
            first | have e142 := adX x7_128 r128_171 (by omega) (by omega) | skip
            have q143 := eqI hv140
            refine Sf_nmI (fun v171_186 hv144 => ?_)
            have g145 := rgI (x8_129 + 1)
            first | have e146 := adN x8_129 1 (1) (by decide) (by omega) (by omega) | skip
            have q147 := eqI hv144
            exact ih v169_182 v171_186 o_p1_day91_144 o_readers119_218 o_p1_heights91_145 o_p1_highest91_146 o_marked119_219 o_reckoner_letters119_220 o_reckoner_values119_221 o_p1_shapes91_147 o_reckoner_letters91_148 o_reckoner_values91_149 (by omega) (by omega) (by omega)
          · skip
            have l148 : (0 : Int32).toInt = 0 := by decide
            have c149 := nleI h137
            refine Sf_ite (fun h150 => ?_) (fun h150 => ?_)
            · skip
              have c151 := leI h150
              rw [f_X11_passed_J164]
              refine Sf_nmI (fun v169_182 hv152 => ?_)
              have g153 := rgI (x7_128 + r128_171)
              first | have e154 := adX x7_128 r128_171 (by omega) (by omega) | skip
              have q155 := eqI hv152
              refine Sf_nmI (fun v171_186 hv156 => ?_)
              have g157 := rgI (x8_129 + 1)
              first | have e158 := adN x8_129 1 (1) (by decide) (by omega) (by omega) | skip
              have q159 := eqI hv156
              exact ih v169_182 v171_186 o_p1_day91_144 o_readers119_218 o_p1_heights91_145 o_p1_highest91_146 o_marked119_219 o_reckoner_letters119_220 o_reckoner_values119_221 o_p1_shapes91_147 o_reckoner_letters91_148 o_reckoner_values91_149 (by omega) (by omega) (by omega)
            · skip
              have c160 := nleI h150
              exact hK143 x8_129 o_p1_day91_144 o_readers119_218 o_p1_heights91_145 o_p1_highest91_146 o_marked119_219 o_reckoner_letters119_220 o_reckoner_values119_221 o_p1_shapes91_147 o_reckoner_letters91_148 o_reckoner_values91_149 
set_option maxHeartbeats 4000000 in
set_option maxRecDepth 100000 in
theorem s_X11_passed (G : kG) (s_page_readers : Int32) (s_page_day : Int32) (s_sky_many : Int32) (s_sky_seed : Int32) (s_page_heights : Nat → Int32) (s_page_highest : Nat → Int32) (s_page_marked : Nat → Int32) (s_page_shapes : Nat → Int32) (s_page_reckoner_letters : Nat → Int32) (s_page_reckoner_values : Nat → Int32) (s_sky_reckoner_letters : Nat → Int32) (s_sky_reckoner_values : Nat → Int32) (p1 : Int32) (p2 : Int32) (p3 : Int32) (p4 : Int32) (p5 : Int32) (hp0 : gOK G) (hp1 : 0 ≤ s_sky_many.toInt) (hp2 : s_sky_many.toInt ≤ 10) : Sf (f_X11_passed G s_page_readers s_page_day s_sky_many s_sky_seed s_page_heights s_page_highest s_page_marked s_page_shapes s_page_reckoner_letters s_page_reckoner_values s_sky_reckoner_letters s_sky_reckoner_values p1 p2 p3 p4 p5) (fun (y : Int32 × Int32 × Int32 × (Nat → Int32) × (Nat → Int32) × (Nat → Int32) × (Nat → Int32) × (Nat → Int32) × (Nat → Int32) × (Nat → Int32) × (Nat → Int32)) => True) := by
  have g1 := rgI s_page_readers
  have g2 := rgI s_page_day
  have g3 := rgI s_sky_many
  have g4 := rgI s_sky_seed
  have g5 := rgI p1
  have g6 := rgI p2
  have g7 := rgI p3
  have g8 := rgI p4
  have g9 := rgI p5
  have hFU : (100000 : Int) ≤ (FU : Int) := Int.ofNat_le.mpr FU_ge
  rw [f_X11_passed]
  refine Sf_cb1 (s_X11_isReader p1 ) (fun r1_1 hp10 => ?_)
  have hp10 : ((r1_1.toInt = 0 ∨ r1_1.toInt = 1)) ∧ ((r1_1.toInt = 1 ∧ 0 ≤ p1.toInt ∧ p1.toInt ≤ 3) ∨ (r1_1.toInt = 0 ∧ (p1.toInt < 0 ∨ 3 < p1.toInt))) := hp10
  obtain ⟨hq11, hq12⟩ := hp10
  have g13 := rgI r1_1
  refine Sf_ite (fun h14 => ?_) (fun h14 => ?_)
  · skip
    have l15 : (0 : Int32).toInt = 0 := by decide
    have c16 := eqI h14
    rw [f_X11_passed_J44]
    refine Sf_ite (fun h17 => ?_) (fun h17 => ?_)
    · skip
      have c18 := eqI h17
      exact Sf_some trivial
    · skip
      have c19 := neI h17
      refine Sf_ite (fun h20 => ?_) (fun h20 => ?_)
      · skip
        have c21 := ltI h20
        exact Sf_some trivial
      · skip
        have c22 := nltI h20
        refine Sf_ite (fun h23 => ?_) (fun h23 => ?_)
        · skip
          have g24 := rgI (p4 - p3)
          first | have e25 := sbX p4 p3 (by omega) (by omega) | skip
          have l26 : (30 : Int32).toInt = 30 := by decide
          have c27 := ltI h23
          refine s_X11_passed_L74 s_sky_many s_sky_seed p1 p2 p4 p5 G (f_X11_passed_J143 p1 p2 p5) (f_X11_passed_J177 p5) (by assumption) (by omega) (by omega) (by omega) (by omega) (by omega) (by omega) (by omega) ?_ ?_ FU 0 p3 s_page_day s_page_readers s_page_heights s_page_highest s_page_marked s_page_reckoner_letters s_page_reckoner_values s_page_shapes s_sky_reckoner_letters s_sky_reckoner_values (by omega) (by omega) (by omega)
          · intro z28 z29 z30 z31 z32 z33 z34 z35 z36 z37 z38
            have g39 := rgI z28
            have g40 := rgI z29
            have g41 := rgI z30
            rw [f_X11_passed_J143]
            refine Sf_ite (fun h42 => ?_) (fun h42 => ?_)
            · skip
              have l43 : (1 : Int32).toInt = 1 := by decide
              have c44 := eqI h42
              exact Sf_some trivial
            · skip
              have l45 : (1 : Int32).toInt = 1 := by decide
              have c46 := neI h42
              refine Sf_cb1 (s_X4_firstPassed z33 p1 p2 ) (fun r160_60 hp47 => ?_)
              have g48 := rgI r160_60
              exact Sf_some trivial
          · intro z49 z50 z51 z52 z53 z54 z55 z56 z57 z58 z59
            have g60 := rgI z49
            have g61 := rgI z50
            have g62 := rgI z51
            rw [f_X11_passed_J177]
            refine Sf_ite (fun h63 => ?_) (fun h63 => ?_)
            · skip
              have c64 := eqI h63
              exact Sf_some trivial
            · skip
              have c65 := neI h63
              exact Sf_some trivial
        · skip
          have g66 := rgI (p4 - p3)
          first | have e67 := sbX p4 p3 (by omega) (by omega) | skip
          have l68 : (30 : Int32).toInt = 30 := by decide
          have c69 := nltI h23
          exact Sf_some trivial
  · skip
    have l70 : (0 : Int32).toInt = 0 := by decide
    have c71 := neI h14
    refine Sf_cb1 (s_X11_isReader p2 ) (fun r8_282 hp72 => ?_)
    have hp72 : ((r8_282.toInt = 0 ∨ r8_282.toInt = 1)) ∧ ((r8_282.toInt = 1 ∧ 0 ≤ p2.toInt ∧ p2.toInt ≤ 3) ∨ (r8_282.toInt = 0 ∧ (p2.toInt < 0 ∨ 3 < p2.toInt))) := hp72
    obtain ⟨hq73, hq74⟩ := hp72
    have g75 := rgI r8_282
    refine Sf_ite (fun h76 => ?_) (fun h76 => ?_)
    · skip
      have c77 := eqI h76
      rw [f_X11_passed_J44]
      refine Sf_ite (fun h78 => ?_) (fun h78 => ?_)
      · skip
        have c79 := eqI h78
        exact Sf_some trivial
      · skip
        have c80 := neI h78
        refine Sf_ite (fun h81 => ?_) (fun h81 => ?_)
        · skip
          have c82 := ltI h81
          exact Sf_some trivial
        · skip
          have c83 := nltI h81
          refine Sf_ite (fun h84 => ?_) (fun h84 => ?_)
          · skip
            have g85 := rgI (p4 - p3)
            first | have e86 := sbX p4 p3 (by omega) (by omega) | skip
            have l87 : (30 : Int32).toInt = 30 := by decide
            have c88 := ltI h84
            refine s_X11_passed_L74 s_sky_many s_sky_seed p1 p2 p4 p5 G (f_X11_passed_J143 p1 p2 p5) (f_X11_passed_J177 p5) (by assumption) (by omega) (by omega) (by omega) (by omega) (by omega) (by omega) (by omega) ?_ ?_ FU 0 p3 s_page_day s_page_readers s_page_heights s_page_highest s_page_marked s_page_reckoner_letters s_page_reckoner_values s_page_shapes s_sky_reckoner_letters s_sky_reckoner_values (by omega) (by omega) (by omega)
            · intro z89 z90 z91 z92 z93 z94 z95 z96 z97 z98 z99
              have g100 := rgI z89
              have g101 := rgI z90
              have g102 := rgI z91
              rw [f_X11_passed_J143]
              refine Sf_ite (fun h103 => ?_) (fun h103 => ?_)
              · skip
                have l104 : (1 : Int32).toInt = 1 := by decide
                have c105 := eqI h103
                exact Sf_some trivial
              · skip
                have l106 : (1 : Int32).toInt = 1 := by decide
                have c107 := neI h103
                refine Sf_cb1 (s_X4_firstPassed z94 p1 p2 ) (fun r160_60 hp108 => ?_)
                have g109 := rgI r160_60
                exact Sf_some trivial
            · intro z110 z111 z112 z113 z114 z115 z116 z117 z118 z119 z120
              have g121 := rgI z110
              have g122 := rgI z111
              have g123 := rgI z112
              rw [f_X11_passed_J177]
              refine Sf_ite (fun h124 => ?_) (fun h124 => ?_)
              · skip
                have c125 := eqI h124
                exact Sf_some trivial
              · skip
                have c126 := neI h124
                exact Sf_some trivial
          · skip
            have g127 := rgI (p4 - p3)
            first | have e128 := sbX p4 p3 (by omega) (by omega) | skip
            have l129 : (30 : Int32).toInt = 30 := by decide
            have c130 := nltI h84
            exact Sf_some trivial
    · skip
      have c131 := neI h76
      refine Sf_cb1 (s_X11_isDay p3 ) (fun r15_295 hp132 => ?_)
      have hp132 : ((r15_295.toInt = 0 ∨ r15_295.toInt = 1)) ∧ ((r15_295.toInt = 1 ∧ 0 ≤ p3.toInt ∧ p3.toInt ≤ 399) ∨ (r15_295.toInt = 0 ∧ (p3.toInt < 0 ∨ 399 < p3.toInt))) := hp132
      obtain ⟨hq133, hq134⟩ := hp132
      have g135 := rgI r15_295
      refine Sf_ite (fun h136 => ?_) (fun h136 => ?_)
      · skip
        have c137 := eqI h136
        rw [f_X11_passed_J44]
        refine Sf_ite (fun h138 => ?_) (fun h138 => ?_)
        · skip
          have c139 := eqI h138
          exact Sf_some trivial
        · skip
          have c140 := neI h138
          refine Sf_ite (fun h141 => ?_) (fun h141 => ?_)
          · skip
            have c142 := ltI h141
            exact Sf_some trivial
          · skip
            have c143 := nltI h141
            refine Sf_ite (fun h144 => ?_) (fun h144 => ?_)
            · skip
              have g145 := rgI (p4 - p3)
              first | have e146 := sbX p4 p3 (by omega) (by omega) | skip
              have l147 : (30 : Int32).toInt = 30 := by decide
              have c148 := ltI h144
              refine s_X11_passed_L74 s_sky_many s_sky_seed p1 p2 p4 p5 G (f_X11_passed_J143 p1 p2 p5) (f_X11_passed_J177 p5) (by assumption) (by omega) (by omega) (by omega) (by omega) (by omega) (by omega) (by omega) ?_ ?_ FU 0 p3 s_page_day s_page_readers s_page_heights s_page_highest s_page_marked s_page_reckoner_letters s_page_reckoner_values s_page_shapes s_sky_reckoner_letters s_sky_reckoner_values (by omega) (by omega) (by omega)
              · intro z149 z150 z151 z152 z153 z154 z155 z156 z157 z158 z159
                have g160 := rgI z149
                have g161 := rgI z150
                have g162 := rgI z151
                rw [f_X11_passed_J143]
                refine Sf_ite (fun h163 => ?_) (fun h163 => ?_)
                · skip
                  have l164 : (1 : Int32).toInt = 1 := by decide
                  have c165 := eqI h163
                  exact Sf_some trivial
                · skip
                  have l166 : (1 : Int32).toInt = 1 := by decide
                  have c167 := neI h163
                  refine Sf_cb1 (s_X4_firstPassed z154 p1 p2 ) (fun r160_60 hp168 => ?_)
                  have g169 := rgI r160_60
                  exact Sf_some trivial
              · intro z170 z171 z172 z173 z174 z175 z176 z177 z178 z179 z180
                have g181 := rgI z170
                have g182 := rgI z171
                have g183 := rgI z172
                rw [f_X11_passed_J177]
                refine Sf_ite (fun h184 => ?_) (fun h184 => ?_)
                · skip
                  have c185 := eqI h184
                  exact Sf_some trivial
                · skip
                  have c186 := neI h184
                  exact Sf_some trivial
            · skip
              have g187 := rgI (p4 - p3)
              first | have e188 := sbX p4 p3 (by omega) (by omega) | skip
              have l189 : (30 : Int32).toInt = 30 := by decide
              have c190 := nltI h144
              exact Sf_some trivial
      · skip
        have c191 := neI h136
        refine Sf_cb1 (s_X11_isDay p4 ) (fun r23_308 hp192 => ?_)
        have hp192 : ((r23_308.toInt = 0 ∨ r23_308.toInt = 1)) ∧ ((r23_308.toInt = 1 ∧ 0 ≤ p4.toInt ∧ p4.toInt ≤ 399) ∨ (r23_308.toInt = 0 ∧ (p4.toInt < 0 ∨ 399 < p4.toInt))) := hp192
        obtain ⟨hq193, hq194⟩ := hp192
        have g195 := rgI r23_308
        refine Sf_ite (fun h196 => ?_) (fun h196 => ?_)
        · skip
          have c197 := eqI h196
          rw [f_X11_passed_J44]
          refine Sf_ite (fun h198 => ?_) (fun h198 => ?_)
          · skip
            have c199 := eqI h198
            exact Sf_some trivial
          · skip
            have c200 := neI h198
            refine Sf_ite (fun h201 => ?_) (fun h201 => ?_)
            · skip
              have c202 := ltI h201
              exact Sf_some trivial
            · skip
              have c203 := nltI h201
              refine Sf_ite (fun h204 => ?_) (fun h204 => ?_)
              · skip
                have g205 := rgI (p4 - p3)
                first | have e206 := sbX p4 p3 (by omega) (by omega) | skip
                have l207 : (30 : Int32).toInt = 30 := by decide
                have c208 := ltI h204
                refine s_X11_passed_L74 s_sky_many s_sky_seed p1 p2 p4 p5 G (f_X11_passed_J143 p1 p2 p5) (f_X11_passed_J177 p5) (by assumption) (by omega) (by omega) (by omega) (by omega) (by omega) (by omega) (by omega) ?_ ?_ FU 0 p3 s_page_day s_page_readers s_page_heights s_page_highest s_page_marked s_page_reckoner_letters s_page_reckoner_values s_page_shapes s_sky_reckoner_letters s_sky_reckoner_values (by omega) (by omega) (by omega)
                · intro z209 z210 z211 z212 z213 z214 z215 z216 z217 z218 z219
                  have g220 := rgI z209
                  have g221 := rgI z210
                  have g222 := rgI z211
                  rw [f_X11_passed_J143]
                  refine Sf_ite (fun h223 => ?_) (fun h223 => ?_)
                  · skip
                    have l224 : (1 : Int32).toInt = 1 := by decide
                    have c225 := eqI h223
                    exact Sf_some trivial
                  · skip
                    have l226 : (1 : Int32).toInt = 1 := by decide
                    have c227 := neI h223
                    refine Sf_cb1 (s_X4_firstPassed z214 p1 p2 ) (fun r160_60 hp228 => ?_)
                    have g229 := rgI r160_60
                    exact Sf_some trivial
                · intro z230 z231 z232 z233 z234 z235 z236 z237 z238 z239 z240
                  have g241 := rgI z230
                  have g242 := rgI z231
                  have g243 := rgI z232
                  rw [f_X11_passed_J177]
                  refine Sf_ite (fun h244 => ?_) (fun h244 => ?_)
                  · skip
                    have c245 := eqI h244
                    exact Sf_some trivial
                  · skip
                    have c246 := neI h244
                    exact Sf_some trivial
              · skip
                have g247 := rgI (p4 - p3)
                first | have e248 := sbX p4 p3 (by omega) (by omega) | skip
                have l249 : (30 : Int32).toInt = 30 := by decide
                have c250 := nltI h204
                exact Sf_some trivial
        · skip
          have c251 := neI h196
          have l252 : (2 : Int32).toInt = 2 := by decide
          refine Sf_cb1 (s_X11_isWithin p5 0 2 ) (fun r33_321 hp253 => ?_)
          have hp253 : ((r33_321.toInt = 0 ∨ r33_321.toInt = 1)) ∧ ((r33_321.toInt = 1 ∧ (0 : Int32).toInt ≤ p5.toInt ∧ p5.toInt ≤ (2 : Int32).toInt) ∨ (r33_321.toInt = 0 ∧ (p5.toInt < (0 : Int32).toInt ∨ (2 : Int32).toInt < p5.toInt))) := hp253
          obtain ⟨hq254, hq255⟩ := hp253
          have g256 := rgI r33_321
          refine Sf_ite (fun h257 => ?_) (fun h257 => ?_)
          · skip
            have c258 := eqI h257
            rw [f_X11_passed_J44]
            refine Sf_ite (fun h259 => ?_) (fun h259 => ?_)
            · skip
              have c260 := eqI h259
              exact Sf_some trivial
            · skip
              have c261 := neI h259
              refine Sf_ite (fun h262 => ?_) (fun h262 => ?_)
              · skip
                have c263 := ltI h262
                exact Sf_some trivial
              · skip
                have c264 := nltI h262
                refine Sf_ite (fun h265 => ?_) (fun h265 => ?_)
                · skip
                  have g266 := rgI (p4 - p3)
                  first | have e267 := sbX p4 p3 (by omega) (by omega) | skip
                  have l268 : (30 : Int32).toInt = 30 := by decide
                  have c269 := ltI h265
                  refine s_X11_passed_L74 s_sky_many s_sky_seed p1 p2 p4 p5 G (f_X11_passed_J143 p1 p2 p5) (f_X11_passed_J177 p5) (by assumption) (by omega) (by omega) (by omega) (by omega) (by omega) (by omega) (by omega) ?_ ?_ FU 0 p3 s_page_day s_page_readers s_page_heights s_page_highest s_page_marked s_page_reckoner_letters s_page_reckoner_values s_page_shapes s_sky_reckoner_letters s_sky_reckoner_values (by omega) (by omega) (by omega)
                  · intro z270 z271 z272 z273 z274 z275 z276 z277 z278 z279 z280
                    have g281 := rgI z270
                    have g282 := rgI z271
                    have g283 := rgI z272
                    rw [f_X11_passed_J143]
                    refine Sf_ite (fun h284 => ?_) (fun h284 => ?_)
                    · skip
                      have l285 : (1 : Int32).toInt = 1 := by decide
                      have c286 := eqI h284
                      exact Sf_some trivial
                    · skip
                      have l287 : (1 : Int32).toInt = 1 := by decide
                      have c288 := neI h284
                      refine Sf_cb1 (s_X4_firstPassed z275 p1 p2 ) (fun r160_60 hp289 => ?_)
                      have g290 := rgI r160_60
                      exact Sf_some trivial
                  · intro z291 z292 z293 z294 z295 z296 z297 z298 z299 z300 z301
                    have g302 := rgI z291
                    have g303 := rgI z292
                    have g304 := rgI z293
                    rw [f_X11_passed_J177]
                    refine Sf_ite (fun h305 => ?_) (fun h305 => ?_)
                    · skip
                      have c306 := eqI h305
                      exact Sf_some trivial
                    · skip
                      have c307 := neI h305
                      exact Sf_some trivial
                · skip
                  have g308 := rgI (p4 - p3)
                  first | have e309 := sbX p4 p3 (by omega) (by omega) | skip
                  have l310 : (30 : Int32).toInt = 30 := by decide
                  have c311 := nltI h265
                  exact Sf_some trivial
          · skip
            have c312 := neI h257
            rw [f_X11_passed_J44]
            refine Sf_ite (fun h313 => ?_) (fun h313 => ?_)
            · skip
              have l314 : (1 : Int32).toInt = 1 := by decide
              have c315 := eqI h313
              exact Sf_some trivial
            · skip
              have l316 : (1 : Int32).toInt = 1 := by decide
              have c317 := neI h313
              refine Sf_ite (fun h318 => ?_) (fun h318 => ?_)
              · skip
                have c319 := ltI h318
                exact Sf_some trivial
              · skip
                have c320 := nltI h318
                refine Sf_ite (fun h321 => ?_) (fun h321 => ?_)
                · skip
                  have g322 := rgI (p4 - p3)
                  first | have e323 := sbX p4 p3 (by omega) (by omega) | skip
                  have l324 : (30 : Int32).toInt = 30 := by decide
                  have c325 := ltI h321
                  refine s_X11_passed_L74 s_sky_many s_sky_seed p1 p2 p4 p5 G (f_X11_passed_J143 p1 p2 p5) (f_X11_passed_J177 p5) (by assumption) (by omega) (by omega) (by omega) (by omega) (by omega) (by omega) (by omega) ?_ ?_ FU 0 p3 s_page_day s_page_readers s_page_heights s_page_highest s_page_marked s_page_reckoner_letters s_page_reckoner_values s_page_shapes s_sky_reckoner_letters s_sky_reckoner_values (by omega) (by omega) (by omega)
                  · intro z326 z327 z328 z329 z330 z331 z332 z333 z334 z335 z336
                    have g337 := rgI z326
                    have g338 := rgI z327
                    have g339 := rgI z328
                    rw [f_X11_passed_J143]
                    refine Sf_ite (fun h340 => ?_) (fun h340 => ?_)
                    · skip
                      have c341 := eqI h340
                      exact Sf_some trivial
                    · skip
                      have c342 := neI h340
                      refine Sf_cb1 (s_X4_firstPassed z331 p1 p2 ) (fun r160_60 hp343 => ?_)
                      have g344 := rgI r160_60
                      exact Sf_some trivial
                  · intro z345 z346 z347 z348 z349 z350 z351 z352 z353 z354 z355
                    have g356 := rgI z345
                    have g357 := rgI z346
                    have g358 := rgI z347
                    rw [f_X11_passed_J177]
                    refine Sf_ite (fun h359 => ?_) (fun h359 => ?_)
                    · skip
                      have c360 := eqI h359
                      exact Sf_some trivial
                    · skip
                      have c361 := neI h359
                      exact Sf_some trivial
                · skip
                  have g362 := rgI (p4 - p3)
                  first | have e363 := sbX p4 p3 (by omega) (by omega) | skip
                  have l364 : (30 : Int32).toInt = 30 := by decide
                  have c365 := nltI h321
                  exact Sf_some trivial
set_option maxHeartbeats 4000000 in
set_option maxRecDepth 100000 in
theorem s_X11_says (G : kG) (s_nights_many : Int32) (s_nights_days : Nat → Int32) (s_nights_reckoner_letters : Nat → Int32) (s_nights_reckoner_values : Nat → Int32) (p1 : Int32) (p2 : Int32) (hp0 : gOK G) (hp1 : 0 ≤ s_nights_many.toInt) (hp2 : s_nights_many.toInt ≤ 30) : Sf (f_X11_says G s_nights_many s_nights_days s_nights_reckoner_letters s_nights_reckoner_values p1 p2) (fun (y : Int32 × (Nat → Int32) × (Nat → Int32)) => True) := by
  have g1 := rgI s_nights_many
  have g2 := rgI p1
  have g3 := rgI p2
  have hFU : (100000 : Int) ≤ (FU : Int) := Int.ofNat_le.mpr FU_ge
  rw [f_X11_says]
  refine Sf_cb1 (s_X2_storyAt G p1 ) (fun r5_1 hp4 => ?_)
  have hp4 : (∀ i, r5_1 = some i → 14 ≤ i ∧ i < 20) := hp4
  refine Sf_oT (fun z10 hz11 => by first | exact hp4 z10 hz11 | exact (hp4 z10 hz11).2) (fun hn5 => ?_) (fun i6 t_12 hr7 hi8 hg9 => ?_)
  · skip
    exact Sf_some trivial
  · skip
    subst hr7
    obtain ⟨a1_t_12, a2_t_12, a3_t_12, a4_t_12, a5_t_12, a6_t_12, a7_t_12⟩ := (‹gOK G›).1 _ _ hg9
    have l12 : (0 : Int32).toInt = 0 := by decide
    have g13 := rgI (s_nights_many - 1)
    first | have e14 := sbN s_nights_many 1 (1) (by decide) (by omega) (by omega) | skip
    refine Sf_cb1 (s_X11_isWithin p2 0 (s_nights_many - 1) ) (fun r24_24 hp15 => ?_)
    have hp15 : ((r24_24.toInt = 0 ∨ r24_24.toInt = 1)) ∧ ((r24_24.toInt = 1 ∧ (0 : Int32).toInt ≤ p2.toInt ∧ p2.toInt ≤ (s_nights_many - 1).toInt) ∨ (r24_24.toInt = 0 ∧ (p2.toInt < (0 : Int32).toInt ∨ (s_nights_many - 1).toInt < p2.toInt))) := hp15
    obtain ⟨hq16, hq17⟩ := hp15
    have g18 := rgI r24_24
    refine Sf_ite (fun h19 => ?_) (fun h19 => ?_)
    · skip
      have c20 := eqI h19
      exact Sf_some trivial
    · skip
      have c21 := neI h19
      refine Sf_cb3 (s_X2_shiftBy (t_12.2.2.1.1) (t_12.2.2.2.2.1) (t_12.2.2.2.1.1) (t_12.2.2.1.2) (t_12.2.2.2.2.2) (t_12.2.2.2.1.2) s_nights_days s_nights_reckoner_letters s_nights_reckoner_values p2 (by omega) (by omega) (by omega) (by assumption) (by assumption) (by omega) (by omega)) (fun r39_38 o_reckoner_letters39_39 o_reckoner_values39_40 hp22 => ?_)
      have g23 := rgI r39_38
      exact Sf_some trivial
set_option maxHeartbeats 4000000 in
set_option maxRecDepth 100000 in
theorem s_X11_falls (G : kG) (s_nights_many : Int32) (s_nights_days : Nat → Int32) (s_nights_shifts : Nat → Int32) (s_nights_reckoner_letters : Nat → Int32) (s_nights_reckoner_values : Nat → Int32) (p1 : Int32) (p2 : Int32) (hp0 : gOK G) (hp1 : 0 ≤ s_nights_many.toInt) (hp2 : s_nights_many.toInt ≤ 30) : Sf (f_X11_falls G s_nights_many s_nights_days s_nights_shifts s_nights_reckoner_letters s_nights_reckoner_values p1 p2) (fun (y : Int32 × (Nat → Int32) × (Nat → Int32)) => True) := by
  have g1 := rgI s_nights_many
  have g2 := rgI p1
  have g3 := rgI p2
  have hFU : (100000 : Int) ≤ (FU : Int) := Int.ofNat_le.mpr FU_ge
  rw [f_X11_falls]
  refine Sf_cb1 (s_X2_storyAt G p1 ) (fun r5_1 hp4 => ?_)
  have hp4 : (∀ i, r5_1 = some i → 14 ≤ i ∧ i < 20) := hp4
  refine Sf_oT (fun z10 hz11 => by first | exact hp4 z10 hz11 | exact (hp4 z10 hz11).2) (fun hn5 => ?_) (fun i6 t_12 hr7 hi8 hg9 => ?_)
  · skip
    exact Sf_some trivial
  · skip
    subst hr7
    obtain ⟨a1_t_12, a2_t_12, a3_t_12, a4_t_12, a5_t_12, a6_t_12, a7_t_12⟩ := (‹gOK G›).1 _ _ hg9
    refine Sf_cb1 (s_X11_isNightError p2 ) (fun r14_24 hp12 => ?_)
    have hp12 : ((r14_24.toInt = 0 ∨ r14_24.toInt = 1)) ∧ ((r14_24.toInt = 1 ∧ 0 ≤ p2.toInt ∧ p2.toInt ≤ 100000) ∨ (r14_24.toInt = 0 ∧ (p2.toInt < 0 ∨ 100000 < p2.toInt))) := hp12
    obtain ⟨hq13, hq14⟩ := hp12
    have g15 := rgI r14_24
    refine Sf_ite (fun h16 => ?_) (fun h16 => ?_)
    · skip
      have l17 : (0 : Int32).toInt = 0 := by decide
      have c18 := eqI h16
      exact Sf_some trivial
    · skip
      have l19 : (0 : Int32).toInt = 0 := by decide
      have c20 := neI h16
      refine Sf_cb3 (s_X2_fallOf (t_12.2.2.1.1) (t_12.2.2.2.2.1) (t_12.2.2.2.1.1) s_nights_many (t_12.2.2.1.2) (t_12.2.2.2.2.2) (t_12.2.2.2.1.2) s_nights_days s_nights_shifts s_nights_reckoner_letters s_nights_reckoner_values p2 (by omega) (by omega) (by omega) (by assumption) (by assumption) (by omega) (by omega)) (fun r30_38 o_reckoner_letters30_39 o_reckoner_values30_40 hp21 => ?_)
      have g22 := rgI r30_38
      exact Sf_some trivial
set_option maxHeartbeats 4000000 in
set_option maxRecDepth 100000 in
theorem s_X11_told (G : kG) (s_nights_many : Int32) (s_nights_days : Nat → Int32) (s_nights_fallen : Nat → Int32) (s_nights_shifts : Nat → Int32) (s_nights_reckoner_letters : Nat → Int32) (s_nights_reckoner_values : Nat → Int32) (p1 : Int32) (p2 : Int32) (hp0 : gOK G) (hp1 : 0 ≤ s_nights_many.toInt) (hp2 : s_nights_many.toInt ≤ 30) : Sf (f_X11_told G s_nights_many s_nights_days s_nights_fallen s_nights_shifts s_nights_reckoner_letters s_nights_reckoner_values p1 p2) (fun (y : Int32 × (Nat → Int32) × (Nat → Int32) × (Nat → Int32)) => True) := by
  have g1 := rgI s_nights_many
  have g2 := rgI p1
  have g3 := rgI p2
  have hFU : (100000 : Int) ≤ (FU : Int) := Int.ofNat_le.mpr FU_ge
  rw [f_X11_told]
  refine Sf_cb1 (s_X11_isNightError p1 ) (fun r1_1 hp4 => ?_)
  have hp4 : ((r1_1.toInt = 0 ∨ r1_1.toInt = 1)) ∧ ((r1_1.toInt = 1 ∧ 0 ≤ p1.toInt ∧ p1.toInt ≤ 100000) ∨ (r1_1.toInt = 0 ∧ (p1.toInt < 0 ∨ 100000 < p1.toInt))) := hp4
  obtain ⟨hq5, hq6⟩ := hp4
  have g7 := rgI r1_1
  refine Sf_ite (fun h8 => ?_) (fun h8 => ?_)
  · skip
    have l9 : (0 : Int32).toInt = 0 := by decide
    have c10 := eqI h8
    exact Sf_some trivial
  · skip
    have l11 : (0 : Int32).toInt = 0 := by decide
    have c12 := neI h8
    have l13 : (1 : Int32).toInt = 1 := by decide
    refine Sf_cb1 (s_X11_isWithin p2 0 1 ) (fun r10_18 hp14 => ?_)
    have hp14 : ((r10_18.toInt = 0 ∨ r10_18.toInt = 1)) ∧ ((r10_18.toInt = 1 ∧ (0 : Int32).toInt ≤ p2.toInt ∧ p2.toInt ≤ (1 : Int32).toInt) ∨ (r10_18.toInt = 0 ∧ (p2.toInt < (0 : Int32).toInt ∨ (1 : Int32).toInt < p2.toInt))) := hp14
    obtain ⟨hq15, hq16⟩ := hp14
    have g17 := rgI r10_18
    refine Sf_ite (fun h18 => ?_) (fun h18 => ?_)
    · skip
      have c19 := eqI h18
      exact Sf_some trivial
    · skip
      have c20 := neI h18
      refine Sf_cb4 (s_X2_alone G s_nights_many s_nights_days s_nights_fallen s_nights_shifts s_nights_reckoner_letters s_nights_reckoner_values p1 p2 (by assumption) (by omega) (by omega)) (fun r22_35 o_fallen22_36 o_reckoner_letters22_37 o_reckoner_values22_38 hp21 => ?_)
      have g22 := rgI r22_35
      exact Sf_some trivial
set_option maxHeartbeats 4000000 in
set_option maxRecDepth 100000 in
theorem s_X11_check (G : kG) (s_page_readers : Int32) (s_page_day : Int32) (s_sky_many : Int32) (s_sky_seed : Int32) (s_tape_length : Int32) (s_page_heights : Nat → Int32) (s_page_highest : Nat → Int32) (s_page_marked : Nat → Int32) (s_page_shapes : Nat → Int32) (s_tape_bytes : Nat → Int32) (s_page_reckoner_letters : Nat → Int32) (s_page_reckoner_values : Nat → Int32) (s_sky_reckoner_letters : Nat → Int32) (s_sky_reckoner_values : Nat → Int32) (p1 : Int32) (p2 : Int32) (p3 : Int32) (hp0 : gOK G) (hp1 : 0 ≤ s_sky_many.toInt) (hp2 : s_sky_many.toInt ≤ 10) (hp3 : 0 ≤ s_tape_length.toInt) (hp4 : s_tape_length.toInt ≤ 200) : Sf (f_X11_check G s_page_readers s_page_day s_sky_many s_sky_seed s_tape_length s_page_heights s_page_highest s_page_marked s_page_shapes s_tape_bytes s_page_reckoner_letters s_page_reckoner_values s_sky_reckoner_letters s_sky_reckoner_values p1 p2 p3) (fun (y : Int32 × Int32 × Int32 × Int32 × (Nat → Int32) × (Nat → Int32) × (Nat → Int32) × (Nat → Int32) × (Nat → Int32) × (Nat → Int32) × (Nat → Int32) × (Nat → Int32)) => (0 ≤ (y.2.2.2.1).toInt ∧ (y.2.2.2.1).toInt ≤ 200)) := by
  have g1 := rgI s_page_readers
  have g2 := rgI s_page_day
  have g3 := rgI s_sky_many
  have g4 := rgI s_sky_seed
  have g5 := rgI s_tape_length
  have g6 := rgI p1
  have g7 := rgI p2
  have g8 := rgI p3
  have hFU : (100000 : Int) ≤ (FU : Int) := Int.ofNat_le.mpr FU_ge
  rw [f_X11_check]
  refine Sf_cb1 (s_X11_isReader p1 ) (fun r1_1 hp9 => ?_)
  have hp9 : ((r1_1.toInt = 0 ∨ r1_1.toInt = 1)) ∧ ((r1_1.toInt = 1 ∧ 0 ≤ p1.toInt ∧ p1.toInt ≤ 3) ∨ (r1_1.toInt = 0 ∧ (p1.toInt < 0 ∨ 3 < p1.toInt))) := hp9
  obtain ⟨hq10, hq11⟩ := hp9
  have g12 := rgI r1_1
  refine Sf_ite (fun h13 => ?_) (fun h13 => ?_)
  · skip
    have l14 : (0 : Int32).toInt = 0 := by decide
    have c15 := eqI h13
    have l16 : ((-2) : Int32).toInt = -2 := by decide
    refine Sf_some (show (0 ≤ s_tape_length.toInt ∧ s_tape_length.toInt ≤ 200) from ?_)
    (omega)
  · skip
    have l17 : (0 : Int32).toInt = 0 := by decide
    have c18 := neI h13
    refine Sf_cb1 (s_X11_isDay p2 ) (fun r8_26 hp19 => ?_)
    have hp19 : ((r8_26.toInt = 0 ∨ r8_26.toInt = 1)) ∧ ((r8_26.toInt = 1 ∧ 0 ≤ p2.toInt ∧ p2.toInt ≤ 399) ∨ (r8_26.toInt = 0 ∧ (p2.toInt < 0 ∨ 399 < p2.toInt))) := hp19
    obtain ⟨hq20, hq21⟩ := hp19
    have g22 := rgI r8_26
    refine Sf_ite (fun h23 => ?_) (fun h23 => ?_)
    · skip
      have c24 := eqI h23
      have l25 : ((-2) : Int32).toInt = -2 := by decide
      refine Sf_some (show (0 ≤ s_tape_length.toInt ∧ s_tape_length.toInt ≤ 200) from ?_)
      (omega)
    · skip
      have c26 := neI h23
      have l27 : (12 : Int32).toInt = 12 := by decide
      have g28 := rgI (s_tape_length / 12)
      have d29 := dn_ s_tape_length 12 12 (by decide) (by decide)
      refine Sf_cb1 (s_X11_isWithin p3 0 (s_tape_length / 12) ) (fun r26_51 hp30 => ?_)
      have hp30 : ((r26_51.toInt = 0 ∨ r26_51.toInt = 1)) ∧ ((r26_51.toInt = 1 ∧ (0 : Int32).toInt ≤ p3.toInt ∧ p3.toInt ≤ (s_tape_length / 12).toInt) ∨ (r26_51.toInt = 0 ∧ (p3.toInt < (0 : Int32).toInt ∨ (s_tape_length / 12).toInt < p3.toInt))) := hp30
      obtain ⟨hq31, hq32⟩ := hp30
      have g33 := rgI r26_51
      refine Sf_ite (fun h34 => ?_) (fun h34 => ?_)
      · skip
        have c35 := eqI h34
        have l36 : ((-2) : Int32).toInt = -2 := by decide
        refine Sf_some (show (0 ≤ s_tape_length.toInt ∧ s_tape_length.toInt ≤ 200) from ?_)
        (omega)
      · skip
        have c37 := neI h34
        refine Sf_cb7 (s_X7_lay G s_sky_many s_sky_seed s_page_readers s_page_day s_page_heights s_page_highest s_page_shapes s_sky_reckoner_letters s_sky_reckoner_values p2 (by assumption) (by omega) (by omega)) (fun o_p1_readers44_64 o_p1_day44_65 o_p1_heights44_66 o_p1_highest44_67 o_p1_shapes44_68 o_reckoner_letters44_69 o_reckoner_values44_70 hp38 => ?_)
        have g39 := rgI o_p1_readers44_64
        have g40 := rgI o_p1_day44_65
        refine Sf_gdN (by omega) (by omega) ?_
        have t48 := tN p1 (by omega)
        refine Sf_oT (fun z46 hz47 => by cases hz47; omega) (fun hn41 => ?_) (fun i42 t_120 hr43 hi44 hg45 => ?_)
        · skip
          refine Sf_cb3 (s_X4_read_N o_p1_readers44_64 o_p1_day44_65 o_p1_heights44_66 s_page_marked o_p1_shapes44_68 s_page_reckoner_letters p1 ) (fun o_readers58_128 o_marked58_129 o_reckoner_letters58_130 hp49 => ?_)
          have g50 := rgI o_readers58_128
          rw [f_X11_check_J61]
          refine Sf_cb1 (s_X4_firstWrong s_tape_length s_tape_bytes o_p1_heights44_66 o_marked58_129 p1 p3 (by omega)) (fun r71_86 hp51 => ?_)
          have g52 := rgI r71_86
          refine Sf_cb1 (s_X9_clear s_tape_length ) (fun o_length80_97 hp53 => ?_)
          have hp53 : (o_length80_97.toInt = 0) := hp53
          have g54 := rgI o_length80_97
          refine Sf_some (show (0 ≤ o_length80_97.toInt ∧ o_length80_97.toInt ≤ 200) from ?_)
          (omega)
        · skip
          cases hr43
          obtain ⟨a1_t_120, a2_t_120, a3_t_120, a4_t_120, a5_t_120, a6_t_120, a7_t_120⟩ := (‹gOK G›).1 _ _ hg45
          refine Sf_cb4 (s_X4_read (t_120.2.2.1.1) (t_120.2.2.2.2.1) (t_120.2.2.2.1.1) o_p1_readers44_64 o_p1_day44_65 (t_120.2.1) (t_120.2.2.1.2) (t_120.2.2.2.2.2) (t_120.2.2.2.1.2) o_p1_heights44_66 s_page_marked o_p1_shapes44_68 s_page_reckoner_letters s_page_reckoner_values p1 (by omega) (by omega) (by omega) (by omega) (by omega) (by assumption) (by assumption)) (fun o_readers58_141 o_marked58_142 o_reckoner_letters58_143 o_reckoner_values58_144 hp55 => ?_)
          have g56 := rgI o_readers58_141
          rw [f_X11_check_J61]
          refine Sf_cb1 (s_X4_firstWrong s_tape_length s_tape_bytes o_p1_heights44_66 o_marked58_142 p1 p3 (by omega)) (fun r71_86 hp57 => ?_)
          have g58 := rgI r71_86
          refine Sf_cb1 (s_X9_clear s_tape_length ) (fun o_length80_97 hp59 => ?_)
          have hp59 : (o_length80_97.toInt = 0) := hp59
          have g60 := rgI o_length80_97
          refine Sf_some (show (0 ≤ o_length80_97.toInt ∧ o_length80_97.toInt ≤ 200) from ?_)
          (omega)
