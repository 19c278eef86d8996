set_option maxHeartbeats 4000000 in
set_option maxRecDepth 100000 in
theorem s_X11_tapeHas (s_tape_length : Int32) (p1 : Int32) (p2 : Int32)  : Sf (f_X11_tapeHas s_tape_length p1 p2) (fun (y : Int32) => ((y.toInt = 0 ∨ y.toInt = 1)) ∧ (y.toInt = 0 ∨ (1 ≤ p1.toInt ∧ p1.toInt ≤ p2.toInt ∧ p1.toInt ≤ s_tape_length.toInt))) := by
  have g1 := rgI s_tape_length
  have g2 := rgI p1
  have g3 := rgI p2
  have hFU : (100000 : Int) ≤ (FU : Int) := Int.ofNat_le.mpr FU_ge
  rw [f_X11_tapeHas]
  have l4 : (1 : Int32).toInt = 1 := by decide
  refine Sf_cb1 (s_X11_isWithin p1 1 p2 ) (fun r3_1 hp5 => ?_)
  have hp5 : ((r3_1.toInt = 0 ∨ r3_1.toInt = 1)) ∧ ((r3_1.toInt = 1 ∧ (1 : Int32).toInt ≤ p1.toInt ∧ p1.toInt ≤ p2.toInt) ∨ (r3_1.toInt = 0 ∧ (p1.toInt < (1 : Int32).toInt ∨ p2.toInt < p1.toInt))) := hp5
  obtain ⟨hq6, hq7⟩ := hp5
  have g8 := rgI r3_1
  refine Sf_ite (fun h9 => ?_) (fun h9 => ?_)
  · skip
    have l10 : (0 : Int32).toInt = 0 := by decide
    have c11 := eqI h9
    refine Sf_some (show (((0 : Int32).toInt = 0 ∨ (0 : Int32).toInt = 1)) ∧ ((0 : Int32).toInt = 0 ∨ (1 ≤ p1.toInt ∧ p1.toInt ≤ p2.toInt ∧ p1.toInt ≤ s_tape_length.toInt)) from ?_)
    refine ⟨?_, ?_⟩ <;> (omega)
  · skip
    have l12 : (0 : Int32).toInt = 0 := by decide
    have c13 := neI h9
    refine Sf_ite (fun h14 => ?_) (fun h14 => ?_)
    · skip
      have c15 := ltI h14
      refine Sf_some (show (((0 : Int32).toInt = 0 ∨ (0 : Int32).toInt = 1)) ∧ ((0 : Int32).toInt = 0 ∨ (1 ≤ p1.toInt ∧ p1.toInt ≤ p2.toInt ∧ p1.toInt ≤ s_tape_length.toInt)) from ?_)
      refine ⟨?_, ?_⟩ <;> (omega)
    · skip
      have c16 := nltI h14
      refine Sf_some (show (((1 : Int32).toInt = 0 ∨ (1 : Int32).toInt = 1)) ∧ ((1 : Int32).toInt = 0 ∨ (1 ≤ p1.toInt ∧ p1.toInt ≤ p2.toInt ∧ p1.toInt ≤ s_tape_length.toInt)) from ?_)
      refine ⟨?_, ?_⟩ <;> (omega)
set_option maxHeartbeats 4000000 in
set_option maxRecDepth 100000 in
theorem s_X11_canScan (s_blips_many : Int32) (p1 : Int32) (p2 : Int32) (p3 : Int32) (hp0 : 0 ≤ s_blips_many.toInt) (hp1 : s_blips_many.toInt ≤ 40) : Sf (f_X11_canScan s_blips_many p1 p2 p3) (fun (y : Int32) => ((y.toInt = 0 ∨ y.toInt = 1)) ∧ (y.toInt = 0 ∨ (1 ≤ p1.toInt ∧ p1.toInt ≤ p2.toInt ∧ p2.toInt ≤ 1000000 ∧ p2.toInt ≤ p1.toInt + 2000 ∧ 2 ≤ s_blips_many.toInt))) := by
  have g1 := rgI s_blips_many
  have g2 := rgI p1
  have g3 := rgI p2
  have g4 := rgI p3
  have hFU : (100000 : Int) ≤ (FU : Int) := Int.ofNat_le.mpr FU_ge
  rw [f_X11_canScan]
  refine Sf_cb1 (s_X11_isBeat p1 ) (fun r1_1 hp5 => ?_)
  have hp5 : ((r1_1.toInt = 0 ∨ r1_1.toInt = 1)) ∧ ((r1_1.toInt = 1 ∧ 1 ≤ p1.toInt ∧ p1.toInt ≤ 1000000) ∨ (r1_1.toInt = 0 ∧ (p1.toInt < 1 ∨ 1000000 < p1.toInt))) := hp5
  obtain ⟨hq6, hq7⟩ := hp5
  have g8 := rgI r1_1
  refine Sf_ite (fun h9 => ?_) (fun h9 => ?_)
  · skip
    have l10 : (0 : Int32).toInt = 0 := by decide
    have c11 := eqI h9
    rw [f_X11_canScan_J30]
    refine Sf_ite (fun h12 => ?_) (fun h12 => ?_)
    · skip
      have c13 := eqI h12
      refine Sf_some (show (((0 : Int32).toInt = 0 ∨ (0 : Int32).toInt = 1)) ∧ ((0 : Int32).toInt = 0 ∨ (1 ≤ p1.toInt ∧ p1.toInt ≤ p2.toInt ∧ p2.toInt ≤ 1000000 ∧ p2.toInt ≤ p1.toInt + 2000 ∧ 2 ≤ s_blips_many.toInt)) from ?_)
      refine ⟨?_, ?_⟩ <;> (omega)
    · skip
      have c14 := neI h12
      refine Sf_ite (fun h15 => ?_) (fun h15 => ?_)
      · skip
        have c16 := ltI h15
        refine Sf_some (show (((0 : Int32).toInt = 0 ∨ (0 : Int32).toInt = 1)) ∧ ((0 : Int32).toInt = 0 ∨ (1 ≤ p1.toInt ∧ p1.toInt ≤ p2.toInt ∧ p2.toInt ≤ 1000000 ∧ p2.toInt ≤ p1.toInt + 2000 ∧ 2 ≤ s_blips_many.toInt)) from ?_)
        refine ⟨?_, ?_⟩ <;> (omega)
      · skip
        have c17 := nltI h15
        refine Sf_ite (fun h18 => ?_) (fun h18 => ?_)
        · skip
          have l19 : (2000 : Int32).toInt = 2000 := by decide
          have g20 := rgI (p2 - p1)
          first | have e21 := sbX p2 p1 (by omega) (by omega) | skip
          have c22 := ltI h18
          refine Sf_some (show (((0 : Int32).toInt = 0 ∨ (0 : Int32).toInt = 1)) ∧ ((0 : Int32).toInt = 0 ∨ (1 ≤ p1.toInt ∧ p1.toInt ≤ p2.toInt ∧ p2.toInt ≤ 1000000 ∧ p2.toInt ≤ p1.toInt + 2000 ∧ 2 ≤ s_blips_many.toInt)) from ?_)
          refine ⟨?_, ?_⟩ <;> (omega)
        · skip
          have l23 : (2000 : Int32).toInt = 2000 := by decide
          have g24 := rgI (p2 - p1)
          first | have e25 := sbX p2 p1 (by omega) (by omega) | skip
          have c26 := nltI h18
          refine Sf_ite (fun h27 => ?_) (fun h27 => ?_)
          · skip
            have l28 : (2 : Int32).toInt = 2 := by decide
            have g29 := rgI (2 * p3)
            first | have e30 := mlY 2 p3 (2) (by decide) (by omega) (by omega) | skip
            have c31 := leI h27
            refine Sf_some (show (((0 : Int32).toInt = 0 ∨ (0 : Int32).toInt = 1)) ∧ ((0 : Int32).toInt = 0 ∨ (1 ≤ p1.toInt ∧ p1.toInt ≤ p2.toInt ∧ p2.toInt ≤ 1000000 ∧ p2.toInt ≤ p1.toInt + 2000 ∧ 2 ≤ s_blips_many.toInt)) from ?_)
            refine ⟨?_, ?_⟩ <;> (omega)
          · skip
            have l32 : (2 : Int32).toInt = 2 := by decide
            have g33 := rgI (2 * p3)
            first | have e34 := mlY 2 p3 (2) (by decide) (by omega) (by omega) | skip
            have c35 := nleI h27
            refine Sf_ite (fun h36 => ?_) (fun h36 => ?_)
            · skip
              have c37 := ltI h36
              refine Sf_some (show (((0 : Int32).toInt = 0 ∨ (0 : Int32).toInt = 1)) ∧ ((0 : Int32).toInt = 0 ∨ (1 ≤ p1.toInt ∧ p1.toInt ≤ p2.toInt ∧ p2.toInt ≤ 1000000 ∧ p2.toInt ≤ p1.toInt + 2000 ∧ 2 ≤ s_blips_many.toInt)) from ?_)
              refine ⟨?_, ?_⟩ <;> (omega)
            · skip
              have c38 := nltI h36
              have l39 : (1 : Int32).toInt = 1 := by decide
              refine Sf_some (show (((1 : Int32).toInt = 0 ∨ (1 : Int32).toInt = 1)) ∧ ((1 : Int32).toInt = 0 ∨ (1 ≤ p1.toInt ∧ p1.toInt ≤ p2.toInt ∧ p2.toInt ≤ 1000000 ∧ p2.toInt ≤ p1.toInt + 2000 ∧ 2 ≤ s_blips_many.toInt)) from ?_)
              refine ⟨?_, ?_⟩ <;> (omega)
  · skip
    have l40 : (0 : Int32).toInt = 0 := by decide
    have c41 := neI h9
    refine Sf_cb1 (s_X11_isBeat p2 ) (fun r8_32 hp42 => ?_)
    have hp42 : ((r8_32.toInt = 0 ∨ r8_32.toInt = 1)) ∧ ((r8_32.toInt = 1 ∧ 1 ≤ p2.toInt ∧ p2.toInt ≤ 1000000) ∨ (r8_32.toInt = 0 ∧ (p2.toInt < 1 ∨ 1000000 < p2.toInt))) := hp42
    obtain ⟨hq43, hq44⟩ := hp42
    have g45 := rgI r8_32
    refine Sf_ite (fun h46 => ?_) (fun h46 => ?_)
    · skip
      have c47 := eqI h46
      rw [f_X11_canScan_J30]
      refine Sf_ite (fun h48 => ?_) (fun h48 => ?_)
      · skip
        have c49 := eqI h48
        refine Sf_some (show (((0 : Int32).toInt = 0 ∨ (0 : Int32).toInt = 1)) ∧ ((0 : Int32).toInt = 0 ∨ (1 ≤ p1.toInt ∧ p1.toInt ≤ p2.toInt ∧ p2.toInt ≤ 1000000 ∧ p2.toInt ≤ p1.toInt + 2000 ∧ 2 ≤ s_blips_many.toInt)) from ?_)
        refine ⟨?_, ?_⟩ <;> (omega)
      · skip
        have c50 := neI h48
        refine Sf_ite (fun h51 => ?_) (fun h51 => ?_)
        · skip
          have c52 := ltI h51
          refine Sf_some (show (((0 : Int32).toInt = 0 ∨ (0 : Int32).toInt = 1)) ∧ ((0 : Int32).toInt = 0 ∨ (1 ≤ p1.toInt ∧ p1.toInt ≤ p2.toInt ∧ p2.toInt ≤ 1000000 ∧ p2.toInt ≤ p1.toInt + 2000 ∧ 2 ≤ s_blips_many.toInt)) from ?_)
          refine ⟨?_, ?_⟩ <;> (omega)
        · skip
          have c53 := nltI h51
          refine Sf_ite (fun h54 => ?_) (fun h54 => ?_)
          · skip
            have l55 : (2000 : Int32).toInt = 2000 := by decide
            have g56 := rgI (p2 - p1)
            first | have e57 := sbX p2 p1 (by omega) (by omega) | skip
            have c58 := ltI h54
            refine Sf_some (show (((0 : Int32).toInt = 0 ∨ (0 : Int32).toInt = 1)) ∧ ((0 : Int32).toInt = 0 ∨ (1 ≤ p1.toInt ∧ p1.toInt ≤ p2.toInt ∧ p2.toInt ≤ 1000000 ∧ p2.toInt ≤ p1.toInt + 2000 ∧ 2 ≤ s_blips_many.toInt)) from ?_)
            refine ⟨?_, ?_⟩ <;> (omega)
          · skip
            have l59 : (2000 : Int32).toInt = 2000 := by decide
            have g60 := rgI (p2 - p1)
            first | have e61 := sbX p2 p1 (by omega) (by omega) | skip
            have c62 := nltI h54
            refine Sf_ite (fun h63 => ?_) (fun h63 => ?_)
            · skip
              have l64 : (2 : Int32).toInt = 2 := by decide
              have g65 := rgI (2 * p3)
              first | have e66 := mlY 2 p3 (2) (by decide) (by omega) (by omega) | skip
              have c67 := leI h63
              refine Sf_some (show (((0 : Int32).toInt = 0 ∨ (0 : Int32).toInt = 1)) ∧ ((0 : Int32).toInt = 0 ∨ (1 ≤ p1.toInt ∧ p1.toInt ≤ p2.toInt ∧ p2.toInt ≤ 1000000 ∧ p2.toInt ≤ p1.toInt + 2000 ∧ 2 ≤ s_blips_many.toInt)) from ?_)
              refine ⟨?_, ?_⟩ <;> (omega)
            · skip
              have l68 : (2 : Int32).toInt = 2 := by decide
              have g69 := rgI (2 * p3)
              first | have e70 := mlY 2 p3 (2) (by decide) (by omega) (by omega) | skip
              have c71 := nleI h63
              refine Sf_ite (fun h72 => ?_) (fun h72 => ?_)
              · skip
                have c73 := ltI h72
                refine Sf_some (show (((0 : Int32).toInt = 0 ∨ (0 : Int32).toInt = 1)) ∧ ((0 : Int32).toInt = 0 ∨ (1 ≤ p1.toInt ∧ p1.toInt ≤ p2.toInt ∧ p2.toInt ≤ 1000000 ∧ p2.toInt ≤ p1.toInt + 2000 ∧ 2 ≤ s_blips_many.toInt)) from ?_)
                refine ⟨?_, ?_⟩ <;> (omega)
              · skip
                have c74 := nltI h72
                have l75 : (1 : Int32).toInt = 1 := by decide
                refine Sf_some (show (((1 : Int32).toInt = 0 ∨ (1 : Int32).toInt = 1)) ∧ ((1 : Int32).toInt = 0 ∨ (1 ≤ p1.toInt ∧ p1.toInt ≤ p2.toInt ∧ p2.toInt ≤ 1000000 ∧ p2.toInt ≤ p1.toInt + 2000 ∧ 2 ≤ s_blips_many.toInt)) from ?_)
                refine ⟨?_, ?_⟩ <;> (omega)
    · skip
      have c76 := neI h46
      have l77 : (1000 : Int32).toInt = 1000 := by decide
      refine Sf_cb1 (s_X11_isWithin p3 0 1000 ) (fun r19_40 hp78 => ?_)
      have hp78 : ((r19_40.toInt = 0 ∨ r19_40.toInt = 1)) ∧ ((r19_40.toInt = 1 ∧ (0 : Int32).toInt ≤ p3.toInt ∧ p3.toInt ≤ (1000 : Int32).toInt) ∨ (r19_40.toInt = 0 ∧ (p3.toInt < (0 : Int32).toInt ∨ (1000 : Int32).toInt < p3.toInt))) := hp78
      obtain ⟨hq79, hq80⟩ := hp78
      have g81 := rgI r19_40
      refine Sf_ite (fun h82 => ?_) (fun h82 => ?_)
      · skip
        have c83 := eqI h82
        rw [f_X11_canScan_J30]
        refine Sf_ite (fun h84 => ?_) (fun h84 => ?_)
        · skip
          have c85 := eqI h84
          refine Sf_some (show (((0 : Int32).toInt = 0 ∨ (0 : Int32).toInt = 1)) ∧ ((0 : Int32).toInt = 0 ∨ (1 ≤ p1.toInt ∧ p1.toInt ≤ p2.toInt ∧ p2.toInt ≤ 1000000 ∧ p2.toInt ≤ p1.toInt + 2000 ∧ 2 ≤ s_blips_many.toInt)) from ?_)
          refine ⟨?_, ?_⟩ <;> (omega)
        · skip
          have c86 := neI h84
          refine Sf_ite (fun h87 => ?_) (fun h87 => ?_)
          · skip
            have c88 := ltI h87
            refine Sf_some (show (((0 : Int32).toInt = 0 ∨ (0 : Int32).toInt = 1)) ∧ ((0 : Int32).toInt = 0 ∨ (1 ≤ p1.toInt ∧ p1.toInt ≤ p2.toInt ∧ p2.toInt ≤ 1000000 ∧ p2.toInt ≤ p1.toInt + 2000 ∧ 2 ≤ s_blips_many.toInt)) from ?_)
            refine ⟨?_, ?_⟩ <;> (omega)
          · skip
            have c89 := nltI h87
            refine Sf_ite (fun h90 => ?_) (fun h90 => ?_)
            · skip
              have l91 : (2000 : Int32).toInt = 2000 := by decide
              have g92 := rgI (p2 - p1)
              first | have e93 := sbX p2 p1 (by omega) (by omega) | skip
              have c94 := ltI h90
              refine Sf_some (show (((0 : Int32).toInt = 0 ∨ (0 : Int32).toInt = 1)) ∧ ((0 : Int32).toInt = 0 ∨ (1 ≤ p1.toInt ∧ p1.toInt ≤ p2.toInt ∧ p2.toInt ≤ 1000000 ∧ p2.toInt ≤ p1.toInt + 2000 ∧ 2 ≤ s_blips_many.toInt)) from ?_)
              refine ⟨?_, ?_⟩ <;> (omega)
            · skip
              have l95 : (2000 : Int32).toInt = 2000 := by decide
              have g96 := rgI (p2 - p1)
              first | have e97 := sbX p2 p1 (by omega) (by omega) | skip
              have c98 := nltI h90
              refine Sf_ite (fun h99 => ?_) (fun h99 => ?_)
              · skip
                have l100 : (2 : Int32).toInt = 2 := by decide
                have g101 := rgI (2 * p3)
                first | have e102 := mlY 2 p3 (2) (by decide) (by omega) (by omega) | skip
                have c103 := leI h99
                refine Sf_some (show (((0 : Int32).toInt = 0 ∨ (0 : Int32).toInt = 1)) ∧ ((0 : Int32).toInt = 0 ∨ (1 ≤ p1.toInt ∧ p1.toInt ≤ p2.toInt ∧ p2.toInt ≤ 1000000 ∧ p2.toInt ≤ p1.toInt + 2000 ∧ 2 ≤ s_blips_many.toInt)) from ?_)
                refine ⟨?_, ?_⟩ <;> (omega)
              · skip
                have l104 : (2 : Int32).toInt = 2 := by decide
                have g105 := rgI (2 * p3)
                first | have e106 := mlY 2 p3 (2) (by decide) (by omega) (by omega) | skip
                have c107 := nleI h99
                refine Sf_ite (fun h108 => ?_) (fun h108 => ?_)
                · skip
                  have c109 := ltI h108
                  refine Sf_some (show (((0 : Int32).toInt = 0 ∨ (0 : Int32).toInt = 1)) ∧ ((0 : Int32).toInt = 0 ∨ (1 ≤ p1.toInt ∧ p1.toInt ≤ p2.toInt ∧ p2.toInt ≤ 1000000 ∧ p2.toInt ≤ p1.toInt + 2000 ∧ 2 ≤ s_blips_many.toInt)) from ?_)
                  refine ⟨?_, ?_⟩ <;> (omega)
                · skip
                  have c110 := nltI h108
                  have l111 : (1 : Int32).toInt = 1 := by decide
                  refine Sf_some (show (((1 : Int32).toInt = 0 ∨ (1 : Int32).toInt = 1)) ∧ ((1 : Int32).toInt = 0 ∨ (1 ≤ p1.toInt ∧ p1.toInt ≤ p2.toInt ∧ p2.toInt ≤ 1000000 ∧ p2.toInt ≤ p1.toInt + 2000 ∧ 2 ≤ s_blips_many.toInt)) from ?_)
                  refine ⟨?_, ?_⟩ <;> (omega)
      · skip
        have c112 := neI h82
        rw [f_X11_canScan_J30]
        refine Sf_ite (fun h113 => ?_) (fun h113 => ?_)
        · skip
          have l114 : (1 : Int32).toInt = 1 := by decide
          have c115 := eqI h113
          refine Sf_some (show (((0 : Int32).toInt = 0 ∨ (0 : Int32).toInt = 1)) ∧ ((0 : Int32).toInt = 0 ∨ (1 ≤ p1.toInt ∧ p1.toInt ≤ p2.toInt ∧ p2.toInt ≤ 1000000 ∧ p2.toInt ≤ p1.toInt + 2000 ∧ 2 ≤ s_blips_many.toInt)) from ?_)
          refine ⟨?_, ?_⟩ <;> (omega)
        · skip
          have l116 : (1 : Int32).toInt = 1 := by decide
          have c117 := neI h113
          refine Sf_ite (fun h118 => ?_) (fun h118 => ?_)
          · skip
            have c119 := ltI h118
            refine Sf_some (show (((0 : Int32).toInt = 0 ∨ (0 : Int32).toInt = 1)) ∧ ((0 : Int32).toInt = 0 ∨ (1 ≤ p1.toInt ∧ p1.toInt ≤ p2.toInt ∧ p2.toInt ≤ 1000000 ∧ p2.toInt ≤ p1.toInt + 2000 ∧ 2 ≤ s_blips_many.toInt)) from ?_)
            refine ⟨?_, ?_⟩ <;> (omega)
          · skip
            have c120 := nltI h118
            refine Sf_ite (fun h121 => ?_) (fun h121 => ?_)
            · skip
              have l122 : (2000 : Int32).toInt = 2000 := by decide
              have g123 := rgI (p2 - p1)
              first | have e124 := sbX p2 p1 (by omega) (by omega) | skip
              have c125 := ltI h121
              refine Sf_some (show (((0 : Int32).toInt = 0 ∨ (0 : Int32).toInt = 1)) ∧ ((0 : Int32).toInt = 0 ∨ (1 ≤ p1.toInt ∧ p1.toInt ≤ p2.toInt ∧ p2.toInt ≤ 1000000 ∧ p2.toInt ≤ p1.toInt + 2000 ∧ 2 ≤ s_blips_many.toInt)) from ?_)
              refine ⟨?_, ?_⟩ <;> (omega)
            · skip
              have l126 : (2000 : Int32).toInt = 2000 := by decide
              have g127 := rgI (p2 - p1)
              first | have e128 := sbX p2 p1 (by omega) (by omega) | skip
              have c129 := nltI h121
              refine Sf_ite (fun h130 => ?_) (fun h130 => ?_)
              · skip
                have l131 : (2 : Int32).toInt = 2 := by decide
                have g132 := rgI (2 * p3)
                first | have e133 := mlY 2 p3 (2) (by decide) (by omega) (by omega) | skip
                have c134 := leI h130
                refine Sf_some (show (((0 : Int32).toInt = 0 ∨ (0 : Int32).toInt = 1)) ∧ ((0 : Int32).toInt = 0 ∨ (1 ≤ p1.toInt ∧ p1.toInt ≤ p2.toInt ∧ p2.toInt ≤ 1000000 ∧ p2.toInt ≤ p1.toInt + 2000 ∧ 2 ≤ s_blips_many.toInt)) from ?_)
                refine ⟨?_, ?_⟩ <;> (omega)
              · skip
                have l135 : (2 : Int32).toInt = 2 := by decide
                have g136 := rgI (2 * p3)
                first | have e137 := mlY 2 p3 (2) (by decide) (by omega) (by omega) | skip
                have c138 := nleI h130
                refine Sf_ite (fun h139 => ?_) (fun h139 => ?_)
                · skip
                  have c140 := ltI h139
                  refine Sf_some (show (((0 : Int32).toInt = 0 ∨ (0 : Int32).toInt = 1)) ∧ ((0 : Int32).toInt = 0 ∨ (1 ≤ p1.toInt ∧ p1.toInt ≤ p2.toInt ∧ p2.toInt ≤ 1000000 ∧ p2.toInt ≤ p1.toInt + 2000 ∧ 2 ≤ s_blips_many.toInt)) from ?_)
                  refine ⟨?_, ?_⟩ <;> (omega)
                · skip
                  have c141 := nltI h139
                  refine Sf_some (show (((1 : Int32).toInt = 0 ∨ (1 : Int32).toInt = 1)) ∧ ((1 : Int32).toInt = 0 ∨ (1 ≤ p1.toInt ∧ p1.toInt ≤ p2.toInt ∧ p2.toInt ≤ 1000000 ∧ p2.toInt ≤ p1.toInt + 2000 ∧ 2 ≤ s_blips_many.toInt)) from ?_)
                  refine ⟨?_, ?_⟩ <;> (omega)
set_option maxHeartbeats 4000000 in
set_option maxRecDepth 100000 in
theorem s_X11_seed (s_page_day : Int32) (s_sky_seed : Int32) (p1 : Int32)  : Sf (f_X11_seed s_page_day s_sky_seed p1) (fun (y : Int32 × Int32 × Int32) => (((y.1).toInt = 0 ∨ (y.1).toInt = 1))) := by
  have g1 := rgI s_page_day
  have g2 := rgI s_sky_seed
  have g3 := rgI p1
  have hFU : (100000 : Int) ≤ (FU : Int) := Int.ofNat_le.mpr FU_ge
  rw [f_X11_seed]
  have l4 : (0 : Int32).toInt = 0 := by decide
  have l5 : (999 : Int32).toInt = 999 := by decide
  refine Sf_cb1 (s_X11_isWithin p1 0 999 ) (fun r5_1 hp6 => ?_)
  have hp6 : ((r5_1.toInt = 0 ∨ r5_1.toInt = 1)) ∧ ((r5_1.toInt = 1 ∧ (0 : Int32).toInt ≤ p1.toInt ∧ p1.toInt ≤ (999 : Int32).toInt) ∨ (r5_1.toInt = 0 ∧ (p1.toInt < (0 : Int32).toInt ∨ (999 : Int32).toInt < p1.toInt))) := hp6
  obtain ⟨hq7, hq8⟩ := hp6
  have g9 := rgI r5_1
  refine Sf_ite (fun h10 => ?_) (fun h10 => ?_)
  · skip
    have c11 := eqI h10
    refine Sf_some (show (((0 : Int32).toInt = 0 ∨ (0 : Int32).toInt = 1)) from ?_)
    (omega)
  · skip
    have c12 := neI h10
    refine Sf_cb1 (s_X4_forget s_page_day ) (fun o_day17_9 hp13 => ?_)
    have g14 := rgI o_day17_9
    have l15 : (1 : Int32).toInt = 1 := by decide
    refine Sf_some (show (((1 : Int32).toInt = 0 ∨ (1 : Int32).toInt = 1)) from ?_)
    (omega)
set_option maxHeartbeats 4000000 in
set_option maxRecDepth 100000 in
theorem s_X11_feed (s_tape_length : Int32) (s_tape_bytes : Nat → Int32) (p1 : Int32) (p2 : Int32) (p3 : Int32) (p4 : Int32) (p5 : Int32) (hp0 : 0 ≤ s_tape_length.toInt) (hp1 : s_tape_length.toInt ≤ 200) : Sf (f_X11_feed s_tape_length s_tape_bytes p1 p2 p3 p4 p5) (fun (y : Int32 × Int32 × (Nat → Int32)) => (0 ≤ (y.2.1).toInt ∧ (y.2.1).toInt ≤ 200)) := by
  have g1 := rgI s_tape_length
  have g2 := rgI p1
  have g3 := rgI p2
  have g4 := rgI p3
  have g5 := rgI p4
  have g6 := rgI p5
  have hFU : (100000 : Int) ≤ (FU : Int) := Int.ofNat_le.mpr FU_ge
  rw [f_X11_feed]
  refine Sf_ite (fun h7 => ?_) (fun h7 => ?_)
  · skip
    have l8 : (180 : Int32).toInt = 180 := by decide
    have c9 := leI h7
    refine Sf_cb2 (s_X9_put s_tape_length s_tape_bytes p1 (by omega) (by omega)) (fun o_length20_4 o_bytes20_5 hp10 => ?_)
    have hp10 : (0 ≤ o_length20_4.toInt ∧ o_length20_4.toInt ≤ 200) := hp10
    have g11 := rgI o_length20_4
    refine Sf_cb2 (s_X9_put o_length20_4 o_bytes20_5 p2 (by omega) (by omega)) (fun o_length28_10 o_bytes28_11 hp12 => ?_)
    have hp12 : (0 ≤ o_length28_10.toInt ∧ o_length28_10.toInt ≤ 200) := hp12
    have g13 := rgI o_length28_10
    refine Sf_cb2 (s_X9_put o_length28_10 o_bytes28_11 p3 (by omega) (by omega)) (fun o_length36_16 o_bytes36_17 hp14 => ?_)
    have hp14 : (0 ≤ o_length36_16.toInt ∧ o_length36_16.toInt ≤ 200) := hp14
    have g15 := rgI o_length36_16
    refine Sf_cb2 (s_X9_put o_length36_16 o_bytes36_17 p4 (by omega) (by omega)) (fun o_length45_22 o_bytes45_23 hp16 => ?_)
    have hp16 : (0 ≤ o_length45_22.toInt ∧ o_length45_22.toInt ≤ 200) := hp16
    have g17 := rgI o_length45_22
    refine Sf_cb2 (s_X9_put o_length45_22 o_bytes45_23 p5 (by omega) (by omega)) (fun o_length54_28 o_bytes54_29 hp18 => ?_)
    have hp18 : (0 ≤ o_length54_28.toInt ∧ o_length54_28.toInt ≤ 200) := hp18
    have g19 := rgI o_length54_28
    refine Sf_some (show (0 ≤ o_length54_28.toInt ∧ o_length54_28.toInt ≤ 200) from ?_)
    (omega)
  · skip
    have l20 : (180 : Int32).toInt = 180 := by decide
    have c21 := nleI h7
    have l22 : ((-1) : Int32).toInt = -1 := by decide
    refine Sf_some (show (0 ≤ s_tape_length.toInt ∧ s_tape_length.toInt ≤ 200) from ?_)
    (omega)
set_option maxHeartbeats 4000000 in
set_option maxRecDepth 100000 in
theorem s_X11_star (p1 : Int32) (p2 : Int32)  : Sf (f_X11_star p1 p2) (fun (y : Int32) => True) := by
  have g1 := rgI p1
  have g2 := rgI p2
  have hFU : (100000 : Int) ≤ (FU : Int) := Int.ofNat_le.mpr FU_ge
  rw [f_X11_star]
  refine Sf_cb1 (s_X11_isDay p1 ) (fun r1_1 hp3 => ?_)
  have hp3 : ((r1_1.toInt = 0 ∨ r1_1.toInt = 1)) ∧ ((r1_1.toInt = 1 ∧ 0 ≤ p1.toInt ∧ p1.toInt ≤ 399) ∨ (r1_1.toInt = 0 ∧ (p1.toInt < 0 ∨ 399 < p1.toInt))) := hp3
  obtain ⟨hq4, hq5⟩ := hp3
  have g6 := rgI r1_1
  refine Sf_ite (fun h7 => ?_) (fun h7 => ?_)
  · skip
    have l8 : (0 : Int32).toInt = 0 := by decide
    have c9 := eqI h7
    exact Sf_some trivial
  · skip
    have l10 : (0 : Int32).toInt = 0 := by decide
    have c11 := neI h7
    refine Sf_cb1 (s_X11_isMinute p2 ) (fun r8_10 hp12 => ?_)
    have hp12 : ((r8_10.toInt = 0 ∨ r8_10.toInt = 1)) ∧ ((r8_10.toInt = 1 ∧ 0 ≤ p2.toInt ∧ p2.toInt ≤ 1439) ∨ (r8_10.toInt = 0 ∧ (p2.toInt < 0 ∨ 1439 < p2.toInt))) := hp12
    obtain ⟨hq13, hq14⟩ := hp12
    have g15 := rgI r8_10
    refine Sf_ite (fun h16 => ?_) (fun h16 => ?_)
    · skip
      have c17 := eqI h16
      exact Sf_some trivial
    · skip
      have c18 := neI h16
      refine Sf_cb1 (s_X11_starMinute p1 p2 ) (fun r16_19 hp19 => ?_)
      have g20 := rgI r16_19
      exact Sf_some trivial
set_option maxHeartbeats 4000000 in
set_option maxRecDepth 100000 in
theorem s_X11_note (s_notes_many : Int32) (s_notes_days : Nat → Int32) (s_notes_minutes : Nat → Int32) (s_notes_shapes : Nat → Int32) (p1 : Int32) (p2 : Int32) (p3 : Int32) (hp0 : 0 ≤ s_notes_many.toInt) (hp1 : s_notes_many.toInt ≤ 40) : Sf (f_X11_note s_notes_many s_notes_days s_notes_minutes s_notes_shapes p1 p2 p3) (fun (y : Int32 × Int32 × (Nat → Int32) × (Nat → Int32) × (Nat → Int32)) => (0 ≤ (y.2.1).toInt ∧ (y.2.1).toInt ≤ 40)) := by
  have g1 := rgI s_notes_many
  have g2 := rgI p1
  have g3 := rgI p2
  have g4 := rgI p3
  have hFU : (100000 : Int) ≤ (FU : Int) := Int.ofNat_le.mpr FU_ge
  rw [f_X11_note]
  refine Sf_cb1 (s_X11_isDay p1 ) (fun r1_1 hp5 => ?_)
  have hp5 : ((r1_1.toInt = 0 ∨ r1_1.toInt = 1)) ∧ ((r1_1.toInt = 1 ∧ 0 ≤ p1.toInt ∧ p1.toInt ≤ 399) ∨ (r1_1.toInt = 0 ∧ (p1.toInt < 0 ∨ 399 < p1.toInt))) := hp5
  obtain ⟨hq6, hq7⟩ := hp5
  have g8 := rgI r1_1
  refine Sf_ite (fun h9 => ?_) (fun h9 => ?_)
  · skip
    have l10 : (0 : Int32).toInt = 0 := by decide
    have c11 := eqI h9
    rw [f_X11_note_J26]
    refine Sf_ite (fun h12 => ?_) (fun h12 => ?_)
    · skip
      have c13 := eqI h12
      have l14 : ((-1) : Int32).toInt = -1 := by decide
      refine Sf_some (show (0 ≤ s_notes_many.toInt ∧ s_notes_many.toInt ≤ 40) from ?_)
      (omega)
    · skip
      have c15 := neI h12
      refine Sf_cb5 (s_X3_add s_notes_many s_notes_days s_notes_minutes s_notes_shapes p1 p2 p3 (by omega) (by omega)) (fun r40_16 o_many40_17 o_days40_18 o_minutes40_19 o_shapes40_20 hp16 => ?_)
      have hp16 : (0 ≤ o_many40_17.toInt ∧ o_many40_17.toInt ≤ 40) := hp16
      have g17 := rgI r40_16
      have g18 := rgI o_many40_17
      refine Sf_some (show (0 ≤ o_many40_17.toInt ∧ o_many40_17.toInt ≤ 40) from ?_)
      (omega)
  · skip
    have l19 : (0 : Int32).toInt = 0 := by decide
    have c20 := neI h9
    refine Sf_cb1 (s_X11_isMinute p2 ) (fun r8_33 hp21 => ?_)
    have hp21 : ((r8_33.toInt = 0 ∨ r8_33.toInt = 1)) ∧ ((r8_33.toInt = 1 ∧ 0 ≤ p2.toInt ∧ p2.toInt ≤ 1439) ∨ (r8_33.toInt = 0 ∧ (p2.toInt < 0 ∨ 1439 < p2.toInt))) := hp21
    obtain ⟨hq22, hq23⟩ := hp21
    have g24 := rgI r8_33
    refine Sf_ite (fun h25 => ?_) (fun h25 => ?_)
    · skip
      have c26 := eqI h25
      rw [f_X11_note_J26]
      refine Sf_ite (fun h27 => ?_) (fun h27 => ?_)
      · skip
        have c28 := eqI h27
        have l29 : ((-1) : Int32).toInt = -1 := by decide
        refine Sf_some (show (0 ≤ s_notes_many.toInt ∧ s_notes_many.toInt ≤ 40) from ?_)
        (omega)
      · skip
        have c30 := neI h27
        refine Sf_cb5 (s_X3_add s_notes_many s_notes_days s_notes_minutes s_notes_shapes p1 p2 p3 (by omega) (by omega)) (fun r40_16 o_many40_17 o_days40_18 o_minutes40_19 o_shapes40_20 hp31 => ?_)
        have hp31 : (0 ≤ o_many40_17.toInt ∧ o_many40_17.toInt ≤ 40) := hp31
        have g32 := rgI r40_16
        have g33 := rgI o_many40_17
        refine Sf_some (show (0 ≤ o_many40_17.toInt ∧ o_many40_17.toInt ≤ 40) from ?_)
        (omega)
    · skip
      have c34 := neI h25
      refine Sf_cb1 (s_X11_isShape p3 ) (fun r15_41 hp35 => ?_)
      have hp35 : ((r15_41.toInt = 0 ∨ r15_41.toInt = 1)) ∧ ((r15_41.toInt = 1 ∧ 0 ≤ p3.toInt ∧ p3.toInt ≤ 3) ∨ (r15_41.toInt = 0 ∧ (p3.toInt < 0 ∨ 3 < p3.toInt))) := hp35
      obtain ⟨hq36, hq37⟩ := hp35
      have g38 := rgI r15_41
      refine Sf_ite (fun h39 => ?_) (fun h39 => ?_)
      · skip
        have c40 := eqI h39
        rw [f_X11_note_J26]
        refine Sf_ite (fun h41 => ?_) (fun h41 => ?_)
        · skip
          have c42 := eqI h41
          have l43 : ((-1) : Int32).toInt = -1 := by decide
          refine Sf_some (show (0 ≤ s_notes_many.toInt ∧ s_notes_many.toInt ≤ 40) from ?_)
          (omega)
        · skip
          have c44 := neI h41
          refine Sf_cb5 (s_X3_add s_notes_many s_notes_days s_notes_minutes s_notes_shapes p1 p2 p3 (by omega) (by omega)) (fun r40_16 o_many40_17 o_days40_18 o_minutes40_19 o_shapes40_20 hp45 => ?_)
          have hp45 : (0 ≤ o_many40_17.toInt ∧ o_many40_17.toInt ≤ 40) := hp45
          have g46 := rgI r40_16
          have g47 := rgI o_many40_17
          refine Sf_some (show (0 ≤ o_many40_17.toInt ∧ o_many40_17.toInt ≤ 40) from ?_)
          (omega)
      · skip
        have c48 := neI h39
        rw [f_X11_note_J26]
        refine Sf_ite (fun h49 => ?_) (fun h49 => ?_)
        · skip
          have l50 : (1 : Int32).toInt = 1 := by decide
          have c51 := eqI h49
          have l52 : ((-1) : Int32).toInt = -1 := by decide
          refine Sf_some (show (0 ≤ s_notes_many.toInt ∧ s_notes_many.toInt ≤ 40) from ?_)
          (omega)
        · skip
          have l53 : (1 : Int32).toInt = 1 := by decide
          have c54 := neI h49
          refine Sf_cb5 (s_X3_add s_notes_many s_notes_days s_notes_minutes s_notes_shapes p1 p2 p3 (by omega) (by omega)) (fun r40_16 o_many40_17 o_days40_18 o_minutes40_19 o_shapes40_20 hp55 => ?_)
          have hp55 : (0 ≤ o_many40_17.toInt ∧ o_many40_17.toInt ≤ 40) := hp55
          have g56 := rgI r40_16
          have g57 := rgI o_many40_17
          refine Sf_some (show (0 ≤ o_many40_17.toInt ∧ o_many40_17.toInt ≤ 40) from ?_)
          (omega)
set_option maxHeartbeats 4000000 in
set_option maxRecDepth 100000 in
theorem s_X11_one (s_notes_many : Int32) (s_notes_days : Nat → Int32) (s_notes_gathered : Nat → Int32) (s_notes_minutes : Nat → Int32) (s_notes_shapes : Nat → Int32) (p1 : Int32) (p2 : Int32) (hp0 : 0 ≤ s_notes_many.toInt) (hp1 : s_notes_many.toInt ≤ 40) : Sf (f_X11_one s_notes_many s_notes_days s_notes_gathered s_notes_minutes s_notes_shapes p1 p2) (fun (y : Int32 × (Nat → Int32)) => True) := by
  have g1 := rgI s_notes_many
  have g2 := rgI p1
  have g3 := rgI p2
  have hFU : (100000 : Int) ≤ (FU : Int) := Int.ofNat_le.mpr FU_ge
  rw [f_X11_one]
  refine Sf_cb1 (s_X11_isShape p1 ) (fun r1_1 hp4 => ?_)
  have hp4 : ((r1_1.toInt = 0 ∨ r1_1.toInt = 1)) ∧ ((r1_1.toInt = 1 ∧ 0 ≤ p1.toInt ∧ p1.toInt ≤ 3) ∨ (r1_1.toInt = 0 ∧ (p1.toInt < 0 ∨ 3 < p1.toInt))) := hp4
  obtain ⟨hq5, hq6⟩ := hp4
  have g7 := rgI r1_1
  refine Sf_ite (fun h8 => ?_) (fun h8 => ?_)
  · skip
    have l9 : (0 : Int32).toInt = 0 := by decide
    have c10 := eqI h8
    exact Sf_some trivial
  · skip
    have l11 : (0 : Int32).toInt = 0 := by decide
    have c12 := neI h8
    have l13 : (700 : Int32).toInt = 700 := by decide
    refine Sf_cb1 (s_X11_isWithin p2 0 700 ) (fun r12_11 hp14 => ?_)
    have hp14 : ((r12_11.toInt = 0 ∨ r12_11.toInt = 1)) ∧ ((r12_11.toInt = 1 ∧ (0 : Int32).toInt ≤ p2.toInt ∧ p2.toInt ≤ (700 : Int32).toInt) ∨ (r12_11.toInt = 0 ∧ (p2.toInt < (0 : Int32).toInt ∨ (700 : Int32).toInt < p2.toInt))) := hp14
    obtain ⟨hq15, hq16⟩ := hp14
    have g17 := rgI r12_11
    refine Sf_ite (fun h18 => ?_) (fun h18 => ?_)
    · skip
      have c19 := eqI h18
      exact Sf_some trivial
    · skip
      have c20 := neI h18
      have l21 : (400 : Int32).toInt = 400 := by decide
      refine Sf_cb2 (s_X3_oneBy s_notes_many s_notes_days s_notes_gathered s_notes_minutes s_notes_shapes p1 p2 400 (by omega) (by omega)) (fun r29_19 o_gathered29_20 hp22 => ?_)
      have g23 := rgI r29_19
      exact Sf_some trivial
set_option maxHeartbeats 4000000 in
set_option maxRecDepth 100000 in
theorem s_X11_known (s_notes_many : Int32) (s_notes_days : Nat → Int32) (s_notes_gathered : Nat → Int32) (s_notes_minutes : Nat → Int32) (s_notes_shapes : Nat → Int32) (p1 : Int32) (p2 : Int32) (hp0 : 0 ≤ s_notes_many.toInt) (hp1 : s_notes_many.toInt ≤ 40) : Sf (f_X11_known s_notes_many s_notes_days s_notes_gathered s_notes_minutes s_notes_shapes p1 p2) (fun (y : Int32 × (Nat → Int32)) => True) := by
  have g1 := rgI s_notes_many
  have g2 := rgI p1
  have g3 := rgI p2
  have hFU : (100000 : Int) ≤ (FU : Int) := Int.ofNat_le.mpr FU_ge
  rw [f_X11_known]
  refine Sf_cb1 (s_X11_isShape p1 ) (fun r1_1 hp4 => ?_)
  have hp4 : ((r1_1.toInt = 0 ∨ r1_1.toInt = 1)) ∧ ((r1_1.toInt = 1 ∧ 0 ≤ p1.toInt ∧ p1.toInt ≤ 3) ∨ (r1_1.toInt = 0 ∧ (p1.toInt < 0 ∨ 3 < p1.toInt))) := hp4
  obtain ⟨hq5, hq6⟩ := hp4
  have g7 := rgI r1_1
  refine Sf_ite (fun h8 => ?_) (fun h8 => ?_)
  · skip
    have l9 : (0 : Int32).toInt = 0 := by decide
    have c10 := eqI h8
    exact Sf_some trivial
  · skip
    have l11 : (0 : Int32).toInt = 0 := by decide
    have c12 := neI h8
    have l13 : (700 : Int32).toInt = 700 := by decide
    refine Sf_cb1 (s_X11_isWithin p2 0 700 ) (fun r12_11 hp14 => ?_)
    have hp14 : ((r12_11.toInt = 0 ∨ r12_11.toInt = 1)) ∧ ((r12_11.toInt = 1 ∧ (0 : Int32).toInt ≤ p2.toInt ∧ p2.toInt ≤ (700 : Int32).toInt) ∨ (r12_11.toInt = 0 ∧ (p2.toInt < (0 : Int32).toInt ∨ (700 : Int32).toInt < p2.toInt))) := hp14
    obtain ⟨hq15, hq16⟩ := hp14
    have g17 := rgI r12_11
    refine Sf_ite (fun h18 => ?_) (fun h18 => ?_)
    · skip
      have c19 := eqI h18
      exact Sf_some trivial
    · skip
      have c20 := neI h18
      refine Sf_cb2 (s_X3_knownDay s_notes_many s_notes_days s_notes_gathered s_notes_minutes s_notes_shapes p1 p2 (by omega) (by omega)) (fun r26_19 o_gathered26_20 hp21 => ?_)
      have g22 := rgI r26_19
      exact Sf_some trivial
set_option maxHeartbeats 4000000 in
set_option maxRecDepth 100000 in
theorem s_X11_row (s_notes_many : Int32) (s_notes_days : Nat → Int32) (s_notes_gathered : Nat → Int32) (s_notes_minutes : Nat → Int32) (s_notes_shapes : Nat → Int32) (p1 : Int32) (p2 : Int32) (p3 : Int32) (hp0 : 0 ≤ s_notes_many.toInt) (hp1 : s_notes_many.toInt ≤ 40) : Sf (f_X11_row s_notes_many s_notes_days s_notes_gathered s_notes_minutes s_notes_shapes p1 p2 p3) (fun (y : Int32 × (Nat → Int32)) => True) := by
  have g1 := rgI s_notes_many
  have g2 := rgI p1
  have g3 := rgI p2
  have g4 := rgI p3
  have hFU : (100000 : Int) ≤ (FU : Int) := Int.ofNat_le.mpr FU_ge
  rw [f_X11_row]
  refine Sf_cb1 (s_X11_isShape p1 ) (fun r1_1 hp5 => ?_)
  have hp5 : ((r1_1.toInt = 0 ∨ r1_1.toInt = 1)) ∧ ((r1_1.toInt = 1 ∧ 0 ≤ p1.toInt ∧ p1.toInt ≤ 3) ∨ (r1_1.toInt = 0 ∧ (p1.toInt < 0 ∨ 3 < p1.toInt))) := hp5
  obtain ⟨hq6, hq7⟩ := hp5
  have g8 := rgI r1_1
  refine Sf_ite (fun h9 => ?_) (fun h9 => ?_)
  · skip
    have l10 : (0 : Int32).toInt = 0 := by decide
    have c11 := eqI h9
    exact Sf_some trivial
  · skip
    have l12 : (0 : Int32).toInt = 0 := by decide
    have c13 := neI h9
    have l14 : (700 : Int32).toInt = 700 := by decide
    refine Sf_cb1 (s_X11_isWithin p2 0 700 ) (fun r12_11 hp15 => ?_)
    have hp15 : ((r12_11.toInt = 0 ∨ r12_11.toInt = 1)) ∧ ((r12_11.toInt = 1 ∧ (0 : Int32).toInt ≤ p2.toInt ∧ p2.toInt ≤ (700 : Int32).toInt) ∨ (r12_11.toInt = 0 ∧ (p2.toInt < (0 : Int32).toInt ∨ (700 : Int32).toInt < p2.toInt))) := hp15
    obtain ⟨hq16, hq17⟩ := hp15
    have g18 := rgI r12_11
    refine Sf_ite (fun h19 => ?_) (fun h19 => ?_)
    · skip
      have c20 := eqI h19
      exact Sf_some trivial
    · skip
      have c21 := neI h19
      have l22 : (1 : Int32).toInt = 1 := by decide
      refine Sf_cb1 (s_X11_isWithin p3 0 1 ) (fun r21_21 hp23 => ?_)
      have hp23 : ((r21_21.toInt = 0 ∨ r21_21.toInt = 1)) ∧ ((r21_21.toInt = 1 ∧ (0 : Int32).toInt ≤ p3.toInt ∧ p3.toInt ≤ (1 : Int32).toInt) ∨ (r21_21.toInt = 0 ∧ (p3.toInt < (0 : Int32).toInt ∨ (1 : Int32).toInt < p3.toInt))) := hp23
      obtain ⟨hq24, hq25⟩ := hp23
      have g26 := rgI r21_21
      refine Sf_ite (fun h27 => ?_) (fun h27 => ?_)
      · skip
        have c28 := eqI h27
        exact Sf_some trivial
      · skip
        have c29 := neI h27
        refine Sf_cb2 (s_X3_longestRow s_notes_many s_notes_days s_notes_gathered s_notes_minutes s_notes_shapes p1 p2 p3 (by omega) (by omega)) (fun r36_29 o_gathered36_30 hp30 => ?_)
        have g31 := rgI r36_29
        exact Sf_some trivial
set_option maxHeartbeats 4000000 in
set_option maxRecDepth 100000 in
theorem s_X11_blip (s_blips_many : Int32) (s_blips_times : Nat → Int32) (p1 : Int32) (hp0 : 0 ≤ s_blips_many.toInt) (hp1 : s_blips_many.toInt ≤ 40) : Sf (f_X11_blip s_blips_many s_blips_times p1) (fun (y : Int32 × Int32 × (Nat → Int32)) => (0 ≤ (y.2.1).toInt ∧ (y.2.1).toInt ≤ 40)) := by
  have g1 := rgI s_blips_many
  have g2 := rgI p1
  have hFU : (100000 : Int) ≤ (FU : Int) := Int.ofNat_le.mpr FU_ge
  rw [f_X11_blip]
  have l3 : (0 : Int32).toInt = 0 := by decide
  have l4 : (1000000000 : Int32).toInt = 1000000000 := by decide
  refine Sf_cb1 (s_X11_isWithin p1 0 1000000000 ) (fun r4_1 hp5 => ?_)
  have hp5 : ((r4_1.toInt = 0 ∨ r4_1.toInt = 1)) ∧ ((r4_1.toInt = 1 ∧ (0 : Int32).toInt ≤ p1.toInt ∧ p1.toInt ≤ (1000000000 : Int32).toInt) ∨ (r4_1.toInt = 0 ∧ (p1.toInt < (0 : Int32).toInt ∨ (1000000000 : Int32).toInt < p1.toInt))) := hp5
  obtain ⟨hq6, hq7⟩ := hp5
  have g8 := rgI r4_1
  refine Sf_ite (fun h9 => ?_) (fun h9 => ?_)
  · skip
    have c10 := eqI h9
    have l11 : ((-1) : Int32).toInt = -1 := by decide
    refine Sf_some (show (0 ≤ s_blips_many.toInt ∧ s_blips_many.toInt ≤ 40) from ?_)
    (omega)
  · skip
    have c12 := neI h9
    refine Sf_cb3 (s_X0_add s_blips_many s_blips_times p1 (by omega) (by omega)) (fun r15_12 o_many15_13 o_times15_14 hp13 => ?_)
    have hp13 : (0 ≤ o_many15_13.toInt ∧ o_many15_13.toInt ≤ 40) := hp13
    have g14 := rgI r15_12
    have g15 := rgI o_many15_13
    refine Sf_some (show (0 ≤ o_many15_13.toInt ∧ o_many15_13.toInt ≤ 40) from ?_)
    (omega)
set_option maxHeartbeats 4000000 in
set_option maxRecDepth 100000 in
theorem s_X11_fits (s_blips_many : Int32) (s_blips_rests : Nat → Int32) (s_blips_times : Nat → Int32) (p1 : Int32) (p2 : Int32) (hp0 : 0 ≤ s_blips_many.toInt) (hp1 : s_blips_many.toInt ≤ 40) : Sf (f_X11_fits s_blips_many s_blips_rests s_blips_times p1 p2) (fun (y : Int32 × (Nat → Int32)) => True) := by
  have g1 := rgI s_blips_many
  have g2 := rgI p1
  have g3 := rgI p2
  have hFU : (100000 : Int) ≤ (FU : Int) := Int.ofNat_le.mpr FU_ge
  rw [f_X11_fits]
  refine Sf_cb1 (s_X11_isBeat p1 ) (fun r1_1 hp4 => ?_)
  have hp4 : ((r1_1.toInt = 0 ∨ r1_1.toInt = 1)) ∧ ((r1_1.toInt = 1 ∧ 1 ≤ p1.toInt ∧ p1.toInt ≤ 1000000) ∨ (r1_1.toInt = 0 ∧ (p1.toInt < 1 ∨ 1000000 < p1.toInt))) := hp4
  obtain ⟨hq5, hq6⟩ := hp4
  have g7 := rgI r1_1
  refine Sf_ite (fun h8 => ?_) (fun h8 => ?_)
  · skip
    have l9 : (0 : Int32).toInt = 0 := by decide
    have c10 := eqI h8
    exact Sf_some trivial
  · skip
    have l11 : (0 : Int32).toInt = 0 := by decide
    have c12 := neI h8
    have l13 : (1000 : Int32).toInt = 1000 := by decide
    refine Sf_cb1 (s_X11_isWithin p2 0 1000 ) (fun r12_11 hp14 => ?_)
    have hp14 : ((r12_11.toInt = 0 ∨ r12_11.toInt = 1)) ∧ ((r12_11.toInt = 1 ∧ (0 : Int32).toInt ≤ p2.toInt ∧ p2.toInt ≤ (1000 : Int32).toInt) ∨ (r12_11.toInt = 0 ∧ (p2.toInt < (0 : Int32).toInt ∨ (1000 : Int32).toInt < p2.toInt))) := hp14
    obtain ⟨hq15, hq16⟩ := hp14
    have g17 := rgI r12_11
    refine Sf_ite (fun h18 => ?_) (fun h18 => ?_)
    · skip
      have c19 := eqI h18
      exact Sf_some trivial
    · skip
      have c20 := neI h18
      refine Sf_ite (fun h21 => ?_) (fun h21 => ?_)
      · skip
        have l22 : (2 : Int32).toInt = 2 := by decide
        have g23 := rgI (2 * p2)
        first | have e24 := mlY 2 p2 (2) (by decide) (by omega) (by omega) | skip
        have c25 := leI h21
        exact Sf_some trivial
      · skip
        have l26 : (2 : Int32).toInt = 2 := by decide
        have g27 := rgI (2 * p2)
        first | have e28 := mlY 2 p2 (2) (by decide) (by omega) (by omega) | skip
        have c29 := nleI h21
        refine Sf_ite (fun h30 => ?_) (fun h30 => ?_)
        · skip
          have c31 := leI h30
          refine Sf_cb2 (s_X0_fitTo s_blips_many s_blips_rests s_blips_times p1 p2 (by omega) (by omega)) (fun r44_29 o_rests44_30 hp32 => ?_)
          have hp32 : ((r44_29.toInt = 0 ∨ r44_29.toInt = 1)) := hp32
          have g33 := rgI r44_29
          refine Sf_ite (fun h34 => ?_) (fun h34 => ?_)
          · skip
            have c35 := eqI h34
            exact Sf_some trivial
          · skip
            have c36 := neI h34
            exact Sf_some trivial
        · skip
          have c37 := nleI h30
          exact Sf_some trivial
set_option maxHeartbeats 4000000 in
set_option maxRecDepth 100000 in
theorem s_X11_beats (s_blips_many : Int32) (s_blips_fitting : Int32) (s_blips_least : Int32) (s_blips_greatest : Int32) (s_blips_rests : Nat → Int32) (s_blips_times : Nat → Int32) (p1 : Int32) (p2 : Int32) (p3 : Int32) (p4 : Int32) (hp0 : 0 ≤ s_blips_many.toInt) (hp1 : s_blips_many.toInt ≤ 40) : Sf (f_X11_beats s_blips_many s_blips_fitting s_blips_least s_blips_greatest s_blips_rests s_blips_times p1 p2 p3 p4) (fun (y : Int32 × Int32 × Int32 × Int32 × (Nat → Int32)) => True) := by
  have g1 := rgI s_blips_many
  have g2 := rgI s_blips_fitting
  have g3 := rgI s_blips_least
  have g4 := rgI s_blips_greatest
  have g5 := rgI p1
  have g6 := rgI p2
  have g7 := rgI p3
  have g8 := rgI p4
  have hFU : (100000 : Int) ≤ (FU : Int) := Int.ofNat_le.mpr FU_ge
  rw [f_X11_beats]
  refine Sf_cb1 (s_X11_canScan s_blips_many p1 p2 p3 (by omega) (by omega)) (fun r4_1 hp9 => ?_)
  have hp9 : ((r4_1.toInt = 0 ∨ r4_1.toInt = 1)) ∧ (r4_1.toInt = 0 ∨ (1 ≤ p1.toInt ∧ p1.toInt ≤ p2.toInt ∧ p2.toInt ≤ 1000000 ∧ p2.toInt ≤ p1.toInt + 2000 ∧ 2 ≤ s_blips_many.toInt)) := hp9
  obtain ⟨hq10, hq11⟩ := hp9
  have g12 := rgI r4_1
  refine Sf_ite (fun h13 => ?_) (fun h13 => ?_)
  · skip
    have l14 : (0 : Int32).toInt = 0 := by decide
    have c15 := eqI h13
    exact Sf_some trivial
  · skip
    have l16 : (0 : Int32).toInt = 0 := by decide
    have c17 := neI h13
    have l18 : (2 : Int32).toInt = 2 := by decide
    refine Sf_cb1 (s_X11_isWithin p4 0 2 ) (fun r14_14 hp19 => ?_)
    have hp19 : ((r14_14.toInt = 0 ∨ r14_14.toInt = 1)) ∧ ((r14_14.toInt = 1 ∧ (0 : Int32).toInt ≤ p4.toInt ∧ p4.toInt ≤ (2 : Int32).toInt) ∨ (r14_14.toInt = 0 ∧ (p4.toInt < (0 : Int32).toInt ∨ (2 : Int32).toInt < p4.toInt))) := hp19
    obtain ⟨hq20, hq21⟩ := hp19
    have g22 := rgI r14_14
    refine Sf_ite (fun h23 => ?_) (fun h23 => ?_)
    · skip
      have c24 := eqI h23
      exact Sf_some trivial
    · skip
      have c25 := neI h23
      refine Sf_cb4 (s_X0_scan s_blips_many s_blips_fitting s_blips_least s_blips_greatest s_blips_rests s_blips_times p1 p2 p3 (by omega) (by omega) (by omega) (by omega) (by omega) (by omega)) (fun o_fitting29_22 o_least29_23 o_greatest29_24 o_rests29_25 hp26 => ?_)
      have g27 := rgI o_fitting29_22
      have g28 := rgI o_least29_23
      have g29 := rgI o_greatest29_24
      refine Sf_ite (fun h30 => ?_) (fun h30 => ?_)
      · skip
        have c31 := eqI h30
        exact Sf_some trivial
      · skip
        have c32 := neI h30
        refine Sf_ite (fun h33 => ?_) (fun h33 => ?_)
        · skip
          have l34 : (1 : Int32).toInt = 1 := by decide
          have c35 := eqI h33
          exact Sf_some trivial
        · skip
          have l36 : (1 : Int32).toInt = 1 := by decide
          have c37 := neI h33
          exact Sf_some trivial
set_option maxHeartbeats 4000000 in
set_option maxRecDepth 100000 in
theorem s_X11_counted (s_blips_many : Int32) (s_blips_times : Nat → Int32) (p1 : Int32) (p2 : Int32) (hp0 : 0 ≤ s_blips_many.toInt) (hp1 : s_blips_many.toInt ≤ 40) : Sf (f_X11_counted s_blips_many s_blips_times p1 p2) (fun (y : Int32) => True) := by
  have g1 := rgI s_blips_many
  have g2 := rgI p1
  have g3 := rgI p2
  have hFU : (100000 : Int) ≤ (FU : Int) := Int.ofNat_le.mpr FU_ge
  rw [f_X11_counted]
  refine Sf_cb1 (s_X11_isBeat p2 ) (fun r1_1 hp4 => ?_)
  have hp4 : ((r1_1.toInt = 0 ∨ r1_1.toInt = 1)) ∧ ((r1_1.toInt = 1 ∧ 1 ≤ p2.toInt ∧ p2.toInt ≤ 1000000) ∨ (r1_1.toInt = 0 ∧ (p2.toInt < 1 ∨ 1000000 < p2.toInt))) := hp4
  obtain ⟨hq5, hq6⟩ := hp4
  have g7 := rgI r1_1
  refine Sf_ite (fun h8 => ?_) (fun h8 => ?_)
  · skip
    have l9 : (0 : Int32).toInt = 0 := by decide
    have c10 := eqI h8
    exact Sf_some trivial
  · skip
    have l11 : (0 : Int32).toInt = 0 := by decide
    have c12 := neI h8
    have g13 := rgI (s_blips_many - 1)
    first | have e14 := sbN s_blips_many 1 (1) (by decide) (by omega) (by omega) | skip
    refine Sf_cb1 (s_X11_isWithin p1 0 (s_blips_many - 1) ) (fun r18_10 hp15 => ?_)
    have hp15 : ((r18_10.toInt = 0 ∨ r18_10.toInt = 1)) ∧ ((r18_10.toInt = 1 ∧ (0 : Int32).toInt ≤ p1.toInt ∧ p1.toInt ≤ (s_blips_many - 1).toInt) ∨ (r18_10.toInt = 0 ∧ (p1.toInt < (0 : Int32).toInt ∨ (s_blips_many - 1).toInt < p1.toInt))) := hp15
    obtain ⟨hq16, hq17⟩ := hp15
    have g18 := rgI r18_10
    refine Sf_ite (fun h19 => ?_) (fun h19 => ?_)
    · skip
      have c20 := eqI h19
      exact Sf_some trivial
    · skip
      have c21 := neI h19
      refine Sf_cb1 (s_X0_beatsTo s_blips_times p1 p2 (by omega) (by omega)) (fun r30_19 hp22 => ?_)
      have g23 := rgI r30_19
      exact Sf_some trivial
set_option maxHeartbeats 4000000 in
set_option maxRecDepth 100000 in
theorem s_X11_sure (s_blips_many : Int32) (s_blips_fitting : Int32) (s_blips_least : Int32) (s_blips_greatest : Int32) (s_blips_rests : Nat → Int32) (s_blips_times : Nat → Int32) (p1 : Int32) (p2 : Int32) (p3 : Int32) (hp0 : 0 ≤ s_blips_many.toInt) (hp1 : s_blips_many.toInt ≤ 40) : Sf (f_X11_sure s_blips_many s_blips_fitting s_blips_least s_blips_greatest s_blips_rests s_blips_times p1 p2 p3) (fun (y : Int32 × Int32 × Int32 × Int32 × (Nat → Int32)) => True) := by
  have g1 := rgI s_blips_many
  have g2 := rgI s_blips_fitting
  have g3 := rgI s_blips_least
  have g4 := rgI s_blips_greatest
  have g5 := rgI p1
  have g6 := rgI p2
  have g7 := rgI p3
  have hFU : (100000 : Int) ≤ (FU : Int) := Int.ofNat_le.mpr FU_ge
  rw [f_X11_sure]
  refine Sf_cb1 (s_X11_canScan s_blips_many p1 p2 p3 (by omega) (by omega)) (fun r4_1 hp8 => ?_)
  have hp8 : ((r4_1.toInt = 0 ∨ r4_1.toInt = 1)) ∧ (r4_1.toInt = 0 ∨ (1 ≤ p1.toInt ∧ p1.toInt ≤ p2.toInt ∧ p2.toInt ≤ 1000000 ∧ p2.toInt ≤ p1.toInt + 2000 ∧ 2 ≤ s_blips_many.toInt)) := hp8
  obtain ⟨hq9, hq10⟩ := hp8
  have g11 := rgI r4_1
  refine Sf_ite (fun h12 => ?_) (fun h12 => ?_)
  · skip
    have l13 : (0 : Int32).toInt = 0 := by decide
    have c14 := eqI h12
    exact Sf_some trivial
  · skip
    have l15 : (0 : Int32).toInt = 0 := by decide
    have c16 := neI h12
    refine Sf_cb4 (s_X0_scan s_blips_many s_blips_fitting s_blips_least s_blips_greatest s_blips_rests s_blips_times p1 p2 p3 (by omega) (by omega) (by omega) (by omega) (by omega) (by omega)) (fun o_fitting19_9 o_least19_10 o_greatest19_11 o_rests19_12 hp17 => ?_)
    have g18 := rgI o_fitting19_9
    have g19 := rgI o_least19_10
    have g20 := rgI o_greatest19_11
    refine Sf_ite (fun h21 => ?_) (fun h21 => ?_)
    · skip
      have c22 := eqI h21
      exact Sf_some trivial
    · skip
      have c23 := neI h21
      refine Sf_cb1 (s_X0_countAlike s_blips_many s_blips_times o_least19_10 o_greatest19_11 (by omega) (by omega)) (fun r53_20 hp24 => ?_)
      have hp24 : ((r53_20.toInt = 0 ∨ r53_20.toInt = 1)) := hp24
      have g25 := rgI r53_20
      refine Sf_ite (fun h26 => ?_) (fun h26 => ?_)
      · skip
        have c27 := eqI h26
        exact Sf_some trivial
      · skip
        have c28 := neI h26
        exact Sf_some trivial
set_option maxHeartbeats 4000000 in
set_option maxRecDepth 100000 in
theorem s_X11_lost (s_blips_many : Int32) (s_blips_fitting : Int32) (s_blips_least : Int32) (s_blips_greatest : Int32) (s_blips_rests : Nat → Int32) (s_blips_times : Nat → Int32) (p1 : Int32) (p2 : Int32) (p3 : Int32) (hp0 : 0 ≤ s_blips_many.toInt) (hp1 : s_blips_many.toInt ≤ 40) : Sf (f_X11_lost s_blips_many s_blips_fitting s_blips_least s_blips_greatest s_blips_rests s_blips_times p1 p2 p3) (fun (y : Int32 × Int32 × Int32 × Int32 × (Nat → Int32)) => True) := by
  have g1 := rgI s_blips_many
  have g2 := rgI s_blips_fitting
  have g3 := rgI s_blips_least
  have g4 := rgI s_blips_greatest
  have g5 := rgI p1
  have g6 := rgI p2
  have g7 := rgI p3
  have hFU : (100000 : Int) ≤ (FU : Int) := Int.ofNat_le.mpr FU_ge
  rw [f_X11_lost]
  refine Sf_cb1 (s_X11_canScan s_blips_many p1 p2 p3 (by omega) (by omega)) (fun r4_1 hp8 => ?_)
  have hp8 : ((r4_1.toInt = 0 ∨ r4_1.toInt = 1)) ∧ (r4_1.toInt = 0 ∨ (1 ≤ p1.toInt ∧ p1.toInt ≤ p2.toInt ∧ p2.toInt ≤ 1000000 ∧ p2.toInt ≤ p1.toInt + 2000 ∧ 2 ≤ s_blips_many.toInt)) := hp8
  obtain ⟨hq9, hq10⟩ := hp8
  have g11 := rgI r4_1
  refine Sf_ite (fun h12 => ?_) (fun h12 => ?_)
  · skip
    have l13 : (0 : Int32).toInt = 0 := by decide
    have c14 := eqI h12
    exact Sf_some trivial
  · skip
    have l15 : (0 : Int32).toInt = 0 := by decide
    have c16 := neI h12
    refine Sf_cb4 (s_X0_scan s_blips_many s_blips_fitting s_blips_least s_blips_greatest s_blips_rests s_blips_times p1 p2 p3 (by omega) (by omega) (by omega) (by omega) (by omega) (by omega)) (fun o_fitting19_9 o_least19_10 o_greatest19_11 o_rests19_12 hp17 => ?_)
    have g18 := rgI o_fitting19_9
    have g19 := rgI o_least19_10
    have g20 := rgI o_greatest19_11
    refine Sf_cb1 (s_X0_beatsTillLost o_least19_10 o_greatest19_11 ) (fun r26_17 hp21 => ?_)
    have g22 := rgI r26_17
    exact Sf_some trivial
set_option maxHeartbeats 4000000 in
set_option maxRecDepth 100000 in
theorem s_X11_night (s_nights_many : Int32) (s_nights_days : Nat → Int32) (s_nights_shifts : Nat → Int32) (p1 : Int32) (p2 : Int32) (hp0 : 0 ≤ s_nights_many.toInt) (hp1 : s_nights_many.toInt ≤ 30) : Sf (f_X11_night s_nights_many s_nights_days s_nights_shifts p1 p2) (fun (y : Int32 × Int32 × (Nat → Int32) × (Nat → Int32)) => (0 ≤ (y.2.1).toInt ∧ (y.2.1).toInt ≤ 30)) := by
  have g1 := rgI s_nights_many
  have g2 := rgI p1
  have g3 := rgI p2
  have hFU : (100000 : Int) ≤ (FU : Int) := Int.ofNat_le.mpr FU_ge
  rw [f_X11_night]
  refine Sf_cb1 (s_X11_isDay p1 ) (fun r1_1 hp4 => ?_)
  have hp4 : ((r1_1.toInt = 0 ∨ r1_1.toInt = 1)) ∧ ((r1_1.toInt = 1 ∧ 0 ≤ p1.toInt ∧ p1.toInt ≤ 399) ∨ (r1_1.toInt = 0 ∧ (p1.toInt < 0 ∨ 399 < p1.toInt))) := hp4
  obtain ⟨hq5, hq6⟩ := hp4
  have g7 := rgI r1_1
  refine Sf_ite (fun h8 => ?_) (fun h8 => ?_)
  · skip
    have l9 : (0 : Int32).toInt = 0 := by decide
    have c10 := eqI h8
    have l11 : ((-1) : Int32).toInt = -1 := by decide
    refine Sf_some (show (0 ≤ s_nights_many.toInt ∧ s_nights_many.toInt ≤ 30) from ?_)
    (omega)
  · skip
    have l12 : (0 : Int32).toInt = 0 := by decide
    have c13 := neI h8
    have l14 : ((-100000) : Int32).toInt = -100000 := by decide
    have l15 : (100000 : Int32).toInt = 100000 := by decide
    refine Sf_cb1 (s_X11_isWithin p2 (-100000) 100000 ) (fun r12_13 hp16 => ?_)
    have hp16 : ((r12_13.toInt = 0 ∨ r12_13.toInt = 1)) ∧ ((r12_13.toInt = 1 ∧ (-100000 : Int32).toInt ≤ p2.toInt ∧ p2.toInt ≤ (100000 : Int32).toInt) ∨ (r12_13.toInt = 0 ∧ (p2.toInt < (-100000 : Int32).toInt ∨ (100000 : Int32).toInt < p2.toInt))) := hp16
    obtain ⟨hq17, hq18⟩ := hp16
    have g19 := rgI r12_13
    refine Sf_ite (fun h20 => ?_) (fun h20 => ?_)
    · skip
      have c21 := eqI h20
      have l22 : ((-1) : Int32).toInt = -1 := by decide
      refine Sf_some (show (0 ≤ s_nights_many.toInt ∧ s_nights_many.toInt ≤ 30) from ?_)
      (omega)
    · skip
      have c23 := neI h20
      refine Sf_cb4 (s_X2_add s_nights_many s_nights_days s_nights_shifts p1 p2 (by omega) (by omega)) (fun r24_25 o_many24_26 o_days24_27 o_shifts24_28 hp24 => ?_)
      have hp24 : (0 ≤ o_many24_26.toInt ∧ o_many24_26.toInt ≤ 30) := hp24
      have g25 := rgI r24_25
      have g26 := rgI o_many24_26
      refine Sf_some (show (0 ≤ o_many24_26.toInt ∧ o_many24_26.toInt ≤ 30) from ?_)
      (omega)
set_option maxHeartbeats 4000000 in
set_option maxRecDepth 100000 in
theorem s_X11_bound (s_nights_many : Int32) (s_nights_days : Nat → Int32) (s_nights_shifts : Nat → Int32) (p1 : Int32) (p2 : Int32) (hp0 : 0 ≤ s_nights_many.toInt) (hp1 : s_nights_many.toInt ≤ 30) : Sf (f_X11_bound s_nights_many s_nights_days s_nights_shifts p1 p2) (fun (y : Int32) => True) := by
  have g1 := rgI s_nights_many
  have g2 := rgI p1
  have g3 := rgI p2
  have hFU : (100000 : Int) ≤ (FU : Int) := Int.ofNat_le.mpr FU_ge
  rw [f_X11_bound]
  have l4 : (4 : Int32).toInt = 4 := by decide
  have l5 : (400 : Int32).toInt = 400 := by decide
  refine Sf_cb1 (s_X11_isWithin p1 4 400 ) (fun r5_1 hp6 => ?_)
  have hp6 : ((r5_1.toInt = 0 ∨ r5_1.toInt = 1)) ∧ ((r5_1.toInt = 1 ∧ (4 : Int32).toInt ≤ p1.toInt ∧ p1.toInt ≤ (400 : Int32).toInt) ∨ (r5_1.toInt = 0 ∧ (p1.toInt < (4 : Int32).toInt ∨ (400 : Int32).toInt < p1.toInt))) := hp6
  obtain ⟨hq7, hq8⟩ := hp6
  have g9 := rgI r5_1
  refine Sf_ite (fun h10 => ?_) (fun h10 => ?_)
  · skip
    have l11 : (0 : Int32).toInt = 0 := by decide
    have c12 := eqI h10
    exact Sf_some trivial
  · skip
    have l13 : (0 : Int32).toInt = 0 := by decide
    have c14 := neI h10
    refine Sf_cb1 (s_X11_isNightError p2 ) (fun r12_10 hp15 => ?_)
    have hp15 : ((r12_10.toInt = 0 ∨ r12_10.toInt = 1)) ∧ ((r12_10.toInt = 1 ∧ 0 ≤ p2.toInt ∧ p2.toInt ≤ 100000) ∨ (r12_10.toInt = 0 ∧ (p2.toInt < 0 ∨ 100000 < p2.toInt))) := hp15
    obtain ⟨hq16, hq17⟩ := hp15
    have g18 := rgI r12_10
    refine Sf_ite (fun h19 => ?_) (fun h19 => ?_)
    · skip
      have c20 := eqI h19
      exact Sf_some trivial
    · skip
      have c21 := neI h19
      refine Sf_cb1 (s_X2_greatestOrbit s_nights_many s_nights_days s_nights_shifts p1 p2 (by omega) (by omega) (by omega) (by omega)) (fun r26_18 hp22 => ?_)
      have g23 := rgI r26_18
      exact Sf_some trivial
set_option maxHeartbeats 4000000 in
set_option maxRecDepth 100000 in
theorem s_X11_there (s_lots_tens : Nat → Int32) (p1 : Int32) (p2 : Int32)  : Sf (f_X11_there s_lots_tens p1 p2) (fun (y : Int32 × (Nat → Int32)) => (((y.1).toInt = 0 ∨ (y.1).toInt = 1))) := by
  have g1 := rgI p1
  have g2 := rgI p2
  have hFU : (100000 : Int) ≤ (FU : Int) := Int.ofNat_le.mpr FU_ge
  rw [f_X11_there]
  have l3 : (0 : Int32).toInt = 0 := by decide
  have l4 : (39 : Int32).toInt = 39 := by decide
  refine Sf_cb1 (s_X11_isWithin p1 0 39 ) (fun r4_1 hp5 => ?_)
  have hp5 : ((r4_1.toInt = 0 ∨ r4_1.toInt = 1)) ∧ ((r4_1.toInt = 1 ∧ (0 : Int32).toInt ≤ p1.toInt ∧ p1.toInt ≤ (39 : Int32).toInt) ∨ (r4_1.toInt = 0 ∧ (p1.toInt < (0 : Int32).toInt ∨ (39 : Int32).toInt < p1.toInt))) := hp5
  obtain ⟨hq6, hq7⟩ := hp5
  have g8 := rgI r4_1
  refine Sf_ite (fun h9 => ?_) (fun h9 => ?_)
  · skip
    have c10 := eqI h9
    refine Sf_some (show (((0 : Int32).toInt = 0 ∨ (0 : Int32).toInt = 1)) from ?_)
    (omega)
  · skip
    have c11 := neI h9
    have l12 : (10 : Int32).toInt = 10 := by decide
    refine Sf_cb1 (s_X11_isWithin p2 0 10 ) (fun r14_11 hp13 => ?_)
    have hp13 : ((r14_11.toInt = 0 ∨ r14_11.toInt = 1)) ∧ ((r14_11.toInt = 1 ∧ (0 : Int32).toInt ≤ p2.toInt ∧ p2.toInt ≤ (10 : Int32).toInt) ∨ (r14_11.toInt = 0 ∧ (p2.toInt < (0 : Int32).toInt ∨ (10 : Int32).toInt < p2.toInt))) := hp13
    obtain ⟨hq14, hq15⟩ := hp13
    have g16 := rgI r14_11
    refine Sf_ite (fun h17 => ?_) (fun h17 => ?_)
    · skip
      have c18 := eqI h17
      refine Sf_some (show (((0 : Int32).toInt = 0 ∨ (0 : Int32).toInt = 1)) from ?_)
      (omega)
    · skip
      have c19 := neI h17
      refine Sf_wrI (by omega) (by omega) (fun g31_19 hw20 => ?_)
      have l21 : (1 : Int32).toInt = 1 := by decide
      refine Sf_some (show (((1 : Int32).toInt = 0 ∨ (1 : Int32).toInt = 1)) from ?_)
      (omega)
set_option maxHeartbeats 4000000 in
set_option maxRecDepth 100000 in
theorem s_X11_pen (s_lots_unseen : Int32) (s_lots_best : Nat → Int32) (s_lots_chosen : Nat → Int32) (s_lots_tens : Nat → Int32) (p1 : Int32) (p2 : Int32) (p3 : Int32)  : Sf (f_X11_pen s_lots_unseen s_lots_best s_lots_chosen s_lots_tens p1 p2 p3) (fun (y : Int32 × Int32 × (Nat → Int32) × (Nat → Int32)) => True) := by
  have g1 := rgI s_lots_unseen
  have g2 := rgI p1
  have g3 := rgI p2
  have g4 := rgI p3
  have hFU : (100000 : Int) ≤ (FU : Int) := Int.ofNat_le.mpr FU_ge
  rw [f_X11_pen]
  have l5 : (1 : Int32).toInt = 1 := by decide
  have l6 : (6 : Int32).toInt = 6 := by decide
  refine Sf_cb1 (s_X11_isWithin p1 1 6 ) (fun r4_1 hp7 => ?_)
  have hp7 : ((r4_1.toInt = 0 ∨ r4_1.toInt = 1)) ∧ ((r4_1.toInt = 1 ∧ (1 : Int32).toInt ≤ p1.toInt ∧ p1.toInt ≤ (6 : Int32).toInt) ∨ (r4_1.toInt = 0 ∧ (p1.toInt < (1 : Int32).toInt ∨ (6 : Int32).toInt < p1.toInt))) := hp7
  obtain ⟨hq8, hq9⟩ := hp7
  have g10 := rgI r4_1
  refine Sf_ite (fun h11 => ?_) (fun h11 => ?_)
  · skip
    have l12 : (0 : Int32).toInt = 0 := by decide
    have c13 := eqI h11
    rw [f_X11_pen_J42]
    refine Sf_ite (fun h14 => ?_) (fun h14 => ?_)
    · skip
      have c15 := eqI h14
      exact Sf_some trivial
    · skip
      have c16 := neI h14
      refine Sf_ite (fun h17 => ?_) (fun h17 => ?_)
      · skip
        have g18 := rgI (p1 - 1)
        first | have e19 := sbN p1 1 (1) (by decide) (by omega) (by omega) | skip
        have g20 := rgI ((p1 - 1) * p2)
        have l21 : (40 : Int32).toInt = 40 := by decide
        have c22 := ltI h17
        refine Sf_cb3 (s_X1_choose s_lots_unseen s_lots_best s_lots_chosen s_lots_tens p1 p2 (by omega) (by omega) (by omega) (by omega)) (fun o_unseen67_18 o_best67_19 o_chosen67_20 hp23 => ?_)
        have g24 := rgI o_unseen67_18
        refine Sf_ite (fun h25 => ?_) (fun h25 => ?_)
        · skip
          have c26 := eqI h25
          exact Sf_some trivial
        · skip
          have c27 := neI h25
          refine Sf_rdI (by omega) (by omega) (fun v94_28 hv28 => ?_)
          have g29 := rgI v94_28
          exact Sf_some trivial
      · skip
        have g30 := rgI (p1 - 1)
        first | have e31 := sbN p1 1 (1) (by decide) (by omega) (by omega) | skip
        have g32 := rgI ((p1 - 1) * p2)
        have l33 : (40 : Int32).toInt = 40 := by decide
        have c34 := nltI h17
        exact Sf_some trivial
  · skip
    have l35 : (0 : Int32).toInt = 0 := by decide
    have c36 := neI h11
    have l37 : (10 : Int32).toInt = 10 := by decide
    refine Sf_cb1 (s_X11_isWithin p2 1 10 ) (fun r14_47 hp38 => ?_)
    have hp38 : ((r14_47.toInt = 0 ∨ r14_47.toInt = 1)) ∧ ((r14_47.toInt = 1 ∧ (1 : Int32).toInt ≤ p2.toInt ∧ p2.toInt ≤ (10 : Int32).toInt) ∨ (r14_47.toInt = 0 ∧ (p2.toInt < (1 : Int32).toInt ∨ (10 : Int32).toInt < p2.toInt))) := hp38
    obtain ⟨hq39, hq40⟩ := hp38
    have g41 := rgI r14_47
    refine Sf_ite (fun h42 => ?_) (fun h42 => ?_)
    · skip
      have c43 := eqI h42
      rw [f_X11_pen_J42]
      refine Sf_ite (fun h44 => ?_) (fun h44 => ?_)
      · skip
        have c45 := eqI h44
        exact Sf_some trivial
      · skip
        have c46 := neI h44
        refine Sf_ite (fun h47 => ?_) (fun h47 => ?_)
        · skip
          have g48 := rgI (p1 - 1)
          first | have e49 := sbN p1 1 (1) (by decide) (by omega) (by omega) | skip
          have g50 := rgI ((p1 - 1) * p2)
          have l51 : (40 : Int32).toInt = 40 := by decide
          have c52 := ltI h47
          refine Sf_cb3 (s_X1_choose s_lots_unseen s_lots_best s_lots_chosen s_lots_tens p1 p2 (by omega) (by omega) (by omega) (by omega)) (fun o_unseen67_18 o_best67_19 o_chosen67_20 hp53 => ?_)
          have g54 := rgI o_unseen67_18
          refine Sf_ite (fun h55 => ?_) (fun h55 => ?_)
          · skip
            have c56 := eqI h55
            exact Sf_some trivial
          · skip
            have c57 := neI h55
            refine Sf_rdI (by omega) (by omega) (fun v94_28 hv58 => ?_)
            have g59 := rgI v94_28
            exact Sf_some trivial
        · skip
          have g60 := rgI (p1 - 1)
          first | have e61 := sbN p1 1 (1) (by decide) (by omega) (by omega) | skip
          have g62 := rgI ((p1 - 1) * p2)
          have l63 : (40 : Int32).toInt = 40 := by decide
          have c64 := nltI h47
          exact Sf_some trivial
    · skip
      have c65 := neI h42
      refine Sf_ite (fun h66 => ?_) (fun h66 => ?_)
      · skip
        have c67 := eqI h66
        rw [f_X11_pen_J42]
        refine Sf_ite (fun h68 => ?_) (fun h68 => ?_)
        · skip
          have c69 := eqI h68
          exact Sf_some trivial
        · skip
          have c70 := neI h68
          refine Sf_ite (fun h71 => ?_) (fun h71 => ?_)
          · skip
            have g72 := rgI (p1 - 1)
            first | have e73 := sbN p1 1 (1) (by decide) (by omega) (by omega) | skip
            have g74 := rgI ((p1 - 1) * p2)
            have l75 : (40 : Int32).toInt = 40 := by decide
            have c76 := ltI h71
            refine Sf_cb3 (s_X1_choose s_lots_unseen s_lots_best s_lots_chosen s_lots_tens p1 p2 (by omega) (by omega) (by omega) (by omega)) (fun o_unseen67_18 o_best67_19 o_chosen67_20 hp77 => ?_)
            have g78 := rgI o_unseen67_18
            refine Sf_ite (fun h79 => ?_) (fun h79 => ?_)
            · skip
              have c80 := eqI h79
              exact Sf_some trivial
            · skip
              have c81 := neI h79
              refine Sf_rdI (by omega) (by omega) (fun v94_28 hv82 => ?_)
              have g83 := rgI v94_28
              exact Sf_some trivial
          · skip
            have g84 := rgI (p1 - 1)
            first | have e85 := sbN p1 1 (1) (by decide) (by omega) (by omega) | skip
            have g86 := rgI ((p1 - 1) * p2)
            have l87 : (40 : Int32).toInt = 40 := by decide
            have c88 := nltI h71
            exact Sf_some trivial
      · skip
        have c89 := neI h66
        have g90 := rgI (p1 - 1)
        first | have e91 := sbN p1 1 (1) (by decide) (by omega) (by omega) | skip
        refine Sf_cb1 (s_X11_isWithin p3 0 (p1 - 1) ) (fun r31_58 hp92 => ?_)
        have hp92 : ((r31_58.toInt = 0 ∨ r31_58.toInt = 1)) ∧ ((r31_58.toInt = 1 ∧ (0 : Int32).toInt ≤ p3.toInt ∧ p3.toInt ≤ (p1 - 1).toInt) ∨ (r31_58.toInt = 0 ∧ (p3.toInt < (0 : Int32).toInt ∨ (p1 - 1).toInt < p3.toInt))) := hp92
        obtain ⟨hq93, hq94⟩ := hp92
        have g95 := rgI r31_58
        refine Sf_ite (fun h96 => ?_) (fun h96 => ?_)
        · skip
          have c97 := eqI h96
          rw [f_X11_pen_J42]
          refine Sf_ite (fun h98 => ?_) (fun h98 => ?_)
          · skip
            have c99 := eqI h98
            exact Sf_some trivial
          · skip
            have c100 := neI h98
            refine Sf_ite (fun h101 => ?_) (fun h101 => ?_)
            · skip
              have g102 := rgI ((p1 - 1) * p2)
              have l103 : (40 : Int32).toInt = 40 := by decide
              have c104 := ltI h101
              refine Sf_cb3 (s_X1_choose s_lots_unseen s_lots_best s_lots_chosen s_lots_tens p1 p2 (by omega) (by omega) (by omega) (by omega)) (fun o_unseen67_18 o_best67_19 o_chosen67_20 hp105 => ?_)
              have g106 := rgI o_unseen67_18
              refine Sf_ite (fun h107 => ?_) (fun h107 => ?_)
              · skip
                have c108 := eqI h107
                exact Sf_some trivial
              · skip
                have c109 := neI h107
                refine Sf_rdI (by omega) (by omega) (fun v94_28 hv110 => ?_)
                have g111 := rgI v94_28
                exact Sf_some trivial
            · skip
              have g112 := rgI ((p1 - 1) * p2)
              have l113 : (40 : Int32).toInt = 40 := by decide
              have c114 := nltI h101
              exact Sf_some trivial
        · skip
          have c115 := neI h96
          rw [f_X11_pen_J42]
          refine Sf_ite (fun h116 => ?_) (fun h116 => ?_)
          · skip
            have c117 := eqI h116
            exact Sf_some trivial
          · skip
            have c118 := neI h116
            refine Sf_ite (fun h119 => ?_) (fun h119 => ?_)
            · skip
              have g120 := rgI ((p1 - 1) * p2)
              have l121 : (40 : Int32).toInt = 40 := by decide
              have c122 := ltI h119
              refine Sf_cb3 (s_X1_choose s_lots_unseen s_lots_best s_lots_chosen s_lots_tens p1 p2 (by omega) (by omega) (by omega) (by omega)) (fun o_unseen67_18 o_best67_19 o_chosen67_20 hp123 => ?_)
              have g124 := rgI o_unseen67_18
              refine Sf_ite (fun h125 => ?_) (fun h125 => ?_)
              · skip
                have c126 := eqI h125
                exact Sf_some trivial
              · skip
                have c127 := neI h125
                refine Sf_rdI (by omega) (by omega) (fun v94_28 hv128 => ?_)
                have g129 := rgI v94_28
                exact Sf_some trivial
            · skip
              have g130 := rgI ((p1 - 1) * p2)
              have l131 : (40 : Int32).toInt = 40 := by decide
              have c132 := nltI h119
              exact Sf_some trivial
