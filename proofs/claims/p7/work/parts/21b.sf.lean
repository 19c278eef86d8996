set_option maxHeartbeats 4000000 in
set_option maxRecDepth 100000 in
theorem s_X6_rowStands_L13 (s_length : Int32) (n_this_bytes : Nat) (s_bytes : Nat → Int32) (p1 : Int32) (p2 : Int32) (G1 : Nat → Int32 → Int32 → Int32 → Int32 → (Nat → Int32) → (Nat → Int32) → Int32 → Int32 → Option (Int32 × Int32 × Int32 × Int32 × (Nat → Int32))) (d : Nat) (hsG1 : ∀ (n_this_bytes : Nat) (s_length : Int32) (s_at : Int32) (s_used : Int32) (s_fault : Int32) (s_bytes : Nat → Int32) (s_code : Nat → Int32) (p1 : Int32) (p2 : Int32), (0 ≤ s_at.toInt) → (s_at.toInt ≤ s_length.toInt) → (s_length.toInt ≤ n_this_bytes) → (s_length.toInt ≤ 200) → (0 ≤ s_used.toInt) → (s_used.toInt ≤ 120) → (0 ≤ p1.toInt) → (p1.toInt ≤ 3) → (0 ≤ p2.toInt) → (p2.toInt ≤ 6) → (p1.toInt = 0 → 9 + 5 * (6 - p2.toInt) ≤ (d : Int)) → (p1.toInt = 1 → 7 + 5 * (6 - p2.toInt) ≤ (d : Int)) → (p1.toInt = 2 → 4 + 5 * (6 - p2.toInt) ≤ (d : Int)) → (p1.toInt = 3 → 2 + 5 * (6 - p2.toInt) ≤ (d : Int)) → Sf (G1 n_this_bytes s_length s_at s_used s_fault s_bytes s_code p1 p2) (fun (y : Int32 × Int32 × Int32 × Int32 × (Nat → Int32)) => ((y.1).toInt = 0 ∨ (y.1).toInt = 1) ∧ (0 ≤ (y.2.1).toInt ∧ (y.2.1).toInt ≤ s_length.toInt) ∧ (0 ≤ (y.2.2.1).toInt ∧ (y.2.2.1).toInt ≤ 120))) (hp0 : s_length.toInt ≤ n_this_bytes) (hp1 : 0 ≤ s_length.toInt) (hp2 : s_length.toInt ≤ 200) (hp3 : 0 ≤ p1.toInt) (hp4 : p1.toInt ≤ 3) (hp5 : 0 ≤ p2.toInt) (hp6 : p2.toInt ≤ 6) (hp7 : p1.toInt = 0 → 10 + 5 * (6 - p2.toInt) ≤ ((d : Int) + 1)) (hp8 : p1.toInt = 1 → 8 + 5 * (6 - p2.toInt) ≤ ((d : Int) + 1)) (hp9 : p1.toInt = 2 → 5 + 5 * (6 - p2.toInt) ≤ ((d : Int) + 1)) (hp10 : p1.toInt = 3 → 3 + 5 * (6 - p2.toInt) ≤ ((d : Int) + 1)) : ∀ (n : Nat) (x3_14 : Int32) (at__15 : Int32) (fault__16 : Int32) (used__17 : Int32) (code__18 : Nat → Int32), (0 ≤ x3_14.toInt) → (0 ≤ at__15.toInt) → (at__15.toInt ≤ s_length.toInt) → (0 ≤ used__17.toInt) → (used__17.toInt ≤ 120) → (x3_14.toInt ≤ s_length.toInt) → (s_length.toInt - x3_14.toInt + 1 < (n : Int)) → Sf (b_X6_rowStands_L13 s_length n_this_bytes s_bytes p1 p2 G1 n x3_14 at__15 fault__16 used__17 code__18) (fun (y : Int32 × Int32 × Int32 × Int32 × (Nat → Int32)) => ((y.1).toInt = 0 ∨ (y.1).toInt = 1) ∧ (0 ≤ (y.2.1).toInt ∧ (y.2.1).toInt ≤ s_length.toInt) ∧ (0 ≤ (y.2.2.1).toInt ∧ (y.2.2.1).toInt ≤ 120)) := by
  intro n
  induction n with
  | zero =>
    intro x3_14 at__15 fault__16 used__17 code__18 hi0 hi1 hi2 hi3 hi4 hi5 hm
    exact absurd hm (by omega)
  | succ n ih =>
    intro x3_14 at__15 fault__16 used__17 code__18 hi0 hi1 hi2 hi3 hi4 hi5 hm
    rw [b_X6_rowStands_L13]
    have g1 := rgI s_length
    have g2 := rgI p1
    have g3 := rgI p2
    have g4 := rgI x3_14
    have g5 := rgI at__15
    have g6 := rgI fault__16
    have g7 := rgI used__17
    refine Sf_ite (fun h8 => ?_) (fun h8 => ?_)
    · skip
      have c9 := leI h8
      have l10 : (1 : Int32).toInt = 1 := by decide
      refine Sf_some (show (((1 : Int32).toInt = 0 ∨ (1 : Int32).toInt = 1)) ∧ (0 ≤ at__15.toInt ∧ at__15.toInt ≤ s_length.toInt) ∧ (0 ≤ used__17.toInt ∧ used__17.toInt ≤ 120) from ?_)
      refine ⟨?_, ?_, ?_⟩ <;> (omega)
    · skip
      have c11 := nleI h8
      refine Sf_cb1 (s_X6_next n_this_bytes s_length at__15 s_bytes (by omega) (by omega)) (fun r23_27 hp12 => ?_)
      have hp12 : (r23_27.toInt = -1 ∨ at__15.toInt < s_length.toInt) := hp12
      have g13 := rgI r23_27
      refine Sf_cb1 (s_X6_joins p1 r23_27 ) (fun r26_32 hp14 => ?_)
      have hp14 : ((r26_32.toInt = 0 ∨ r26_32.toInt = 1)) ∧ (r26_32.toInt = 0 ∨ 0 ≤ r23_27.toInt) := hp14
      obtain ⟨hq15, hq16⟩ := hp14
      have g17 := rgI r26_32
      refine Sf_ite (fun h18 => ?_) (fun h18 => ?_)
      · skip
        have l19 : (0 : Int32).toInt = 0 := by decide
        have c20 := eqI h18
        have l21 : (1 : Int32).toInt = 1 := by decide
        refine Sf_some (show (((1 : Int32).toInt = 0 ∨ (1 : Int32).toInt = 1)) ∧ (0 ≤ at__15.toInt ∧ at__15.toInt ≤ s_length.toInt) ∧ (0 ≤ used__17.toInt ∧ used__17.toInt ≤ 120) from ?_)
        refine ⟨?_, ?_, ?_⟩ <;> (omega)
      · skip
        have l22 : (0 : Int32).toInt = 0 := by decide
        have c23 := neI h18
        refine Sf_cb1 (s_X6_next n_this_bytes s_length at__15 s_bytes (by omega) (by omega)) (fun r33_45 hp24 => ?_)
        have hp24 : (r33_45.toInt = -1 ∨ at__15.toInt < s_length.toInt) := hp24
        have g25 := rgI r33_45
        refine Sf_ite (fun h26 => ?_) (fun h26 => ?_)
        · skip
          have c27 := eqI h26
          rw [b_X6_rowStands_J58]
          refine Sf_ite (fun h28 => ?_) (fun h28 => ?_)
          · skip
            have l29 : (1 : Int32).toInt = 1 := by decide
            have c30 := eqI h28
            rw [b_X6_rowStands_J72]
            refine Sf_nmI (fun v79_56 hv31 => ?_)
            have g32 := rgI (at__15 + 1)
            first | have e33 := adN at__15 1 (1) (by decide) (by omega) (by omega) | skip
            have q34 := eqI hv31
            refine Sf_cb5 (hsG1 n_this_bytes s_length v79_56 used__17 fault__16 s_bytes code__18 p1 p2 (by omega) (by omega) (by omega) (by omega) (by omega) (by omega) (by omega) (by omega) (by omega) (by omega) (by omega) (by omega) (by omega) (by omega)) (fun r85_60 o_at85_61 o_used85_62 o_fault85_63 o_code85_64 hp35 => ?_)
            have hp35 : (r85_60.toInt = 0 ∨ r85_60.toInt = 1) ∧ (0 ≤ o_at85_61.toInt ∧ o_at85_61.toInt ≤ s_length.toInt) ∧ (0 ≤ o_used85_62.toInt ∧ o_used85_62.toInt ≤ 120) := hp35
            obtain ⟨hq36, hq37, hq38⟩ := hp35
            have g39 := rgI r85_60
            have g40 := rgI o_at85_61
            have g41 := rgI o_used85_62
            have g42 := rgI o_fault85_63
            refine Sf_ite (fun h43 => ?_) (fun h43 => ?_)
            · skip
              have c44 := eqI h43
              refine Sf_some (show (((0 : Int32).toInt = 0 ∨ (0 : Int32).toInt = 1)) ∧ (0 ≤ o_at85_61.toInt ∧ o_at85_61.toInt ≤ s_length.toInt) ∧ (0 ≤ o_used85_62.toInt ∧ o_used85_62.toInt ≤ 120) from ?_)
              refine ⟨?_, ?_, ?_⟩ <;> (omega)
            · skip
              have c45 := neI h43
              refine Sf_ite (fun h46 => ?_) (fun h46 => ?_)
              · skip
                have c47 := eqI h46
                refine Sf_cb2 (s_X6_put o_used85_62 o_code85_64 r33_45 0 (by omega) (by omega)) (fun o_used111_75 o_code111_76 hp48 => ?_)
                have hp48 : (o_used85_62.toInt ≤ o_used111_75.toInt ∧ o_used111_75.toInt ≤ 120) := hp48
                have g49 := rgI o_used111_75
                refine Sf_nmI (fun v114_81 hv50 => ?_)
                have g51 := rgI (x3_14 + 1)
                first | have e52 := adN x3_14 1 (1) (by decide) (by omega) (by omega) | skip
                have q53 := eqI hv50
                exact ih v114_81 o_at85_61 o_fault85_63 o_used111_75 o_code111_76 (by omega) (by omega) (by omega) (by omega) (by omega) (by omega) (by omega)
              · skip
                have c54 := neI h46
                refine Sf_cb1 (s_X6_leapHere o_used85_62 o_code85_64 used__17 (by omega) (by omega)) (fun o_code101_85 hp55 => ?_)
                refine Sf_nmI (fun v114_90 hv56 => ?_)
                have g57 := rgI (x3_14 + 1)
                first | have e58 := adN x3_14 1 (1) (by decide) (by omega) (by omega) | skip
                have q59 := eqI hv56
                exact ih v114_90 o_at85_61 o_fault85_63 o_used85_62 o_code101_85 (by omega) (by omega) (by omega) (by omega) (by omega) (by omega) (by omega)
          · skip
            have l60 : (1 : Int32).toInt = 1 := by decide
            have c61 := neI h28
            refine Sf_cb2 (s_X6_put used__17 code__18 r33_45 0 (by omega) (by omega)) (fun o_used69_102 o_code69_103 hp62 => ?_)
            have hp62 : (used__17.toInt ≤ o_used69_102.toInt ∧ o_used69_102.toInt ≤ 120) := hp62
            have g63 := rgI o_used69_102
            rw [b_X6_rowStands_J72]
            refine Sf_nmI (fun v79_56 hv64 => ?_)
            have g65 := rgI (at__15 + 1)
            first | have e66 := adN at__15 1 (1) (by decide) (by omega) (by omega) | skip
            have q67 := eqI hv64
            refine Sf_cb5 (hsG1 n_this_bytes s_length v79_56 o_used69_102 fault__16 s_bytes o_code69_103 p1 p2 (by omega) (by omega) (by omega) (by omega) (by omega) (by omega) (by omega) (by omega) (by omega) (by omega) (by omega) (by omega) (by omega) (by omega)) (fun r85_60 o_at85_61 o_used85_62 o_fault85_63 o_code85_64 hp68 => ?_)
            have hp68 : (r85_60.toInt = 0 ∨ r85_60.toInt = 1) ∧ (0 ≤ o_at85_61.toInt ∧ o_at85_61.toInt ≤ s_length.toInt) ∧ (0 ≤ o_used85_62.toInt ∧ o_used85_62.toInt ≤ 120) := hp68
            obtain ⟨hq69, hq70, hq71⟩ := hp68
            have g72 := rgI r85_60
            have g73 := rgI o_at85_61
            have g74 := rgI o_used85_62
            have g75 := rgI o_fault85_63
            refine Sf_ite (fun h76 => ?_) (fun h76 => ?_)
            · skip
              have c77 := eqI h76
              refine Sf_some (show (((0 : Int32).toInt = 0 ∨ (0 : Int32).toInt = 1)) ∧ (0 ≤ o_at85_61.toInt ∧ o_at85_61.toInt ≤ s_length.toInt) ∧ (0 ≤ o_used85_62.toInt ∧ o_used85_62.toInt ≤ 120) from ?_)
              refine ⟨?_, ?_, ?_⟩ <;> (omega)
            · skip
              have c78 := neI h76
              refine Sf_ite (fun h79 => ?_) (fun h79 => ?_)
              · skip
                have c80 := eqI h79
                refine Sf_cb2 (s_X6_put o_used85_62 o_code85_64 r33_45 0 (by omega) (by omega)) (fun o_used111_75 o_code111_76 hp81 => ?_)
                have hp81 : (o_used85_62.toInt ≤ o_used111_75.toInt ∧ o_used111_75.toInt ≤ 120) := hp81
                have g82 := rgI o_used111_75
                refine Sf_nmI (fun v114_81 hv83 => ?_)
                have g84 := rgI (x3_14 + 1)
                first | have e85 := adN x3_14 1 (1) (by decide) (by omega) (by omega) | skip
                have q86 := eqI hv83
                exact ih v114_81 o_at85_61 o_fault85_63 o_used111_75 o_code111_76 (by omega) (by omega) (by omega) (by omega) (by omega) (by omega) (by omega)
              · skip
                have c87 := neI h79
                refine Sf_cb1 (s_X6_leapHere o_used85_62 o_code85_64 used__17 (by omega) (by omega)) (fun o_code101_85 hp88 => ?_)
                refine Sf_nmI (fun v114_90 hv89 => ?_)
                have g90 := rgI (x3_14 + 1)
                first | have e91 := adN x3_14 1 (1) (by decide) (by omega) (by omega) | skip
                have q92 := eqI hv89
                exact ih v114_90 o_at85_61 o_fault85_63 o_used85_62 o_code101_85 (by omega) (by omega) (by omega) (by omega) (by omega) (by omega) (by omega)
        · skip
          have c93 := neI h26
          refine Sf_ite (fun h94 => ?_) (fun h94 => ?_)
          · skip
            have l95 : (1 : Int32).toInt = 1 := by decide
            have c96 := eqI h94
            rw [b_X6_rowStands_J58]
            refine Sf_ite (fun h97 => ?_) (fun h97 => ?_)
            · skip
              have c98 := eqI h97
              rw [b_X6_rowStands_J72]
              refine Sf_nmI (fun v79_56 hv99 => ?_)
              have g100 := rgI (at__15 + 1)
              first | have e101 := adN at__15 1 (1) (by decide) (by omega) (by omega) | skip
              have q102 := eqI hv99
              refine Sf_cb5 (hsG1 n_this_bytes s_length v79_56 used__17 fault__16 s_bytes code__18 p1 p2 (by omega) (by omega) (by omega) (by omega) (by omega) (by omega) (by omega) (by omega) (by omega) (by omega) (by omega) (by omega) (by omega) (by omega)) (fun r85_60 o_at85_61 o_used85_62 o_fault85_63 o_code85_64 hp103 => ?_)
              have hp103 : (r85_60.toInt = 0 ∨ r85_60.toInt = 1) ∧ (0 ≤ o_at85_61.toInt ∧ o_at85_61.toInt ≤ s_length.toInt) ∧ (0 ≤ o_used85_62.toInt ∧ o_used85_62.toInt ≤ 120) := hp103
              obtain ⟨hq104, hq105, hq106⟩ := hp103
              have g107 := rgI r85_60
              have g108 := rgI o_at85_61
              have g109 := rgI o_used85_62
              have g110 := rgI o_fault85_63
              refine Sf_ite (fun h111 => ?_) (fun h111 => ?_)
              · skip
                have c112 := eqI h111
                refine Sf_some (show (((0 : Int32).toInt = 0 ∨ (0 : Int32).toInt = 1)) ∧ (0 ≤ o_at85_61.toInt ∧ o_at85_61.toInt ≤ s_length.toInt) ∧ (0 ≤ o_used85_62.toInt ∧ o_used85_62.toInt ≤ 120) from ?_)
                refine ⟨?_, ?_, ?_⟩ <;> (omega)
              · skip
                have c113 := neI h111
                refine Sf_ite (fun h114 => ?_) (fun h114 => ?_)
                · skip
                  have c115 := eqI h114
                  refine Sf_cb2 (s_X6_put o_used85_62 o_code85_64 r33_45 0 (by omega) (by omega)) (fun o_used111_75 o_code111_76 hp116 => ?_)
                  have hp116 : (o_used85_62.toInt ≤ o_used111_75.toInt ∧ o_used111_75.toInt ≤ 120) := hp116
                  have g117 := rgI o_used111_75
                  refine Sf_nmI (fun v114_81 hv118 => ?_)
                  have g119 := rgI (x3_14 + 1)
                  first | have e120 := adN x3_14 1 (1) (by decide) (by omega) (by omega) | skip
                  have q121 := eqI hv118
                  exact ih v114_81 o_at85_61 o_fault85_63 o_used111_75 o_code111_76 (by omega) (by omega) (by omega) (by omega) (by omega) (by omega) (by omega)
                · skip
                  have c122 := neI h114
                  refine Sf_cb1 (s_X6_leapHere o_used85_62 o_code85_64 used__17 (by omega) (by omega)) (fun o_code101_85 hp123 => ?_)
                  refine Sf_nmI (fun v114_90 hv124 => ?_)
                  have g125 := rgI (x3_14 + 1)
                  first | have e126 := adN x3_14 1 (1) (by decide) (by omega) (by omega) | skip
                  have q127 := eqI hv124
                  exact ih v114_90 o_at85_61 o_fault85_63 o_used85_62 o_code101_85 (by omega) (by omega) (by omega) (by omega) (by omega) (by omega) (by omega)
            · skip
              have c128 := neI h97
              refine Sf_cb2 (s_X6_put used__17 code__18 r33_45 0 (by omega) (by omega)) (fun o_used69_102 o_code69_103 hp129 => ?_)
              have hp129 : (used__17.toInt ≤ o_used69_102.toInt ∧ o_used69_102.toInt ≤ 120) := hp129
              have g130 := rgI o_used69_102
              rw [b_X6_rowStands_J72]
              refine Sf_nmI (fun v79_56 hv131 => ?_)
              have g132 := rgI (at__15 + 1)
              first | have e133 := adN at__15 1 (1) (by decide) (by omega) (by omega) | skip
              have q134 := eqI hv131
              refine Sf_cb5 (hsG1 n_this_bytes s_length v79_56 o_used69_102 fault__16 s_bytes o_code69_103 p1 p2 (by omega) (by omega) (by omega) (by omega) (by omega) (by omega) (by omega) (by omega) (by omega) (by omega) (by omega) (by omega) (by omega) (by omega)) (fun r85_60 o_at85_61 o_used85_62 o_fault85_63 o_code85_64 hp135 => ?_)
              have hp135 : (r85_60.toInt = 0 ∨ r85_60.toInt = 1) ∧ (0 ≤ o_at85_61.toInt ∧ o_at85_61.toInt ≤ s_length.toInt) ∧ (0 ≤ o_used85_62.toInt ∧ o_used85_62.toInt ≤ 120) := hp135
              obtain ⟨hq136, hq137, hq138⟩ := hp135
              have g139 := rgI r85_60
              have g140 := rgI o_at85_61
              have g141 := rgI o_used85_62
              have g142 := rgI o_fault85_63
              refine Sf_ite (fun h143 => ?_) (fun h143 => ?_)
              · skip
                have c144 := eqI h143
                refine Sf_some (show (((0 : Int32).toInt = 0 ∨ (0 : Int32).toInt = 1)) ∧ (0 ≤ o_at85_61.toInt ∧ o_at85_61.toInt ≤ s_length.toInt) ∧ (0 ≤ o_used85_62.toInt ∧ o_used85_62.toInt ≤ 120) from ?_)
                refine ⟨?_, ?_, ?_⟩ <;> (omega)
              · skip
                have c145 := neI h143
                refine Sf_ite (fun h146 => ?_) (fun h146 => ?_)
                · skip
                  have c147 := eqI h146
                  refine Sf_cb2 (s_X6_put o_used85_62 o_code85_64 r33_45 0 (by omega) (by omega)) (fun o_used111_75 o_code111_76 hp148 => ?_)
                  have hp148 : (o_used85_62.toInt ≤ o_used111_75.toInt ∧ o_used111_75.toInt ≤ 120) := hp148
                  have g149 := rgI o_used111_75
                  refine Sf_nmI (fun v114_81 hv150 => ?_)
                  have g151 := rgI (x3_14 + 1)
                  first | have e152 := adN x3_14 1 (1) (by decide) (by omega) (by omega) | skip
                  have q153 := eqI hv150
                  exact ih v114_81 o_at85_61 o_fault85_63 o_used111_75 o_code111_76 (by omega) (by omega) (by omega) (by omega) (by omega) (by omega) (by omega)
                · skip
                  have c154 := neI h146
                  refine Sf_cb1 (s_X6_leapHere o_used85_62 o_code85_64 used__17 (by omega) (by omega)) (fun o_code101_85 hp155 => ?_)
                  refine Sf_nmI (fun v114_90 hv156 => ?_)
                  have g157 := rgI (x3_14 + 1)
                  first | have e158 := adN x3_14 1 (1) (by decide) (by omega) (by omega) | skip
                  have q159 := eqI hv156
                  exact ih v114_90 o_at85_61 o_fault85_63 o_used85_62 o_code101_85 (by omega) (by omega) (by omega) (by omega) (by omega) (by omega) (by omega)
          · skip
            have l160 : (1 : Int32).toInt = 1 := by decide
            have c161 := neI h94
            rw [b_X6_rowStands_J58]
            refine Sf_ite (fun h162 => ?_) (fun h162 => ?_)
            · skip
              have c163 := eqI h162
              rw [b_X6_rowStands_J72]
              refine Sf_nmI (fun v79_56 hv164 => ?_)
              have g165 := rgI (at__15 + 1)
              first | have e166 := adN at__15 1 (1) (by decide) (by omega) (by omega) | skip
              have q167 := eqI hv164
              refine Sf_cb5 (hsG1 n_this_bytes s_length v79_56 used__17 fault__16 s_bytes code__18 p1 p2 (by omega) (by omega) (by omega) (by omega) (by omega) (by omega) (by omega) (by omega) (by omega) (by omega) (by omega) (by omega) (by omega) (by omega)) (fun r85_60 o_at85_61 o_used85_62 o_fault85_63 o_code85_64 hp168 => ?_)
              have hp168 : (r85_60.toInt = 0 ∨ r85_60.toInt = 1) ∧ (0 ≤ o_at85_61.toInt ∧ o_at85_61.toInt ≤ s_length.toInt) ∧ (0 ≤ o_used85_62.toInt ∧ o_used85_62.toInt ≤ 120) := hp168
              obtain ⟨hq169, hq170, hq171⟩ := hp168
              have g172 := rgI r85_60
              have g173 := rgI o_at85_61
              have g174 := rgI o_used85_62
              have g175 := rgI o_fault85_63
              refine Sf_ite (fun h176 => ?_) (fun h176 => ?_)
              · skip
                have c177 := eqI h176
                refine Sf_some (show (((0 : Int32).toInt = 0 ∨ (0 : Int32).toInt = 1)) ∧ (0 ≤ o_at85_61.toInt ∧ o_at85_61.toInt ≤ s_length.toInt) ∧ (0 ≤ o_used85_62.toInt ∧ o_used85_62.toInt ≤ 120) from ?_)
                refine ⟨?_, ?_, ?_⟩ <;> (omega)
              · skip
                have c178 := neI h176
                refine Sf_ite (fun h179 => ?_) (fun h179 => ?_)
                · skip
                  have c180 := eqI h179
                  refine Sf_cb2 (s_X6_put o_used85_62 o_code85_64 r33_45 0 (by omega) (by omega)) (fun o_used111_75 o_code111_76 hp181 => ?_)
                  have hp181 : (o_used85_62.toInt ≤ o_used111_75.toInt ∧ o_used111_75.toInt ≤ 120) := hp181
                  have g182 := rgI o_used111_75
                  refine Sf_nmI (fun v114_81 hv183 => ?_)
                  have g184 := rgI (x3_14 + 1)
                  first | have e185 := adN x3_14 1 (1) (by decide) (by omega) (by omega) | skip
                  have q186 := eqI hv183
                  exact ih v114_81 o_at85_61 o_fault85_63 o_used111_75 o_code111_76 (by omega) (by omega) (by omega) (by omega) (by omega) (by omega) (by omega)
                · skip
                  have c187 := neI h179
                  refine Sf_cb1 (s_X6_leapHere o_used85_62 o_code85_64 used__17 (by omega) (by omega)) (fun o_code101_85 hp188 => ?_)
                  refine Sf_nmI (fun v114_90 hv189 => ?_)
                  have g190 := rgI (x3_14 + 1)
                  first | have e191 := adN x3_14 1 (1) (by decide) (by omega) (by omega) | skip
                  have q192 := eqI hv189
                  exact ih v114_90 o_at85_61 o_fault85_63 o_used85_62 o_code101_85 (by omega) (by omega) (by omega) (by omega) (by omega) (by omega) (by omega)
            · skip
              have c193 := neI h162
              refine Sf_cb2 (s_X6_put used__17 code__18 r33_45 0 (by omega) (by omega)) (fun o_used69_102 o_code69_103 hp194 => ?_)
              have hp194 : (used__17.toInt ≤ o_used69_102.toInt ∧ o_used69_102.toInt ≤ 120) := hp194
              have g195 := rgI o_used69_102
              rw [b_X6_rowStands_J72]
              refine Sf_nmI (fun v79_56 hv196 => ?_)
              have g197 := rgI (at__15 + 1)
              first | have e198 := adN at__15 1 (1) (by decide) (by omega) (by omega) | skip
              have q199 := eqI hv196
              refine Sf_cb5 (hsG1 n_this_bytes s_length v79_56 o_used69_102 fault__16 s_bytes o_code69_103 p1 p2 (by omega) (by omega) (by omega) (by omega) (by omega) (by omega) (by omega) (by omega) (by omega) (by omega) (by omega) (by omega) (by omega) (by omega)) (fun r85_60 o_at85_61 o_used85_62 o_fault85_63 o_code85_64 hp200 => ?_)
              have hp200 : (r85_60.toInt = 0 ∨ r85_60.toInt = 1) ∧ (0 ≤ o_at85_61.toInt ∧ o_at85_61.toInt ≤ s_length.toInt) ∧ (0 ≤ o_used85_62.toInt ∧ o_used85_62.toInt ≤ 120) := hp200
              obtain ⟨hq201, hq202, hq203⟩ := hp200
              have g204 := rgI r85_60
              have g205 := rgI o_at85_61
              have g206 := rgI o_used85_62
              have g207 := rgI o_fault85_63
              refine Sf_ite (fun h208 => ?_) (fun h208 => ?_)
              · skip
                have c209 := eqI h208
                refine Sf_some (show (((0 : Int32).toInt = 0 ∨ (0 : Int32).toInt = 1)) ∧ (0 ≤ o_at85_61.toInt ∧ o_at85_61.toInt ≤ s_length.toInt) ∧ (0 ≤ o_used85_62.toInt ∧ o_used85_62.toInt ≤ 120) from ?_)
                refine ⟨?_, ?_, ?_⟩ <;> (omega)
              · skip
                have c210 := neI h208
                refine Sf_ite (fun h211 => ?_) (fun h211 => ?_)
                · skip
                  have c212 := eqI h211
                  refine Sf_cb2 (s_X6_put o_used85_62 o_code85_64 r33_45 0 (by omega) (by omega)) (fun o_used111_75 o_code111_76 hp213 => ?_)
                  have hp213 : (o_used85_62.toInt ≤ o_used111_75.toInt ∧ o_used111_75.toInt ≤ 120) := hp213
                  have g214 := rgI o_used111_75
                  refine Sf_nmI (fun v114_81 hv215 => ?_)
                  have g216 := rgI (x3_14 + 1)
                  first | have e217 := adN x3_14 1 (1) (by decide) (by omega) (by omega) | skip
                  have q218 := eqI hv215
                  exact ih v114_81 o_at85_61 o_fault85_63 o_used111_75 o_code111_76 (by omega) (by omega) (by omega) (by omega) (by omega) (by omega) (by omega)
                · skip
                  have c219 := neI h211
                  refine Sf_cb1 (s_X6_leapHere o_used85_62 o_code85_64 used__17 (by omega) (by omega)) (fun o_code101_85 hp220 => ?_)
                  refine Sf_nmI (fun v114_90 hv221 => ?_)
                  have g222 := rgI (x3_14 + 1)
                  first | have e223 := adN x3_14 1 (1) (by decide) (by omega) (by omega) | skip
                  have q224 := eqI hv221
                  exact ih v114_90 o_at85_61 o_fault85_63 o_used85_62 o_code101_85 (by omega) (by omega) (by omega) (by omega) (by omega) (by omega) (by omega)
set_option maxHeartbeats 4000000 in
set_option maxRecDepth 100000 in
theorem sb_X6_rowStands (G0 : Nat → Int32 → Int32 → Int32 → Int32 → (Nat → Int32) → (Nat → Int32) → Int32 → Int32 → Option (Int32 × Int32 × Int32 × Int32 × (Nat → Int32))) (G1 : Nat → Int32 → Int32 → Int32 → Int32 → (Nat → Int32) → (Nat → Int32) → Int32 → Int32 → Option (Int32 × Int32 × Int32 × Int32 × (Nat → Int32))) (G2 : Nat → Int32 → Int32 → Int32 → Int32 → (Nat → Int32) → (Nat → Int32) → Int32 → Option (Int32 × Int32 × Int32 × Int32 × (Nat → Int32))) (G3 : Nat → Int32 → Int32 → Int32 → Int32 → (Nat → Int32) → (Nat → Int32) → Int32 → Option (Int32 × Int32 × Int32 × Int32 × (Nat → Int32))) (n_this_bytes : Nat) (s_length : Int32) (s_at : Int32) (s_used : Int32) (s_fault : Int32) (s_bytes : Nat → Int32) (s_code : Nat → Int32) (p1 : Int32) (p2 : Int32) (d : Nat) (hsG0 : ∀ (n_this_bytes : Nat) (s_length : Int32) (s_at : Int32) (s_used : Int32) (s_fault : Int32) (s_bytes : Nat → Int32) (s_code : Nat → Int32) (p1 : Int32) (p2 : Int32), (0 ≤ s_at.toInt) → (s_at.toInt ≤ s_length.toInt) → (s_length.toInt ≤ n_this_bytes) → (s_length.toInt ≤ 200) → (0 ≤ s_used.toInt) → (s_used.toInt ≤ 120) → (0 ≤ p1.toInt) → (p1.toInt ≤ 3) → (0 ≤ p2.toInt) → (p2.toInt ≤ 6) → (p1.toInt = 0 → 10 + 5 * (6 - p2.toInt) ≤ (d : Int)) → (p1.toInt = 1 → 8 + 5 * (6 - p2.toInt) ≤ (d : Int)) → (p1.toInt = 2 → 5 + 5 * (6 - p2.toInt) ≤ (d : Int)) → (p1.toInt = 3 → 3 + 5 * (6 - p2.toInt) ≤ (d : Int)) → Sf (G0 n_this_bytes s_length s_at s_used s_fault s_bytes s_code p1 p2) (fun (y : Int32 × Int32 × Int32 × Int32 × (Nat → Int32)) => ((y.1).toInt = 0 ∨ (y.1).toInt = 1) ∧ (0 ≤ (y.2.1).toInt ∧ (y.2.1).toInt ≤ s_length.toInt) ∧ (0 ≤ (y.2.2.1).toInt ∧ (y.2.2.1).toInt ≤ 120))) (hsG1 : ∀ (n_this_bytes : Nat) (s_length : Int32) (s_at : Int32) (s_used : Int32) (s_fault : Int32) (s_bytes : Nat → Int32) (s_code : Nat → Int32) (p1 : Int32) (p2 : Int32), (0 ≤ s_at.toInt) → (s_at.toInt ≤ s_length.toInt) → (s_length.toInt ≤ n_this_bytes) → (s_length.toInt ≤ 200) → (0 ≤ s_used.toInt) → (s_used.toInt ≤ 120) → (0 ≤ p1.toInt) → (p1.toInt ≤ 3) → (0 ≤ p2.toInt) → (p2.toInt ≤ 6) → (p1.toInt = 0 → 9 + 5 * (6 - p2.toInt) ≤ (d : Int)) → (p1.toInt = 1 → 7 + 5 * (6 - p2.toInt) ≤ (d : Int)) → (p1.toInt = 2 → 4 + 5 * (6 - p2.toInt) ≤ (d : Int)) → (p1.toInt = 3 → 2 + 5 * (6 - p2.toInt) ≤ (d : Int)) → Sf (G1 n_this_bytes s_length s_at s_used s_fault s_bytes s_code p1 p2) (fun (y : Int32 × Int32 × Int32 × Int32 × (Nat → Int32)) => ((y.1).toInt = 0 ∨ (y.1).toInt = 1) ∧ (0 ≤ (y.2.1).toInt ∧ (y.2.1).toInt ≤ s_length.toInt) ∧ (0 ≤ (y.2.2.1).toInt ∧ (y.2.2.1).toInt ≤ 120))) (hsG2 : ∀ (n_this_bytes : Nat) (s_length : Int32) (s_at : Int32) (s_used : Int32) (s_fault : Int32) (s_bytes : Nat → Int32) (s_code : Nat → Int32) (p1 : Int32), (0 ≤ s_at.toInt) → (s_at.toInt ≤ s_length.toInt) → (s_length.toInt ≤ n_this_bytes) → (s_length.toInt ≤ 200) → (0 ≤ s_used.toInt) → (s_used.toInt ≤ 120) → (0 ≤ p1.toInt) → (p1.toInt ≤ 6) → (6 + 5 * (6 - p1.toInt) ≤ (d : Int)) → Sf (G2 n_this_bytes s_length s_at s_used s_fault s_bytes s_code p1) (fun (y : Int32 × Int32 × Int32 × Int32 × (Nat → Int32)) => ((y.1).toInt = 0 ∨ (y.1).toInt = 1) ∧ (0 ≤ (y.2.1).toInt ∧ (y.2.1).toInt ≤ s_length.toInt) ∧ (0 ≤ (y.2.2.1).toInt ∧ (y.2.2.1).toInt ≤ 120))) (hsG3 : ∀ (n_this_bytes : Nat) (s_length : Int32) (s_at : Int32) (s_used : Int32) (s_fault : Int32) (s_bytes : Nat → Int32) (s_code : Nat → Int32) (p1 : Int32), (0 ≤ s_at.toInt) → (s_at.toInt ≤ s_length.toInt) → (s_length.toInt ≤ n_this_bytes) → (s_length.toInt ≤ 200) → (0 ≤ s_used.toInt) → (s_used.toInt ≤ 120) → (0 ≤ p1.toInt) → (p1.toInt ≤ 6) → (1 + 5 * (6 - p1.toInt) ≤ (d : Int)) → Sf (G3 n_this_bytes s_length s_at s_used s_fault s_bytes s_code p1) (fun (y : Int32 × Int32 × Int32 × Int32 × (Nat → Int32)) => ((y.1).toInt = 0 ∨ (y.1).toInt = 1) ∧ (0 ≤ (y.2.1).toInt ∧ (y.2.1).toInt ≤ s_length.toInt) ∧ (0 ≤ (y.2.2.1).toInt ∧ (y.2.2.1).toInt ≤ 120))) (hp0 : 0 ≤ s_at.toInt) (hp1 : s_at.toInt ≤ s_length.toInt) (hp2 : s_length.toInt ≤ n_this_bytes) (hp3 : s_length.toInt ≤ 200) (hp4 : 0 ≤ s_used.toInt) (hp5 : s_used.toInt ≤ 120) (hp6 : 0 ≤ p1.toInt) (hp7 : p1.toInt ≤ 3) (hp8 : 0 ≤ p2.toInt) (hp9 : p2.toInt ≤ 6) (hp10 : p1.toInt = 0 → 10 + 5 * (6 - p2.toInt) ≤ ((d : Int) + 1)) (hp11 : p1.toInt = 1 → 8 + 5 * (6 - p2.toInt) ≤ ((d : Int) + 1)) (hp12 : p1.toInt = 2 → 5 + 5 * (6 - p2.toInt) ≤ ((d : Int) + 1)) (hp13 : p1.toInt = 3 → 3 + 5 * (6 - p2.toInt) ≤ ((d : Int) + 1)) : Sf (b_X6_rowStands G0 G1 G2 G3 n_this_bytes s_length s_at s_used s_fault s_bytes s_code p1 p2) (fun (y : Int32 × Int32 × Int32 × Int32 × (Nat → Int32)) => ((y.1).toInt = 0 ∨ (y.1).toInt = 1) ∧ (0 ≤ (y.2.1).toInt ∧ (y.2.1).toInt ≤ s_length.toInt) ∧ (0 ≤ (y.2.2.1).toInt ∧ (y.2.2.1).toInt ≤ 120)) := by
  have g1 := rgI s_length
  have g2 := rgI s_at
  have g3 := rgI s_used
  have g4 := rgI s_fault
  have g5 := rgI p1
  have g6 := rgI p2
  have hFU : (100000 : Int) ≤ (FU : Int) := Int.ofNat_le.mpr FU_ge
  rw [b_X6_rowStands]
  refine Sf_cb5 (hsG1 n_this_bytes s_length s_at s_used s_fault s_bytes s_code p1 p2 (by omega) (by omega) (by omega) (by omega) (by omega) (by omega) (by omega) (by omega) (by omega) (by omega) (by omega) (by omega) (by omega) (by omega)) (fun r3_1 o_at3_2 o_used3_3 o_fault3_4 o_code3_5 hp7 => ?_)
  have hp7 : (r3_1.toInt = 0 ∨ r3_1.toInt = 1) ∧ (0 ≤ o_at3_2.toInt ∧ o_at3_2.toInt ≤ s_length.toInt) ∧ (0 ≤ o_used3_3.toInt ∧ o_used3_3.toInt ≤ 120) := hp7
  obtain ⟨hq8, hq9, hq10⟩ := hp7
  have g11 := rgI r3_1
  have g12 := rgI o_at3_2
  have g13 := rgI o_used3_3
  have g14 := rgI o_fault3_4
  refine Sf_ite (fun h15 => ?_) (fun h15 => ?_)
  · skip
    have l16 : (0 : Int32).toInt = 0 := by decide
    have c17 := eqI h15
    refine Sf_some (show (((0 : Int32).toInt = 0 ∨ (0 : Int32).toInt = 1)) ∧ (0 ≤ o_at3_2.toInt ∧ o_at3_2.toInt ≤ s_length.toInt) ∧ (0 ≤ o_used3_3.toInt ∧ o_used3_3.toInt ≤ 120) from ?_)
    refine ⟨?_, ?_, ?_⟩ <;> (omega)
  · skip
    have l18 : (0 : Int32).toInt = 0 := by decide
    have c19 := neI h15
    refine s_X6_rowStands_L13 s_length n_this_bytes s_bytes p1 p2 G1 d hsG1 (by omega) (by omega) (by omega) (by omega) (by omega) (by omega) (by omega) (by omega) (by omega) (by omega) (by omega)  FU 0 o_at3_2 o_fault3_4 o_used3_3 o_code3_5 (by omega) (by omega) (by omega) (by omega) (by omega) (by omega) (by omega)
set_option maxHeartbeats 4000000 in
set_option maxRecDepth 100000 in
theorem sb_X6_operandStands (G0 : Nat → Int32 → Int32 → Int32 → Int32 → (Nat → Int32) → (Nat → Int32) → Int32 → Int32 → Option (Int32 × Int32 × Int32 × Int32 × (Nat → Int32))) (G1 : Nat → Int32 → Int32 → Int32 → Int32 → (Nat → Int32) → (Nat → Int32) → Int32 → Int32 → Option (Int32 × Int32 × Int32 × Int32 × (Nat → Int32))) (G2 : Nat → Int32 → Int32 → Int32 → Int32 → (Nat → Int32) → (Nat → Int32) → Int32 → Option (Int32 × Int32 × Int32 × Int32 × (Nat → Int32))) (G3 : Nat → Int32 → Int32 → Int32 → Int32 → (Nat → Int32) → (Nat → Int32) → Int32 → Option (Int32 × Int32 × Int32 × Int32 × (Nat → Int32))) (n_this_bytes : Nat) (s_length : Int32) (s_at : Int32) (s_used : Int32) (s_fault : Int32) (s_bytes : Nat → Int32) (s_code : Nat → Int32) (p1 : Int32) (p2 : Int32) (d : Nat) (hsG0 : ∀ (n_this_bytes : Nat) (s_length : Int32) (s_at : Int32) (s_used : Int32) (s_fault : Int32) (s_bytes : Nat → Int32) (s_code : Nat → Int32) (p1 : Int32) (p2 : Int32), (0 ≤ s_at.toInt) → (s_at.toInt ≤ s_length.toInt) → (s_length.toInt ≤ n_this_bytes) → (s_length.toInt ≤ 200) → (0 ≤ s_used.toInt) → (s_used.toInt ≤ 120) → (0 ≤ p1.toInt) → (p1.toInt ≤ 3) → (0 ≤ p2.toInt) → (p2.toInt ≤ 6) → (p1.toInt = 0 → 10 + 5 * (6 - p2.toInt) ≤ (d : Int)) → (p1.toInt = 1 → 8 + 5 * (6 - p2.toInt) ≤ (d : Int)) → (p1.toInt = 2 → 5 + 5 * (6 - p2.toInt) ≤ (d : Int)) → (p1.toInt = 3 → 3 + 5 * (6 - p2.toInt) ≤ (d : Int)) → Sf (G0 n_this_bytes s_length s_at s_used s_fault s_bytes s_code p1 p2) (fun (y : Int32 × Int32 × Int32 × Int32 × (Nat → Int32)) => ((y.1).toInt = 0 ∨ (y.1).toInt = 1) ∧ (0 ≤ (y.2.1).toInt ∧ (y.2.1).toInt ≤ s_length.toInt) ∧ (0 ≤ (y.2.2.1).toInt ∧ (y.2.2.1).toInt ≤ 120))) (hsG1 : ∀ (n_this_bytes : Nat) (s_length : Int32) (s_at : Int32) (s_used : Int32) (s_fault : Int32) (s_bytes : Nat → Int32) (s_code : Nat → Int32) (p1 : Int32) (p2 : Int32), (0 ≤ s_at.toInt) → (s_at.toInt ≤ s_length.toInt) → (s_length.toInt ≤ n_this_bytes) → (s_length.toInt ≤ 200) → (0 ≤ s_used.toInt) → (s_used.toInt ≤ 120) → (0 ≤ p1.toInt) → (p1.toInt ≤ 3) → (0 ≤ p2.toInt) → (p2.toInt ≤ 6) → (p1.toInt = 0 → 9 + 5 * (6 - p2.toInt) ≤ (d : Int)) → (p1.toInt = 1 → 7 + 5 * (6 - p2.toInt) ≤ (d : Int)) → (p1.toInt = 2 → 4 + 5 * (6 - p2.toInt) ≤ (d : Int)) → (p1.toInt = 3 → 2 + 5 * (6 - p2.toInt) ≤ (d : Int)) → Sf (G1 n_this_bytes s_length s_at s_used s_fault s_bytes s_code p1 p2) (fun (y : Int32 × Int32 × Int32 × Int32 × (Nat → Int32)) => ((y.1).toInt = 0 ∨ (y.1).toInt = 1) ∧ (0 ≤ (y.2.1).toInt ∧ (y.2.1).toInt ≤ s_length.toInt) ∧ (0 ≤ (y.2.2.1).toInt ∧ (y.2.2.1).toInt ≤ 120))) (hsG2 : ∀ (n_this_bytes : Nat) (s_length : Int32) (s_at : Int32) (s_used : Int32) (s_fault : Int32) (s_bytes : Nat → Int32) (s_code : Nat → Int32) (p1 : Int32), (0 ≤ s_at.toInt) → (s_at.toInt ≤ s_length.toInt) → (s_length.toInt ≤ n_this_bytes) → (s_length.toInt ≤ 200) → (0 ≤ s_used.toInt) → (s_used.toInt ≤ 120) → (0 ≤ p1.toInt) → (p1.toInt ≤ 6) → (6 + 5 * (6 - p1.toInt) ≤ (d : Int)) → Sf (G2 n_this_bytes s_length s_at s_used s_fault s_bytes s_code p1) (fun (y : Int32 × Int32 × Int32 × Int32 × (Nat → Int32)) => ((y.1).toInt = 0 ∨ (y.1).toInt = 1) ∧ (0 ≤ (y.2.1).toInt ∧ (y.2.1).toInt ≤ s_length.toInt) ∧ (0 ≤ (y.2.2.1).toInt ∧ (y.2.2.1).toInt ≤ 120))) (hsG3 : ∀ (n_this_bytes : Nat) (s_length : Int32) (s_at : Int32) (s_used : Int32) (s_fault : Int32) (s_bytes : Nat → Int32) (s_code : Nat → Int32) (p1 : Int32), (0 ≤ s_at.toInt) → (s_at.toInt ≤ s_length.toInt) → (s_length.toInt ≤ n_this_bytes) → (s_length.toInt ≤ 200) → (0 ≤ s_used.toInt) → (s_used.toInt ≤ 120) → (0 ≤ p1.toInt) → (p1.toInt ≤ 6) → (1 + 5 * (6 - p1.toInt) ≤ (d : Int)) → Sf (G3 n_this_bytes s_length s_at s_used s_fault s_bytes s_code p1) (fun (y : Int32 × Int32 × Int32 × Int32 × (Nat → Int32)) => ((y.1).toInt = 0 ∨ (y.1).toInt = 1) ∧ (0 ≤ (y.2.1).toInt ∧ (y.2.1).toInt ≤ s_length.toInt) ∧ (0 ≤ (y.2.2.1).toInt ∧ (y.2.2.1).toInt ≤ 120))) (hp0 : 0 ≤ s_at.toInt) (hp1 : s_at.toInt ≤ s_length.toInt) (hp2 : s_length.toInt ≤ n_this_bytes) (hp3 : s_length.toInt ≤ 200) (hp4 : 0 ≤ s_used.toInt) (hp5 : s_used.toInt ≤ 120) (hp6 : 0 ≤ p1.toInt) (hp7 : p1.toInt ≤ 3) (hp8 : 0 ≤ p2.toInt) (hp9 : p2.toInt ≤ 6) (hp10 : p1.toInt = 0 → 9 + 5 * (6 - p2.toInt) ≤ ((d : Int) + 1)) (hp11 : p1.toInt = 1 → 7 + 5 * (6 - p2.toInt) ≤ ((d : Int) + 1)) (hp12 : p1.toInt = 2 → 4 + 5 * (6 - p2.toInt) ≤ ((d : Int) + 1)) (hp13 : p1.toInt = 3 → 2 + 5 * (6 - p2.toInt) ≤ ((d : Int) + 1)) : Sf (b_X6_operandStands G0 G1 G2 G3 n_this_bytes s_length s_at s_used s_fault s_bytes s_code p1 p2) (fun (y : Int32 × Int32 × Int32 × Int32 × (Nat → Int32)) => ((y.1).toInt = 0 ∨ (y.1).toInt = 1) ∧ (0 ≤ (y.2.1).toInt ∧ (y.2.1).toInt ≤ s_length.toInt) ∧ (0 ≤ (y.2.2.1).toInt ∧ (y.2.2.1).toInt ≤ 120)) := by
  have g1 := rgI s_length
  have g2 := rgI s_at
  have g3 := rgI s_used
  have g4 := rgI s_fault
  have g5 := rgI p1
  have g6 := rgI p2
  have hFU : (100000 : Int) ≤ (FU : Int) := Int.ofNat_le.mpr FU_ge
  rw [b_X6_operandStands]
  refine Sf_ite (fun h7 => ?_) (fun h7 => ?_)
  · skip
    have l8 : (0 : Int32).toInt = 0 := by decide
    have c9 := eqI h7
    have l10 : (1 : Int32).toInt = 1 := by decide
    refine Sf_cb5 (hsG0 n_this_bytes s_length s_at s_used s_fault s_bytes s_code 1 p2 (by omega) (by omega) (by omega) (by omega) (by omega) (by omega) (by omega) (by omega) (by omega) (by omega) (by omega) (by omega) (by omega) (by omega)) (fun r31_3 o_at31_4 o_used31_5 o_fault31_6 o_code31_7 hp11 => ?_)
    have hp11 : (r31_3.toInt = 0 ∨ r31_3.toInt = 1) ∧ (0 ≤ o_at31_4.toInt ∧ o_at31_4.toInt ≤ s_length.toInt) ∧ (0 ≤ o_used31_5.toInt ∧ o_used31_5.toInt ≤ 120) := hp11
    obtain ⟨hq12, hq13, hq14⟩ := hp11
    have g15 := rgI r31_3
    have g16 := rgI o_at31_4
    have g17 := rgI o_used31_5
    have g18 := rgI o_fault31_6
    refine Sf_bo (by omega) ?_
    refine Sf_some (show ((r31_3.toInt = 0 ∨ r31_3.toInt = 1)) ∧ (0 ≤ o_at31_4.toInt ∧ o_at31_4.toInt ≤ s_length.toInt) ∧ (0 ≤ o_used31_5.toInt ∧ o_used31_5.toInt ≤ 120) from ?_)
    refine ⟨?_, ?_, ?_⟩ <;> (omega)
  · skip
    have l19 : (0 : Int32).toInt = 0 := by decide
    have c20 := neI h7
    refine Sf_ite (fun h21 => ?_) (fun h21 => ?_)
    · skip
      have l22 : (1 : Int32).toInt = 1 := by decide
      have c23 := eqI h21
      refine Sf_cb5 (hsG2 n_this_bytes s_length s_at s_used s_fault s_bytes s_code p2 (by omega) (by omega) (by omega) (by omega) (by omega) (by omega) (by omega) (by omega) (by omega)) (fun r37_22 o_at37_23 o_used37_24 o_fault37_25 o_code37_26 hp24 => ?_)
      have hp24 : (r37_22.toInt = 0 ∨ r37_22.toInt = 1) ∧ (0 ≤ o_at37_23.toInt ∧ o_at37_23.toInt ≤ s_length.toInt) ∧ (0 ≤ o_used37_24.toInt ∧ o_used37_24.toInt ≤ 120) := hp24
      obtain ⟨hq25, hq26, hq27⟩ := hp24
      have g28 := rgI r37_22
      have g29 := rgI o_at37_23
      have g30 := rgI o_used37_24
      have g31 := rgI o_fault37_25
      refine Sf_bo (by omega) ?_
      refine Sf_some (show ((r37_22.toInt = 0 ∨ r37_22.toInt = 1)) ∧ (0 ≤ o_at37_23.toInt ∧ o_at37_23.toInt ≤ s_length.toInt) ∧ (0 ≤ o_used37_24.toInt ∧ o_used37_24.toInt ≤ 120) from ?_)
      refine ⟨?_, ?_, ?_⟩ <;> (omega)
    · skip
      have l32 : (1 : Int32).toInt = 1 := by decide
      have c33 := neI h21
      refine Sf_ite (fun h34 => ?_) (fun h34 => ?_)
      · skip
        have l35 : (2 : Int32).toInt = 2 := by decide
        have c36 := eqI h34
        have l37 : (3 : Int32).toInt = 3 := by decide
        refine Sf_cb5 (hsG0 n_this_bytes s_length s_at s_used s_fault s_bytes s_code 3 p2 (by omega) (by omega) (by omega) (by omega) (by omega) (by omega) (by omega) (by omega) (by omega) (by omega) (by omega) (by omega) (by omega) (by omega)) (fun r44_41 o_at44_42 o_used44_43 o_fault44_44 o_code44_45 hp38 => ?_)
        have hp38 : (r44_41.toInt = 0 ∨ r44_41.toInt = 1) ∧ (0 ≤ o_at44_42.toInt ∧ o_at44_42.toInt ≤ s_length.toInt) ∧ (0 ≤ o_used44_43.toInt ∧ o_used44_43.toInt ≤ 120) := hp38
        obtain ⟨hq39, hq40, hq41⟩ := hp38
        have g42 := rgI r44_41
        have g43 := rgI o_at44_42
        have g44 := rgI o_used44_43
        have g45 := rgI o_fault44_44
        refine Sf_bo (by omega) ?_
        refine Sf_some (show ((r44_41.toInt = 0 ∨ r44_41.toInt = 1)) ∧ (0 ≤ o_at44_42.toInt ∧ o_at44_42.toInt ≤ s_length.toInt) ∧ (0 ≤ o_used44_43.toInt ∧ o_used44_43.toInt ≤ 120) from ?_)
        refine ⟨?_, ?_, ?_⟩ <;> (omega)
      · skip
        have l46 : (2 : Int32).toInt = 2 := by decide
        have c47 := neI h34
        refine Sf_cb5 (hsG3 n_this_bytes s_length s_at s_used s_fault s_bytes s_code p2 (by omega) (by omega) (by omega) (by omega) (by omega) (by omega) (by omega) (by omega) (by omega)) (fun r50_58 o_at50_59 o_used50_60 o_fault50_61 o_code50_62 hp48 => ?_)
        have hp48 : (r50_58.toInt = 0 ∨ r50_58.toInt = 1) ∧ (0 ≤ o_at50_59.toInt ∧ o_at50_59.toInt ≤ s_length.toInt) ∧ (0 ≤ o_used50_60.toInt ∧ o_used50_60.toInt ≤ 120) := hp48
        obtain ⟨hq49, hq50, hq51⟩ := hp48
        have g52 := rgI r50_58
        have g53 := rgI o_at50_59
        have g54 := rgI o_used50_60
        have g55 := rgI o_fault50_61
        refine Sf_bo (by omega) ?_
        refine Sf_some (show ((r50_58.toInt = 0 ∨ r50_58.toInt = 1)) ∧ (0 ≤ o_at50_59.toInt ∧ o_at50_59.toInt ≤ s_length.toInt) ∧ (0 ≤ o_used50_60.toInt ∧ o_used50_60.toInt ≤ 120) from ?_)
        refine ⟨?_, ?_, ?_⟩ <;> (omega)
set_option maxHeartbeats 4000000 in
set_option maxRecDepth 100000 in
theorem sb_X6_pieceStands (G0 : Nat → Int32 → Int32 → Int32 → Int32 → (Nat → Int32) → (Nat → Int32) → Int32 → Int32 → Option (Int32 × Int32 × Int32 × Int32 × (Nat → Int32))) (G1 : Nat → Int32 → Int32 → Int32 → Int32 → (Nat → Int32) → (Nat → Int32) → Int32 → Int32 → Option (Int32 × Int32 × Int32 × Int32 × (Nat → Int32))) (G2 : Nat → Int32 → Int32 → Int32 → Int32 → (Nat → Int32) → (Nat → Int32) → Int32 → Option (Int32 × Int32 × Int32 × Int32 × (Nat → Int32))) (G3 : Nat → Int32 → Int32 → Int32 → Int32 → (Nat → Int32) → (Nat → Int32) → Int32 → Option (Int32 × Int32 × Int32 × Int32 × (Nat → Int32))) (n_this_bytes : Nat) (s_length : Int32) (s_at : Int32) (s_used : Int32) (s_fault : Int32) (s_bytes : Nat → Int32) (s_code : Nat → Int32) (p1 : Int32) (d : Nat) (hsG0 : ∀ (n_this_bytes : Nat) (s_length : Int32) (s_at : Int32) (s_used : Int32) (s_fault : Int32) (s_bytes : Nat → Int32) (s_code : Nat → Int32) (p1 : Int32) (p2 : Int32), (0 ≤ s_at.toInt) → (s_at.toInt ≤ s_length.toInt) → (s_length.toInt ≤ n_this_bytes) → (s_length.toInt ≤ 200) → (0 ≤ s_used.toInt) → (s_used.toInt ≤ 120) → (0 ≤ p1.toInt) → (p1.toInt ≤ 3) → (0 ≤ p2.toInt) → (p2.toInt ≤ 6) → (p1.toInt = 0 → 10 + 5 * (6 - p2.toInt) ≤ (d : Int)) → (p1.toInt = 1 → 8 + 5 * (6 - p2.toInt) ≤ (d : Int)) → (p1.toInt = 2 → 5 + 5 * (6 - p2.toInt) ≤ (d : Int)) → (p1.toInt = 3 → 3 + 5 * (6 - p2.toInt) ≤ (d : Int)) → Sf (G0 n_this_bytes s_length s_at s_used s_fault s_bytes s_code p1 p2) (fun (y : Int32 × Int32 × Int32 × Int32 × (Nat → Int32)) => ((y.1).toInt = 0 ∨ (y.1).toInt = 1) ∧ (0 ≤ (y.2.1).toInt ∧ (y.2.1).toInt ≤ s_length.toInt) ∧ (0 ≤ (y.2.2.1).toInt ∧ (y.2.2.1).toInt ≤ 120))) (hsG1 : ∀ (n_this_bytes : Nat) (s_length : Int32) (s_at : Int32) (s_used : Int32) (s_fault : Int32) (s_bytes : Nat → Int32) (s_code : Nat → Int32) (p1 : Int32) (p2 : Int32), (0 ≤ s_at.toInt) → (s_at.toInt ≤ s_length.toInt) → (s_length.toInt ≤ n_this_bytes) → (s_length.toInt ≤ 200) → (0 ≤ s_used.toInt) → (s_used.toInt ≤ 120) → (0 ≤ p1.toInt) → (p1.toInt ≤ 3) → (0 ≤ p2.toInt) → (p2.toInt ≤ 6) → (p1.toInt = 0 → 9 + 5 * (6 - p2.toInt) ≤ (d : Int)) → (p1.toInt = 1 → 7 + 5 * (6 - p2.toInt) ≤ (d : Int)) → (p1.toInt = 2 → 4 + 5 * (6 - p2.toInt) ≤ (d : Int)) → (p1.toInt = 3 → 2 + 5 * (6 - p2.toInt) ≤ (d : Int)) → Sf (G1 n_this_bytes s_length s_at s_used s_fault s_bytes s_code p1 p2) (fun (y : Int32 × Int32 × Int32 × Int32 × (Nat → Int32)) => ((y.1).toInt = 0 ∨ (y.1).toInt = 1) ∧ (0 ≤ (y.2.1).toInt ∧ (y.2.1).toInt ≤ s_length.toInt) ∧ (0 ≤ (y.2.2.1).toInt ∧ (y.2.2.1).toInt ≤ 120))) (hsG2 : ∀ (n_this_bytes : Nat) (s_length : Int32) (s_at : Int32) (s_used : Int32) (s_fault : Int32) (s_bytes : Nat → Int32) (s_code : Nat → Int32) (p1 : Int32), (0 ≤ s_at.toInt) → (s_at.toInt ≤ s_length.toInt) → (s_length.toInt ≤ n_this_bytes) → (s_length.toInt ≤ 200) → (0 ≤ s_used.toInt) → (s_used.toInt ≤ 120) → (0 ≤ p1.toInt) → (p1.toInt ≤ 6) → (6 + 5 * (6 - p1.toInt) ≤ (d : Int)) → Sf (G2 n_this_bytes s_length s_at s_used s_fault s_bytes s_code p1) (fun (y : Int32 × Int32 × Int32 × Int32 × (Nat → Int32)) => ((y.1).toInt = 0 ∨ (y.1).toInt = 1) ∧ (0 ≤ (y.2.1).toInt ∧ (y.2.1).toInt ≤ s_length.toInt) ∧ (0 ≤ (y.2.2.1).toInt ∧ (y.2.2.1).toInt ≤ 120))) (hsG3 : ∀ (n_this_bytes : Nat) (s_length : Int32) (s_at : Int32) (s_used : Int32) (s_fault : Int32) (s_bytes : Nat → Int32) (s_code : Nat → Int32) (p1 : Int32), (0 ≤ s_at.toInt) → (s_at.toInt ≤ s_length.toInt) → (s_length.toInt ≤ n_this_bytes) → (s_length.toInt ≤ 200) → (0 ≤ s_used.toInt) → (s_used.toInt ≤ 120) → (0 ≤ p1.toInt) → (p1.toInt ≤ 6) → (1 + 5 * (6 - p1.toInt) ≤ (d : Int)) → Sf (G3 n_this_bytes s_length s_at s_used s_fault s_bytes s_code p1) (fun (y : Int32 × Int32 × Int32 × Int32 × (Nat → Int32)) => ((y.1).toInt = 0 ∨ (y.1).toInt = 1) ∧ (0 ≤ (y.2.1).toInt ∧ (y.2.1).toInt ≤ s_length.toInt) ∧ (0 ≤ (y.2.2.1).toInt ∧ (y.2.2.1).toInt ≤ 120))) (hp0 : 0 ≤ s_at.toInt) (hp1 : s_at.toInt ≤ s_length.toInt) (hp2 : s_length.toInt ≤ n_this_bytes) (hp3 : s_length.toInt ≤ 200) (hp4 : 0 ≤ s_used.toInt) (hp5 : s_used.toInt ≤ 120) (hp6 : 0 ≤ p1.toInt) (hp7 : p1.toInt ≤ 6) (hp8 : 6 + 5 * (6 - p1.toInt) ≤ ((d : Int) + 1)) : Sf (b_X6_pieceStands G0 G1 G2 G3 n_this_bytes s_length s_at s_used s_fault s_bytes s_code p1) (fun (y : Int32 × Int32 × Int32 × Int32 × (Nat → Int32)) => ((y.1).toInt = 0 ∨ (y.1).toInt = 1) ∧ (0 ≤ (y.2.1).toInt ∧ (y.2.1).toInt ≤ s_length.toInt) ∧ (0 ≤ (y.2.2.1).toInt ∧ (y.2.2.1).toInt ≤ 120)) := by
  have g1 := rgI s_length
  have g2 := rgI s_at
  have g3 := rgI s_used
  have g4 := rgI s_fault
  have g5 := rgI p1
  have hFU : (100000 : Int) ≤ (FU : Int) := Int.ofNat_le.mpr FU_ge
  rw [b_X6_pieceStands]
  refine Sf_cb1 (s_X6_next n_this_bytes s_length s_at s_bytes (by omega) (by omega)) (fun r1_1 hp6 => ?_)
  have hp6 : (r1_1.toInt = -1 ∨ s_at.toInt < s_length.toInt) := hp6
  have g7 := rgI r1_1
  refine Sf_ite (fun h8 => ?_) (fun h8 => ?_)
  · skip
    have l9 : (33 : Int32).toInt = 33 := by decide
    have c10 := eqI h8
    rw [b_X6_pieceStands_J17]
    refine Sf_ite (fun h11 => ?_) (fun h11 => ?_)
    · skip
      have l12 : (6 : Int32).toInt = 6 := by decide
      have c13 := ltI h11
      refine Sf_nmI (fun v36_14 hv14 => ?_)
      have g15 := rgI (s_at + 1)
      first | have e16 := adN s_at 1 (1) (by decide) (by omega) (by omega) | skip
      have q17 := eqI hv14
      refine Sf_ite (fun h18 => ?_) (fun h18 => ?_)
      · skip
        have l19 : (40 : Int32).toInt = 40 := by decide
        have c20 := eqI h18
        have l21 : (0 : Int32).toInt = 0 := by decide
        have g22 := rgI (p1 + 1)
        first | have e23 := adN p1 1 (1) (by decide) (by omega) (by omega) | skip
        refine Sf_cb5 (hsG0 n_this_bytes s_length v36_14 s_used s_fault s_bytes s_code 0 (p1 + 1) (by omega) (by omega) (by omega) (by omega) (by omega) (by omega) (by omega) (by omega) (by omega) (by omega) (by omega) (by omega) (by omega) (by omega)) (fun r50_49 o_at50_50 o_used50_51 o_fault50_52 o_code50_53 hp24 => ?_)
        have hp24 : (r50_49.toInt = 0 ∨ r50_49.toInt = 1) ∧ (0 ≤ o_at50_50.toInt ∧ o_at50_50.toInt ≤ s_length.toInt) ∧ (0 ≤ o_used50_51.toInt ∧ o_used50_51.toInt ≤ 120) := hp24
        obtain ⟨hq25, hq26, hq27⟩ := hp24
        have g28 := rgI r50_49
        have g29 := rgI o_at50_50
        have g30 := rgI o_used50_51
        have g31 := rgI o_fault50_52
        refine Sf_ite (fun h32 => ?_) (fun h32 => ?_)
        · skip
          have c33 := eqI h32
          refine Sf_some (show (((0 : Int32).toInt = 0 ∨ (0 : Int32).toInt = 1)) ∧ (0 ≤ o_at50_50.toInt ∧ o_at50_50.toInt ≤ s_length.toInt) ∧ (0 ≤ o_used50_51.toInt ∧ o_used50_51.toInt ≤ 120) from ?_)
          refine ⟨?_, ?_, ?_⟩ <;> (omega)
        · skip
          have c34 := neI h32
          have l35 : (41 : Int32).toInt = 41 := by decide
          refine Sf_cb3 (s_X6_signStands n_this_bytes s_length o_at50_50 o_fault50_52 s_bytes 41 (by omega) (by omega) (by omega) (by omega)) (fun r59_66 o_at59_67 o_fault59_68 hp36 => ?_)
          have hp36 : ((r59_66.toInt = 0 ∨ r59_66.toInt = 1)) ∧ (0 ≤ o_at59_67.toInt ∧ o_at59_67.toInt ≤ s_length.toInt) := hp36
          obtain ⟨hq37, hq38⟩ := hp36
          have g39 := rgI r59_66
          have g40 := rgI o_at59_67
          have g41 := rgI o_fault59_68
          refine Sf_ite (fun h42 => ?_) (fun h42 => ?_)
          · skip
            have c43 := eqI h42
            refine Sf_some (show (((0 : Int32).toInt = 0 ∨ (0 : Int32).toInt = 1)) ∧ (0 ≤ o_at59_67.toInt ∧ o_at59_67.toInt ≤ s_length.toInt) ∧ (0 ≤ o_used50_51.toInt ∧ o_used50_51.toInt ≤ 120) from ?_)
            refine ⟨?_, ?_, ?_⟩ <;> (omega)
          · skip
            have c44 := neI h42
            have l45 : (1 : Int32).toInt = 1 := by decide
            refine Sf_some (show (((1 : Int32).toInt = 0 ∨ (1 : Int32).toInt = 1)) ∧ (0 ≤ o_at59_67.toInt ∧ o_at59_67.toInt ≤ s_length.toInt) ∧ (0 ≤ o_used50_51.toInt ∧ o_used50_51.toInt ≤ 120) from ?_)
            refine ⟨?_, ?_, ?_⟩ <;> (omega)
      · skip
        have l46 : (40 : Int32).toInt = 40 := by decide
        have c47 := neI h18
        have g48 := rgI (p1 + 1)
        first | have e49 := adN p1 1 (1) (by decide) (by omega) (by omega) | skip
        refine Sf_cb5 (hsG2 n_this_bytes s_length v36_14 s_used s_fault s_bytes s_code (p1 + 1) (by omega) (by omega) (by omega) (by omega) (by omega) (by omega) (by omega) (by omega) (by omega)) (fun r75_21 o_at75_22 o_used75_23 o_fault75_24 o_code75_25 hp50 => ?_)
        have hp50 : (r75_21.toInt = 0 ∨ r75_21.toInt = 1) ∧ (0 ≤ o_at75_22.toInt ∧ o_at75_22.toInt ≤ s_length.toInt) ∧ (0 ≤ o_used75_23.toInt ∧ o_used75_23.toInt ≤ 120) := hp50
        obtain ⟨hq51, hq52, hq53⟩ := hp50
        have g54 := rgI r75_21
        have g55 := rgI o_at75_22
        have g56 := rgI o_used75_23
        have g57 := rgI o_fault75_24
        refine Sf_ite (fun h58 => ?_) (fun h58 => ?_)
        · skip
          have l59 : (0 : Int32).toInt = 0 := by decide
          have c60 := eqI h58
          refine Sf_some (show (((0 : Int32).toInt = 0 ∨ (0 : Int32).toInt = 1)) ∧ (0 ≤ o_at75_22.toInt ∧ o_at75_22.toInt ≤ s_length.toInt) ∧ (0 ≤ o_used75_23.toInt ∧ o_used75_23.toInt ≤ 120) from ?_)
          refine ⟨?_, ?_, ?_⟩ <;> (omega)
        · skip
          have l61 : (0 : Int32).toInt = 0 := by decide
          have c62 := neI h58
          refine Sf_cb2 (s_X6_put o_used75_23 o_code75_25 33 0 (by omega) (by omega)) (fun o_used87_33 o_code87_34 hp63 => ?_)
          have hp63 : (o_used75_23.toInt ≤ o_used87_33.toInt ∧ o_used87_33.toInt ≤ 120) := hp63
          have g64 := rgI o_used87_33
          have l65 : (1 : Int32).toInt = 1 := by decide
          refine Sf_some (show (((1 : Int32).toInt = 0 ∨ (1 : Int32).toInt = 1)) ∧ (0 ≤ o_at75_22.toInt ∧ o_at75_22.toInt ≤ s_length.toInt) ∧ (0 ≤ o_used87_33.toInt ∧ o_used87_33.toInt ≤ 120) from ?_)
          refine ⟨?_, ?_, ?_⟩ <;> (omega)
    · skip
      have l66 : (6 : Int32).toInt = 6 := by decide
      have c67 := nltI h11
      have l68 : (5 : Int32).toInt = 5 := by decide
      refine Sf_cb2 (s_X6_fail s_fault 5 ) (fun r25_86 o_fault25_87 hp69 => ?_)
      have hp69 : ((r25_86.toInt = 0 ∨ r25_86.toInt = 1)) ∧ (r25_86.toInt = 0) := hp69
      obtain ⟨hq70, hq71⟩ := hp69
      have g72 := rgI r25_86
      have g73 := rgI o_fault25_87
      refine Sf_bo (by omega) ?_
      refine Sf_some (show ((r25_86.toInt = 0 ∨ r25_86.toInt = 1)) ∧ (0 ≤ s_at.toInt ∧ s_at.toInt ≤ s_length.toInt) ∧ (0 ≤ s_used.toInt ∧ s_used.toInt ≤ 120) from ?_)
      refine ⟨?_, ?_, ?_⟩ <;> (omega)
  · skip
    have l74 : (33 : Int32).toInt = 33 := by decide
    have c75 := neI h8
    refine Sf_ite (fun h76 => ?_) (fun h76 => ?_)
    · skip
      have l77 : (40 : Int32).toInt = 40 := by decide
      have c78 := eqI h76
      rw [b_X6_pieceStands_J17]
      refine Sf_ite (fun h79 => ?_) (fun h79 => ?_)
      · skip
        have l80 : (6 : Int32).toInt = 6 := by decide
        have c81 := ltI h79
        refine Sf_nmI (fun v36_14 hv82 => ?_)
        have g83 := rgI (s_at + 1)
        first | have e84 := adN s_at 1 (1) (by decide) (by omega) (by omega) | skip
        have q85 := eqI hv82
        refine Sf_ite (fun h86 => ?_) (fun h86 => ?_)
        · skip
          have c87 := eqI h86
          have l88 : (0 : Int32).toInt = 0 := by decide
          have g89 := rgI (p1 + 1)
          first | have e90 := adN p1 1 (1) (by decide) (by omega) (by omega) | skip
          refine Sf_cb5 (hsG0 n_this_bytes s_length v36_14 s_used s_fault s_bytes s_code 0 (p1 + 1) (by omega) (by omega) (by omega) (by omega) (by omega) (by omega) (by omega) (by omega) (by omega) (by omega) (by omega) (by omega) (by omega) (by omega)) (fun r50_49 o_at50_50 o_used50_51 o_fault50_52 o_code50_53 hp91 => ?_)
          have hp91 : (r50_49.toInt = 0 ∨ r50_49.toInt = 1) ∧ (0 ≤ o_at50_50.toInt ∧ o_at50_50.toInt ≤ s_length.toInt) ∧ (0 ≤ o_used50_51.toInt ∧ o_used50_51.toInt ≤ 120) := hp91
          obtain ⟨hq92, hq93, hq94⟩ := hp91
          have g95 := rgI r50_49
          have g96 := rgI o_at50_50
          have g97 := rgI o_used50_51
          have g98 := rgI o_fault50_52
          refine Sf_ite (fun h99 => ?_) (fun h99 => ?_)
          · skip
            have c100 := eqI h99
            refine Sf_some (show (((0 : Int32).toInt = 0 ∨ (0 : Int32).toInt = 1)) ∧ (0 ≤ o_at50_50.toInt ∧ o_at50_50.toInt ≤ s_length.toInt) ∧ (0 ≤ o_used50_51.toInt ∧ o_used50_51.toInt ≤ 120) from ?_)
            refine ⟨?_, ?_, ?_⟩ <;> (omega)
          · skip
            have c101 := neI h99
            have l102 : (41 : Int32).toInt = 41 := by decide
            refine Sf_cb3 (s_X6_signStands n_this_bytes s_length o_at50_50 o_fault50_52 s_bytes 41 (by omega) (by omega) (by omega) (by omega)) (fun r59_66 o_at59_67 o_fault59_68 hp103 => ?_)
            have hp103 : ((r59_66.toInt = 0 ∨ r59_66.toInt = 1)) ∧ (0 ≤ o_at59_67.toInt ∧ o_at59_67.toInt ≤ s_length.toInt) := hp103
            obtain ⟨hq104, hq105⟩ := hp103
            have g106 := rgI r59_66
            have g107 := rgI o_at59_67
            have g108 := rgI o_fault59_68
            refine Sf_ite (fun h109 => ?_) (fun h109 => ?_)
            · skip
              have c110 := eqI h109
              refine Sf_some (show (((0 : Int32).toInt = 0 ∨ (0 : Int32).toInt = 1)) ∧ (0 ≤ o_at59_67.toInt ∧ o_at59_67.toInt ≤ s_length.toInt) ∧ (0 ≤ o_used50_51.toInt ∧ o_used50_51.toInt ≤ 120) from ?_)
              refine ⟨?_, ?_, ?_⟩ <;> (omega)
            · skip
              have c111 := neI h109
              have l112 : (1 : Int32).toInt = 1 := by decide
              refine Sf_some (show (((1 : Int32).toInt = 0 ∨ (1 : Int32).toInt = 1)) ∧ (0 ≤ o_at59_67.toInt ∧ o_at59_67.toInt ≤ s_length.toInt) ∧ (0 ≤ o_used50_51.toInt ∧ o_used50_51.toInt ≤ 120) from ?_)
              refine ⟨?_, ?_, ?_⟩ <;> (omega)
        · skip
          have c113 := neI h86
          have g114 := rgI (p1 + 1)
          first | have e115 := adN p1 1 (1) (by decide) (by omega) (by omega) | skip
          refine Sf_cb5 (hsG2 n_this_bytes s_length v36_14 s_used s_fault s_bytes s_code (p1 + 1) (by omega) (by omega) (by omega) (by omega) (by omega) (by omega) (by omega) (by omega) (by omega)) (fun r75_21 o_at75_22 o_used75_23 o_fault75_24 o_code75_25 hp116 => ?_)
          have hp116 : (r75_21.toInt = 0 ∨ r75_21.toInt = 1) ∧ (0 ≤ o_at75_22.toInt ∧ o_at75_22.toInt ≤ s_length.toInt) ∧ (0 ≤ o_used75_23.toInt ∧ o_used75_23.toInt ≤ 120) := hp116
          obtain ⟨hq117, hq118, hq119⟩ := hp116
          have g120 := rgI r75_21
          have g121 := rgI o_at75_22
          have g122 := rgI o_used75_23
          have g123 := rgI o_fault75_24
          refine Sf_ite (fun h124 => ?_) (fun h124 => ?_)
          · skip
            have l125 : (0 : Int32).toInt = 0 := by decide
            have c126 := eqI h124
            refine Sf_some (show (((0 : Int32).toInt = 0 ∨ (0 : Int32).toInt = 1)) ∧ (0 ≤ o_at75_22.toInt ∧ o_at75_22.toInt ≤ s_length.toInt) ∧ (0 ≤ o_used75_23.toInt ∧ o_used75_23.toInt ≤ 120) from ?_)
            refine ⟨?_, ?_, ?_⟩ <;> (omega)
          · skip
            have l127 : (0 : Int32).toInt = 0 := by decide
            have c128 := neI h124
            refine Sf_cb2 (s_X6_put o_used75_23 o_code75_25 33 0 (by omega) (by omega)) (fun o_used87_33 o_code87_34 hp129 => ?_)
            have hp129 : (o_used75_23.toInt ≤ o_used87_33.toInt ∧ o_used87_33.toInt ≤ 120) := hp129
            have g130 := rgI o_used87_33
            have l131 : (1 : Int32).toInt = 1 := by decide
            refine Sf_some (show (((1 : Int32).toInt = 0 ∨ (1 : Int32).toInt = 1)) ∧ (0 ≤ o_at75_22.toInt ∧ o_at75_22.toInt ≤ s_length.toInt) ∧ (0 ≤ o_used87_33.toInt ∧ o_used87_33.toInt ≤ 120) from ?_)
            refine ⟨?_, ?_, ?_⟩ <;> (omega)
      · skip
        have l132 : (6 : Int32).toInt = 6 := by decide
        have c133 := nltI h79
        have l134 : (5 : Int32).toInt = 5 := by decide
        refine Sf_cb2 (s_X6_fail s_fault 5 ) (fun r25_86 o_fault25_87 hp135 => ?_)
        have hp135 : ((r25_86.toInt = 0 ∨ r25_86.toInt = 1)) ∧ (r25_86.toInt = 0) := hp135
        obtain ⟨hq136, hq137⟩ := hp135
        have g138 := rgI r25_86
        have g139 := rgI o_fault25_87
        refine Sf_bo (by omega) ?_
        refine Sf_some (show ((r25_86.toInt = 0 ∨ r25_86.toInt = 1)) ∧ (0 ≤ s_at.toInt ∧ s_at.toInt ≤ s_length.toInt) ∧ (0 ≤ s_used.toInt ∧ s_used.toInt ≤ 120) from ?_)
        refine ⟨?_, ?_, ?_⟩ <;> (omega)
    · skip
      have l140 : (40 : Int32).toInt = 40 := by decide
      have c141 := neI h76
      have l142 : (2 : Int32).toInt = 2 := by decide
      refine Sf_cb5 (hsG0 n_this_bytes s_length s_at s_used s_fault s_bytes s_code 2 p1 (by omega) (by omega) (by omega) (by omega) (by omega) (by omega) (by omega) (by omega) (by omega) (by omega) (by omega) (by omega) (by omega) (by omega)) (fun r95_105 o_at95_106 o_used95_107 o_fault95_108 o_code95_109 hp143 => ?_)
      have hp143 : (r95_105.toInt = 0 ∨ r95_105.toInt = 1) ∧ (0 ≤ o_at95_106.toInt ∧ o_at95_106.toInt ≤ s_length.toInt) ∧ (0 ≤ o_used95_107.toInt ∧ o_used95_107.toInt ≤ 120) := hp143
      obtain ⟨hq144, hq145, hq146⟩ := hp143
      have g147 := rgI r95_105
      have g148 := rgI o_at95_106
      have g149 := rgI o_used95_107
      have g150 := rgI o_fault95_108
      refine Sf_ite (fun h151 => ?_) (fun h151 => ?_)
      · skip
        have l152 : (0 : Int32).toInt = 0 := by decide
        have c153 := eqI h151
        refine Sf_some (show (((0 : Int32).toInt = 0 ∨ (0 : Int32).toInt = 1)) ∧ (0 ≤ o_at95_106.toInt ∧ o_at95_106.toInt ≤ s_length.toInt) ∧ (0 ≤ o_used95_107.toInt ∧ o_used95_107.toInt ≤ 120) from ?_)
        refine ⟨?_, ?_, ?_⟩ <;> (omega)
      · skip
        have l154 : (0 : Int32).toInt = 0 := by decide
        have c155 := neI h151
        refine Sf_cb1 (s_X6_next n_this_bytes s_length o_at95_106 s_bytes (by omega) (by omega)) (fun r104_117 hp156 => ?_)
        have hp156 : (r104_117.toInt = -1 ∨ o_at95_106.toInt < s_length.toInt) := hp156
        have g157 := rgI r104_117
        refine Sf_ite (fun h158 => ?_) (fun h158 => ?_)
        · skip
          have l159 : (60 : Int32).toInt = 60 := by decide
          have c160 := eqI h158
          rw [b_X6_pieceStands_J132]
          refine Sf_nmI (fun v139_124 hv161 => ?_)
          have g162 := rgI (o_at95_106 + 1)
          first | have e163 := adN o_at95_106 1 (1) (by decide) (by omega) (by omega) | skip
          have q164 := eqI hv161
          refine Sf_cb5 (hsG0 n_this_bytes s_length v139_124 o_used95_107 o_fault95_108 s_bytes o_code95_109 2 p1 (by omega) (by omega) (by omega) (by omega) (by omega) (by omega) (by omega) (by omega) (by omega) (by omega) (by omega) (by omega) (by omega) (by omega)) (fun r145_128 o_at145_129 o_used145_130 o_fault145_131 o_code145_132 hp165 => ?_)
          have hp165 : (r145_128.toInt = 0 ∨ r145_128.toInt = 1) ∧ (0 ≤ o_at145_129.toInt ∧ o_at145_129.toInt ≤ s_length.toInt) ∧ (0 ≤ o_used145_130.toInt ∧ o_used145_130.toInt ≤ 120) := hp165
          obtain ⟨hq166, hq167, hq168⟩ := hp165
          have g169 := rgI r145_128
          have g170 := rgI o_at145_129
          have g171 := rgI o_used145_130
          have g172 := rgI o_fault145_131
          refine Sf_ite (fun h173 => ?_) (fun h173 => ?_)
          · skip
            have c174 := eqI h173
            refine Sf_some (show (((0 : Int32).toInt = 0 ∨ (0 : Int32).toInt = 1)) ∧ (0 ≤ o_at145_129.toInt ∧ o_at145_129.toInt ≤ s_length.toInt) ∧ (0 ≤ o_used145_130.toInt ∧ o_used145_130.toInt ≤ 120) from ?_)
            refine ⟨?_, ?_, ?_⟩ <;> (omega)
          · skip
            have c175 := neI h173
            refine Sf_cb2 (s_X6_put o_used145_130 o_code145_132 r104_117 0 (by omega) (by omega)) (fun o_used156_140 o_code156_141 hp176 => ?_)
            have hp176 : (o_used145_130.toInt ≤ o_used156_140.toInt ∧ o_used156_140.toInt ≤ 120) := hp176
            have g177 := rgI o_used156_140
            have l178 : (1 : Int32).toInt = 1 := by decide
            refine Sf_some (show (((1 : Int32).toInt = 0 ∨ (1 : Int32).toInt = 1)) ∧ (0 ≤ o_at145_129.toInt ∧ o_at145_129.toInt ≤ s_length.toInt) ∧ (0 ≤ o_used156_140.toInt ∧ o_used156_140.toInt ≤ 120) from ?_)
            refine ⟨?_, ?_, ?_⟩ <;> (omega)
        · skip
          have l179 : (60 : Int32).toInt = 60 := by decide
          have c180 := neI h158
          refine Sf_ite (fun h181 => ?_) (fun h181 => ?_)
          · skip
            have l182 : (62 : Int32).toInt = 62 := by decide
            have c183 := eqI h181
            rw [b_X6_pieceStands_J132]
            refine Sf_nmI (fun v139_124 hv184 => ?_)
            have g185 := rgI (o_at95_106 + 1)
            first | have e186 := adN o_at95_106 1 (1) (by decide) (by omega) (by omega) | skip
            have q187 := eqI hv184
            refine Sf_cb5 (hsG0 n_this_bytes s_length v139_124 o_used95_107 o_fault95_108 s_bytes o_code95_109 2 p1 (by omega) (by omega) (by omega) (by omega) (by omega) (by omega) (by omega) (by omega) (by omega) (by omega) (by omega) (by omega) (by omega) (by omega)) (fun r145_128 o_at145_129 o_used145_130 o_fault145_131 o_code145_132 hp188 => ?_)
            have hp188 : (r145_128.toInt = 0 ∨ r145_128.toInt = 1) ∧ (0 ≤ o_at145_129.toInt ∧ o_at145_129.toInt ≤ s_length.toInt) ∧ (0 ≤ o_used145_130.toInt ∧ o_used145_130.toInt ≤ 120) := hp188
            obtain ⟨hq189, hq190, hq191⟩ := hp188
            have g192 := rgI r145_128
            have g193 := rgI o_at145_129
            have g194 := rgI o_used145_130
            have g195 := rgI o_fault145_131
            refine Sf_ite (fun h196 => ?_) (fun h196 => ?_)
            · skip
              have c197 := eqI h196
              refine Sf_some (show (((0 : Int32).toInt = 0 ∨ (0 : Int32).toInt = 1)) ∧ (0 ≤ o_at145_129.toInt ∧ o_at145_129.toInt ≤ s_length.toInt) ∧ (0 ≤ o_used145_130.toInt ∧ o_used145_130.toInt ≤ 120) from ?_)
              refine ⟨?_, ?_, ?_⟩ <;> (omega)
            · skip
              have c198 := neI h196
              refine Sf_cb2 (s_X6_put o_used145_130 o_code145_132 r104_117 0 (by omega) (by omega)) (fun o_used156_140 o_code156_141 hp199 => ?_)
              have hp199 : (o_used145_130.toInt ≤ o_used156_140.toInt ∧ o_used156_140.toInt ≤ 120) := hp199
              have g200 := rgI o_used156_140
              have l201 : (1 : Int32).toInt = 1 := by decide
              refine Sf_some (show (((1 : Int32).toInt = 0 ∨ (1 : Int32).toInt = 1)) ∧ (0 ≤ o_at145_129.toInt ∧ o_at145_129.toInt ≤ s_length.toInt) ∧ (0 ≤ o_used156_140.toInt ∧ o_used156_140.toInt ≤ 120) from ?_)
              refine ⟨?_, ?_, ?_⟩ <;> (omega)
          · skip
            have l202 : (62 : Int32).toInt = 62 := by decide
            have c203 := neI h181
            refine Sf_ite (fun h204 => ?_) (fun h204 => ?_)
            · skip
              have l205 : (61 : Int32).toInt = 61 := by decide
              have c206 := eqI h204
              rw [b_X6_pieceStands_J132]
              refine Sf_nmI (fun v139_124 hv207 => ?_)
              have g208 := rgI (o_at95_106 + 1)
              first | have e209 := adN o_at95_106 1 (1) (by decide) (by omega) (by omega) | skip
              have q210 := eqI hv207
              refine Sf_cb5 (hsG0 n_this_bytes s_length v139_124 o_used95_107 o_fault95_108 s_bytes o_code95_109 2 p1 (by omega) (by omega) (by omega) (by omega) (by omega) (by omega) (by omega) (by omega) (by omega) (by omega) (by omega) (by omega) (by omega) (by omega)) (fun r145_128 o_at145_129 o_used145_130 o_fault145_131 o_code145_132 hp211 => ?_)
              have hp211 : (r145_128.toInt = 0 ∨ r145_128.toInt = 1) ∧ (0 ≤ o_at145_129.toInt ∧ o_at145_129.toInt ≤ s_length.toInt) ∧ (0 ≤ o_used145_130.toInt ∧ o_used145_130.toInt ≤ 120) := hp211
              obtain ⟨hq212, hq213, hq214⟩ := hp211
              have g215 := rgI r145_128
              have g216 := rgI o_at145_129
              have g217 := rgI o_used145_130
              have g218 := rgI o_fault145_131
              refine Sf_ite (fun h219 => ?_) (fun h219 => ?_)
              · skip
                have c220 := eqI h219
                refine Sf_some (show (((0 : Int32).toInt = 0 ∨ (0 : Int32).toInt = 1)) ∧ (0 ≤ o_at145_129.toInt ∧ o_at145_129.toInt ≤ s_length.toInt) ∧ (0 ≤ o_used145_130.toInt ∧ o_used145_130.toInt ≤ 120) from ?_)
                refine ⟨?_, ?_, ?_⟩ <;> (omega)
              · skip
                have c221 := neI h219
                refine Sf_cb2 (s_X6_put o_used145_130 o_code145_132 r104_117 0 (by omega) (by omega)) (fun o_used156_140 o_code156_141 hp222 => ?_)
                have hp222 : (o_used145_130.toInt ≤ o_used156_140.toInt ∧ o_used156_140.toInt ≤ 120) := hp222
                have g223 := rgI o_used156_140
                have l224 : (1 : Int32).toInt = 1 := by decide
                refine Sf_some (show (((1 : Int32).toInt = 0 ∨ (1 : Int32).toInt = 1)) ∧ (0 ≤ o_at145_129.toInt ∧ o_at145_129.toInt ≤ s_length.toInt) ∧ (0 ≤ o_used156_140.toInt ∧ o_used156_140.toInt ≤ 120) from ?_)
                refine ⟨?_, ?_, ?_⟩ <;> (omega)
            · skip
              have l225 : (61 : Int32).toInt = 61 := by decide
              have c226 := neI h204
              have l227 : (1 : Int32).toInt = 1 := by decide
              refine Sf_cb2 (s_X6_fail o_fault95_108 1 ) (fun r128_165 o_fault128_166 hp228 => ?_)
              have hp228 : ((r128_165.toInt = 0 ∨ r128_165.toInt = 1)) ∧ (r128_165.toInt = 0) := hp228
              obtain ⟨hq229, hq230⟩ := hp228
              have g231 := rgI r128_165
              have g232 := rgI o_fault128_166
              refine Sf_bo (by omega) ?_
              refine Sf_some (show ((r128_165.toInt = 0 ∨ r128_165.toInt = 1)) ∧ (0 ≤ o_at95_106.toInt ∧ o_at95_106.toInt ≤ s_length.toInt) ∧ (0 ≤ o_used95_107.toInt ∧ o_used95_107.toInt ≤ 120) from ?_)
              refine ⟨?_, ?_, ?_⟩ <;> (omega)
set_option maxHeartbeats 4000000 in
set_option maxRecDepth 100000 in
theorem sb_X6_factorStands (G0 : Nat → Int32 → Int32 → Int32 → Int32 → (Nat → Int32) → (Nat → Int32) → Int32 → Int32 → Option (Int32 × Int32 × Int32 × Int32 × (Nat → Int32))) (G1 : Nat → Int32 → Int32 → Int32 → Int32 → (Nat → Int32) → (Nat → Int32) → Int32 → Int32 → Option (Int32 × Int32 × Int32 × Int32 × (Nat → Int32))) (G2 : Nat → Int32 → Int32 → Int32 → Int32 → (Nat → Int32) → (Nat → Int32) → Int32 → Option (Int32 × Int32 × Int32 × Int32 × (Nat → Int32))) (G3 : Nat → Int32 → Int32 → Int32 → Int32 → (Nat → Int32) → (Nat → Int32) → Int32 → Option (Int32 × Int32 × Int32 × Int32 × (Nat → Int32))) (n_this_bytes : Nat) (s_length : Int32) (s_at : Int32) (s_used : Int32) (s_fault : Int32) (s_bytes : Nat → Int32) (s_code : Nat → Int32) (p1 : Int32) (d : Nat) (hsG0 : ∀ (n_this_bytes : Nat) (s_length : Int32) (s_at : Int32) (s_used : Int32) (s_fault : Int32) (s_bytes : Nat → Int32) (s_code : Nat → Int32) (p1 : Int32) (p2 : Int32), (0 ≤ s_at.toInt) → (s_at.toInt ≤ s_length.toInt) → (s_length.toInt ≤ n_this_bytes) → (s_length.toInt ≤ 200) → (0 ≤ s_used.toInt) → (s_used.toInt ≤ 120) → (0 ≤ p1.toInt) → (p1.toInt ≤ 3) → (0 ≤ p2.toInt) → (p2.toInt ≤ 6) → (p1.toInt = 0 → 10 + 5 * (6 - p2.toInt) ≤ (d : Int)) → (p1.toInt = 1 → 8 + 5 * (6 - p2.toInt) ≤ (d : Int)) → (p1.toInt = 2 → 5 + 5 * (6 - p2.toInt) ≤ (d : Int)) → (p1.toInt = 3 → 3 + 5 * (6 - p2.toInt) ≤ (d : Int)) → Sf (G0 n_this_bytes s_length s_at s_used s_fault s_bytes s_code p1 p2) (fun (y : Int32 × Int32 × Int32 × Int32 × (Nat → Int32)) => ((y.1).toInt = 0 ∨ (y.1).toInt = 1) ∧ (0 ≤ (y.2.1).toInt ∧ (y.2.1).toInt ≤ s_length.toInt) ∧ (0 ≤ (y.2.2.1).toInt ∧ (y.2.2.1).toInt ≤ 120))) (hsG1 : ∀ (n_this_bytes : Nat) (s_length : Int32) (s_at : Int32) (s_used : Int32) (s_fault : Int32) (s_bytes : Nat → Int32) (s_code : Nat → Int32) (p1 : Int32) (p2 : Int32), (0 ≤ s_at.toInt) → (s_at.toInt ≤ s_length.toInt) → (s_length.toInt ≤ n_this_bytes) → (s_length.toInt ≤ 200) → (0 ≤ s_used.toInt) → (s_used.toInt ≤ 120) → (0 ≤ p1.toInt) → (p1.toInt ≤ 3) → (0 ≤ p2.toInt) → (p2.toInt ≤ 6) → (p1.toInt = 0 → 9 + 5 * (6 - p2.toInt) ≤ (d : Int)) → (p1.toInt = 1 → 7 + 5 * (6 - p2.toInt) ≤ (d : Int)) → (p1.toInt = 2 → 4 + 5 * (6 - p2.toInt) ≤ (d : Int)) → (p1.toInt = 3 → 2 + 5 * (6 - p2.toInt) ≤ (d : Int)) → Sf (G1 n_this_bytes s_length s_at s_used s_fault s_bytes s_code p1 p2) (fun (y : Int32 × Int32 × Int32 × Int32 × (Nat → Int32)) => ((y.1).toInt = 0 ∨ (y.1).toInt = 1) ∧ (0 ≤ (y.2.1).toInt ∧ (y.2.1).toInt ≤ s_length.toInt) ∧ (0 ≤ (y.2.2.1).toInt ∧ (y.2.2.1).toInt ≤ 120))) (hsG2 : ∀ (n_this_bytes : Nat) (s_length : Int32) (s_at : Int32) (s_used : Int32) (s_fault : Int32) (s_bytes : Nat → Int32) (s_code : Nat → Int32) (p1 : Int32), (0 ≤ s_at.toInt) → (s_at.toInt ≤ s_length.toInt) → (s_length.toInt ≤ n_this_bytes) → (s_length.toInt ≤ 200) → (0 ≤ s_used.toInt) → (s_used.toInt ≤ 120) → (0 ≤ p1.toInt) → (p1.toInt ≤ 6) → (6 + 5 * (6 - p1.toInt) ≤ (d : Int)) → Sf (G2 n_this_bytes s_length s_at s_used s_fault s_bytes s_code p1) (fun (y : Int32 × Int32 × Int32 × Int32 × (Nat → Int32)) => ((y.1).toInt = 0 ∨ (y.1).toInt = 1) ∧ (0 ≤ (y.2.1).toInt ∧ (y.2.1).toInt ≤ s_length.toInt) ∧ (0 ≤ (y.2.2.1).toInt ∧ (y.2.2.1).toInt ≤ 120))) (hsG3 : ∀ (n_this_bytes : Nat) (s_length : Int32) (s_at : Int32) (s_used : Int32) (s_fault : Int32) (s_bytes : Nat → Int32) (s_code : Nat → Int32) (p1 : Int32), (0 ≤ s_at.toInt) → (s_at.toInt ≤ s_length.toInt) → (s_length.toInt ≤ n_this_bytes) → (s_length.toInt ≤ 200) → (0 ≤ s_used.toInt) → (s_used.toInt ≤ 120) → (0 ≤ p1.toInt) → (p1.toInt ≤ 6) → (1 + 5 * (6 - p1.toInt) ≤ (d : Int)) → Sf (G3 n_this_bytes s_length s_at s_used s_fault s_bytes s_code p1) (fun (y : Int32 × Int32 × Int32 × Int32 × (Nat → Int32)) => ((y.1).toInt = 0 ∨ (y.1).toInt = 1) ∧ (0 ≤ (y.2.1).toInt ∧ (y.2.1).toInt ≤ s_length.toInt) ∧ (0 ≤ (y.2.2.1).toInt ∧ (y.2.2.1).toInt ≤ 120))) (hp0 : 0 ≤ s_at.toInt) (hp1 : s_at.toInt ≤ s_length.toInt) (hp2 : s_length.toInt ≤ n_this_bytes) (hp3 : s_length.toInt ≤ 200) (hp4 : 0 ≤ s_used.toInt) (hp5 : s_used.toInt ≤ 120) (hp6 : 0 ≤ p1.toInt) (hp7 : p1.toInt ≤ 6) (hp8 : 1 + 5 * (6 - p1.toInt) ≤ ((d : Int) + 1)) : Sf (b_X6_factorStands G0 G1 G2 G3 n_this_bytes s_length s_at s_used s_fault s_bytes s_code p1) (fun (y : Int32 × Int32 × Int32 × Int32 × (Nat → Int32)) => ((y.1).toInt = 0 ∨ (y.1).toInt = 1) ∧ (0 ≤ (y.2.1).toInt ∧ (y.2.1).toInt ≤ s_length.toInt) ∧ (0 ≤ (y.2.2.1).toInt ∧ (y.2.2.1).toInt ≤ 120)) := by
  have g1 := rgI s_length
  have g2 := rgI s_at
  have g3 := rgI s_used
  have g4 := rgI s_fault
  have g5 := rgI p1
  have hFU : (100000 : Int) ≤ (FU : Int) := Int.ofNat_le.mpr FU_ge
  rw [b_X6_factorStands]
  refine Sf_cb1 (s_X6_next n_this_bytes s_length s_at s_bytes (by omega) (by omega)) (fun r1_1 hp6 => ?_)
  have hp6 : (r1_1.toInt = -1 ∨ s_at.toInt < s_length.toInt) := hp6
  have g7 := rgI r1_1
  refine Sf_ite (fun h8 => ?_) (fun h8 => ?_)
  · skip
    have l9 : (91 : Int32).toInt = 91 := by decide
    have c10 := eqI h8
    refine Sf_ite (fun h11 => ?_) (fun h11 => ?_)
    · skip
      have l12 : (6 : Int32).toInt = 6 := by decide
      have c13 := ltI h11
      refine Sf_nmI (fun v30_79 hv14 => ?_)
      have g15 := rgI (s_at + 1)
      first | have e16 := adN s_at 1 (1) (by decide) (by omega) (by omega) | skip
      have q17 := eqI hv14
      have l18 : (2 : Int32).toInt = 2 := by decide
      have g19 := rgI (p1 + 1)
      first | have e20 := adN p1 1 (1) (by decide) (by omega) (by omega) | skip
      refine Sf_cb5 (hsG0 n_this_bytes s_length v30_79 s_used s_fault s_bytes s_code 2 (p1 + 1) (by omega) (by omega) (by omega) (by omega) (by omega) (by omega) (by omega) (by omega) (by omega) (by omega) (by omega) (by omega) (by omega) (by omega)) (fun r38_83 o_at38_84 o_used38_85 o_fault38_86 o_code38_87 hp21 => ?_)
      have hp21 : (r38_83.toInt = 0 ∨ r38_83.toInt = 1) ∧ (0 ≤ o_at38_84.toInt ∧ o_at38_84.toInt ≤ s_length.toInt) ∧ (0 ≤ o_used38_85.toInt ∧ o_used38_85.toInt ≤ 120) := hp21
      obtain ⟨hq22, hq23, hq24⟩ := hp21
      have g25 := rgI r38_83
      have g26 := rgI o_at38_84
      have g27 := rgI o_used38_85
      have g28 := rgI o_fault38_86
      refine Sf_ite (fun h29 => ?_) (fun h29 => ?_)
      · skip
        have l30 : (0 : Int32).toInt = 0 := by decide
        have c31 := eqI h29
        refine Sf_some (show (((0 : Int32).toInt = 0 ∨ (0 : Int32).toInt = 1)) ∧ (0 ≤ o_at38_84.toInt ∧ o_at38_84.toInt ≤ s_length.toInt) ∧ (0 ≤ o_used38_85.toInt ∧ o_used38_85.toInt ≤ 120) from ?_)
        refine ⟨?_, ?_, ?_⟩ <;> (omega)
      · skip
        have l32 : (0 : Int32).toInt = 0 := by decide
        have c33 := neI h29
        have l34 : (93 : Int32).toInt = 93 := by decide
        refine Sf_cb3 (s_X6_signStands n_this_bytes s_length o_at38_84 o_fault38_86 s_bytes 93 (by omega) (by omega) (by omega) (by omega)) (fun r47_100 o_at47_101 o_fault47_102 hp35 => ?_)
        have hp35 : ((r47_100.toInt = 0 ∨ r47_100.toInt = 1)) ∧ (0 ≤ o_at47_101.toInt ∧ o_at47_101.toInt ≤ s_length.toInt) := hp35
        obtain ⟨hq36, hq37⟩ := hp35
        have g38 := rgI r47_100
        have g39 := rgI o_at47_101
        have g40 := rgI o_fault47_102
        refine Sf_ite (fun h41 => ?_) (fun h41 => ?_)
        · skip
          have c42 := eqI h41
          refine Sf_some (show (((0 : Int32).toInt = 0 ∨ (0 : Int32).toInt = 1)) ∧ (0 ≤ o_at47_101.toInt ∧ o_at47_101.toInt ≤ s_length.toInt) ∧ (0 ≤ o_used38_85.toInt ∧ o_used38_85.toInt ≤ 120) from ?_)
          refine ⟨?_, ?_, ?_⟩ <;> (omega)
        · skip
          have c43 := neI h41
          have l44 : (1 : Int32).toInt = 1 := by decide
          refine Sf_some (show (((1 : Int32).toInt = 0 ∨ (1 : Int32).toInt = 1)) ∧ (0 ≤ o_at47_101.toInt ∧ o_at47_101.toInt ≤ s_length.toInt) ∧ (0 ≤ o_used38_85.toInt ∧ o_used38_85.toInt ≤ 120) from ?_)
          refine ⟨?_, ?_, ?_⟩ <;> (omega)
    · skip
      have l45 : (6 : Int32).toInt = 6 := by decide
      have c46 := nltI h11
      have l47 : (5 : Int32).toInt = 5 := by decide
      refine Sf_cb2 (s_X6_fail s_fault 5 ) (fun r19_120 o_fault19_121 hp48 => ?_)
      have hp48 : ((r19_120.toInt = 0 ∨ r19_120.toInt = 1)) ∧ (r19_120.toInt = 0) := hp48
      obtain ⟨hq49, hq50⟩ := hp48
      have g51 := rgI r19_120
      have g52 := rgI o_fault19_121
      refine Sf_bo (by omega) ?_
      refine Sf_some (show ((r19_120.toInt = 0 ∨ r19_120.toInt = 1)) ∧ (0 ≤ s_at.toInt ∧ s_at.toInt ≤ s_length.toInt) ∧ (0 ≤ s_used.toInt ∧ s_used.toInt ≤ 120) from ?_)
      refine ⟨?_, ?_, ?_⟩ <;> (omega)
  · skip
    have l53 : (91 : Int32).toInt = 91 := by decide
    have c54 := neI h8
    refine Sf_cb1 (s_X6_isDigit r1_1 ) (fun r60_10 hp55 => ?_)
    have hp55 : ((r60_10.toInt = 0 ∨ r60_10.toInt = 1)) ∧ (r60_10.toInt = 0 ∨ 48 ≤ r1_1.toInt) := hp55
    obtain ⟨hq56, hq57⟩ := hp55
    have g58 := rgI r60_10
    refine Sf_ite (fun h59 => ?_) (fun h59 => ?_)
    · skip
      have l60 : (0 : Int32).toInt = 0 := by decide
      have c61 := eqI h59
      refine Sf_ite (fun h62 => ?_) (fun h62 => ?_)
      · skip
        have l63 : ((-1) : Int32).toInt = -1 := by decide
        have c64 := eqI h62
        rw [b_X6_factorStands_J86]
        have l65 : (1 : Int32).toInt = 1 := by decide
        refine Sf_cb2 (s_X6_fail s_fault 1 ) (fun r88_21 o_fault88_22 hp66 => ?_)
        have hp66 : ((r88_21.toInt = 0 ∨ r88_21.toInt = 1)) ∧ (r88_21.toInt = 0) := hp66
        obtain ⟨hq67, hq68⟩ := hp66
        have g69 := rgI r88_21
        have g70 := rgI o_fault88_22
        refine Sf_bo (by omega) ?_
        refine Sf_some (show ((r88_21.toInt = 0 ∨ r88_21.toInt = 1)) ∧ (0 ≤ s_at.toInt ∧ s_at.toInt ≤ s_length.toInt) ∧ (0 ≤ s_used.toInt ∧ s_used.toInt ≤ 120) from ?_)
        refine ⟨?_, ?_, ?_⟩ <;> (omega)
      · skip
        have l71 : ((-1) : Int32).toInt = -1 := by decide
        have c72 := neI h62
        refine Sf_cb1 (s_J0_indexOf_0f7a4 (ji2c r1_1) ) (fun r80_37 hp73 => ?_)
        have g74 := rgI r80_37
        refine Sf_ite (fun h75 => ?_) (fun h75 => ?_)
        · skip
          have c76 := leI h75
          have l77 : (97 : Int32).toInt = 97 := by decide
          refine Sf_cb2 (s_X6_put s_used s_code 97 r1_1 (by omega) (by omega)) (fun o_used96_45 o_code96_46 hp78 => ?_)
          have hp78 : (s_used.toInt ≤ o_used96_45.toInt ∧ o_used96_45.toInt ≤ 120) := hp78
          have g79 := rgI o_used96_45
          refine Sf_nmI (fun v106_51 hv80 => ?_)
          have g81 := rgI (s_at + 1)
          first | have e82 := adN s_at 1 (1) (by decide) (by omega) (by omega) | skip
          have q83 := eqI hv80
          have l84 : (1 : Int32).toInt = 1 := by decide
          refine Sf_some (show (((1 : Int32).toInt = 0 ∨ (1 : Int32).toInt = 1)) ∧ (0 ≤ v106_51.toInt ∧ v106_51.toInt ≤ s_length.toInt) ∧ (0 ≤ o_used96_45.toInt ∧ o_used96_45.toInt ≤ 120) from ?_)
          refine ⟨?_, ?_, ?_⟩ <;> (omega)
        · skip
          have c85 := nleI h75
          rw [b_X6_factorStands_J86]
          have l86 : (1 : Int32).toInt = 1 := by decide
          refine Sf_cb2 (s_X6_fail s_fault 1 ) (fun r88_21 o_fault88_22 hp87 => ?_)
          have hp87 : ((r88_21.toInt = 0 ∨ r88_21.toInt = 1)) ∧ (r88_21.toInt = 0) := hp87
          obtain ⟨hq88, hq89⟩ := hp87
          have g90 := rgI r88_21
          have g91 := rgI o_fault88_22
          refine Sf_bo (by omega) ?_
          refine Sf_some (show ((r88_21.toInt = 0 ∨ r88_21.toInt = 1)) ∧ (0 ≤ s_at.toInt ∧ s_at.toInt ≤ s_length.toInt) ∧ (0 ≤ s_used.toInt ∧ s_used.toInt ≤ 120) from ?_)
          refine ⟨?_, ?_, ?_⟩ <;> (omega)
    · skip
      have l92 : (0 : Int32).toInt = 0 := by decide
      have c93 := neI h59
      refine Sf_cb5 (s_X6_numberStands n_this_bytes s_length s_at s_used s_fault s_bytes s_code (by omega) (by omega) (by omega) (by omega) (by omega) (by omega)) (fun r67_60 o_at67_61 o_used67_62 o_fault67_63 o_code67_64 hp94 => ?_)
      have hp94 : ((r67_60.toInt = 0 ∨ r67_60.toInt = 1)) ∧ (0 ≤ o_at67_61.toInt ∧ o_at67_61.toInt ≤ s_length.toInt) ∧ (0 ≤ o_used67_62.toInt ∧ o_used67_62.toInt ≤ 120) := hp94
      obtain ⟨hq95, hq96, hq97⟩ := hp94
      have g98 := rgI r67_60
      have g99 := rgI o_at67_61
      have g100 := rgI o_used67_62
      have g101 := rgI o_fault67_63
      refine Sf_bo (by omega) ?_
      refine Sf_some (show ((r67_60.toInt = 0 ∨ r67_60.toInt = 1)) ∧ (0 ≤ o_at67_61.toInt ∧ o_at67_61.toInt ≤ s_length.toInt) ∧ (0 ≤ o_used67_62.toInt ∧ o_used67_62.toInt ≤ 120) from ?_)
      refine ⟨?_, ?_, ?_⟩ <;> (omega)
set_option maxHeartbeats 4000000 in
set_option maxRecDepth 100000 in
theorem s_grp : ∀ d : Nat, (∀ (n_this_bytes : Nat) (s_length : Int32) (s_at : Int32) (s_used : Int32) (s_fault : Int32) (s_bytes : Nat → Int32) (s_code : Nat → Int32) (p1 : Int32) (p2 : Int32), (0 ≤ s_at.toInt) → (s_at.toInt ≤ s_length.toInt) → (s_length.toInt ≤ n_this_bytes) → (s_length.toInt ≤ 200) → (0 ≤ s_used.toInt) → (s_used.toInt ≤ 120) → (0 ≤ p1.toInt) → (p1.toInt ≤ 3) → (0 ≤ p2.toInt) → (p2.toInt ≤ 6) → (p1.toInt = 0 → 10 + 5 * (6 - p2.toInt) ≤ (d : Int)) → (p1.toInt = 1 → 8 + 5 * (6 - p2.toInt) ≤ (d : Int)) → (p1.toInt = 2 → 5 + 5 * (6 - p2.toInt) ≤ (d : Int)) → (p1.toInt = 3 → 3 + 5 * (6 - p2.toInt) ≤ (d : Int)) → Sf (f_grp d 0 n_this_bytes s_length s_at s_used s_fault s_bytes s_code p1 p2) (fun (y : Int32 × Int32 × Int32 × Int32 × (Nat → Int32)) => ((y.1).toInt = 0 ∨ (y.1).toInt = 1) ∧ (0 ≤ (y.2.1).toInt ∧ (y.2.1).toInt ≤ s_length.toInt) ∧ (0 ≤ (y.2.2.1).toInt ∧ (y.2.2.1).toInt ≤ 120))) ∧ (∀ (n_this_bytes : Nat) (s_length : Int32) (s_at : Int32) (s_used : Int32) (s_fault : Int32) (s_bytes : Nat → Int32) (s_code : Nat → Int32) (p1 : Int32) (p2 : Int32), (0 ≤ s_at.toInt) → (s_at.toInt ≤ s_length.toInt) → (s_length.toInt ≤ n_this_bytes) → (s_length.toInt ≤ 200) → (0 ≤ s_used.toInt) → (s_used.toInt ≤ 120) → (0 ≤ p1.toInt) → (p1.toInt ≤ 3) → (0 ≤ p2.toInt) → (p2.toInt ≤ 6) → (p1.toInt = 0 → 9 + 5 * (6 - p2.toInt) ≤ (d : Int)) → (p1.toInt = 1 → 7 + 5 * (6 - p2.toInt) ≤ (d : Int)) → (p1.toInt = 2 → 4 + 5 * (6 - p2.toInt) ≤ (d : Int)) → (p1.toInt = 3 → 2 + 5 * (6 - p2.toInt) ≤ (d : Int)) → Sf (f_grp d 1 n_this_bytes s_length s_at s_used s_fault s_bytes s_code p1 p2) (fun (y : Int32 × Int32 × Int32 × Int32 × (Nat → Int32)) => ((y.1).toInt = 0 ∨ (y.1).toInt = 1) ∧ (0 ≤ (y.2.1).toInt ∧ (y.2.1).toInt ≤ s_length.toInt) ∧ (0 ≤ (y.2.2.1).toInt ∧ (y.2.2.1).toInt ≤ 120))) ∧ (∀ (n_this_bytes : Nat) (s_length : Int32) (s_at : Int32) (s_used : Int32) (s_fault : Int32) (s_bytes : Nat → Int32) (s_code : Nat → Int32) (p1 : Int32), (0 ≤ s_at.toInt) → (s_at.toInt ≤ s_length.toInt) → (s_length.toInt ≤ n_this_bytes) → (s_length.toInt ≤ 200) → (0 ≤ s_used.toInt) → (s_used.toInt ≤ 120) → (0 ≤ p1.toInt) → (p1.toInt ≤ 6) → (6 + 5 * (6 - p1.toInt) ≤ (d : Int)) → Sf (f_grp d 2 n_this_bytes s_length s_at s_used s_fault s_bytes s_code p1 0) (fun (y : Int32 × Int32 × Int32 × Int32 × (Nat → Int32)) => ((y.1).toInt = 0 ∨ (y.1).toInt = 1) ∧ (0 ≤ (y.2.1).toInt ∧ (y.2.1).toInt ≤ s_length.toInt) ∧ (0 ≤ (y.2.2.1).toInt ∧ (y.2.2.1).toInt ≤ 120))) ∧ (∀ (n_this_bytes : Nat) (s_length : Int32) (s_at : Int32) (s_used : Int32) (s_fault : Int32) (s_bytes : Nat → Int32) (s_code : Nat → Int32) (p1 : Int32), (0 ≤ s_at.toInt) → (s_at.toInt ≤ s_length.toInt) → (s_length.toInt ≤ n_this_bytes) → (s_length.toInt ≤ 200) → (0 ≤ s_used.toInt) → (s_used.toInt ≤ 120) → (0 ≤ p1.toInt) → (p1.toInt ≤ 6) → (1 + 5 * (6 - p1.toInt) ≤ (d : Int)) → Sf (f_grp d 3 n_this_bytes s_length s_at s_used s_fault s_bytes s_code p1 0) (fun (y : Int32 × Int32 × Int32 × Int32 × (Nat → Int32)) => ((y.1).toInt = 0 ∨ (y.1).toInt = 1) ∧ (0 ≤ (y.2.1).toInt ∧ (y.2.1).toInt ≤ s_length.toInt) ∧ (0 ≤ (y.2.2.1).toInt ∧ (y.2.2.1).toInt ≤ 120))) := by
  intro d
  induction d with
  | zero =>
    refine ⟨?_, ?_, ?_, ?_⟩
    · intro n_this_bytes s_length s_at s_used s_fault s_bytes s_code p1 p2 h0 h1 h2 h3 h4 h5 h6 h7 h8 h9 h10 h11 h12 h13
      exfalso
      have z0 : ((0 : Nat) : Int) = 0 := rfl
      rcases (show p1.toInt = 0 ∨ p1.toInt = 1 ∨ p1.toInt = 2 ∨ p1.toInt = 3 by omega) with c | c | c | c <;> omega
    · intro n_this_bytes s_length s_at s_used s_fault s_bytes s_code p1 p2 h0 h1 h2 h3 h4 h5 h6 h7 h8 h9 h10 h11 h12 h13
      exfalso
      have z0 : ((0 : Nat) : Int) = 0 := rfl
      rcases (show p1.toInt = 0 ∨ p1.toInt = 1 ∨ p1.toInt = 2 ∨ p1.toInt = 3 by omega) with c | c | c | c <;> omega
    · intro n_this_bytes s_length s_at s_used s_fault s_bytes s_code p1 h0 h1 h2 h3 h4 h5 h6 h7 h8
      exfalso
      omega
    · intro n_this_bytes s_length s_at s_used s_fault s_bytes s_code p1 h0 h1 h2 h3 h4 h5 h6 h7 h8
      exfalso
      omega
  | succ d ih =>
    refine ⟨?_, ?_, ?_, ?_⟩
    · intro n_this_bytes s_length s_at s_used s_fault s_bytes s_code p1 p2 h0 h1 h2 h3 h4 h5 h6 h7 h8 h9 h10 h11 h12 h13
      rw [f_grp_0]
      exact sb_X6_rowStands (fun n_this_bytes s_length s_at s_used s_fault s_bytes s_code p1 p2 => f_grp d 0 n_this_bytes s_length s_at s_used s_fault s_bytes s_code p1 p2) (fun n_this_bytes s_length s_at s_used s_fault s_bytes s_code p1 p2 => f_grp d 1 n_this_bytes s_length s_at s_used s_fault s_bytes s_code p1 p2) (fun n_this_bytes s_length s_at s_used s_fault s_bytes s_code p1 => f_grp d 2 n_this_bytes s_length s_at s_used s_fault s_bytes s_code p1 0) (fun n_this_bytes s_length s_at s_used s_fault s_bytes s_code p1 => f_grp d 3 n_this_bytes s_length s_at s_used s_fault s_bytes s_code p1 0) n_this_bytes s_length s_at s_used s_fault s_bytes s_code p1 p2 d ih.1 ih.2.1 ih.2.2.1 ih.2.2.2 (by omega) (by omega) (by omega) (by omega) (by omega) (by omega) (by omega) (by omega) (by omega) (by omega) (by omega) (by omega) (by omega) (by omega)
    · intro n_this_bytes s_length s_at s_used s_fault s_bytes s_code p1 p2 h0 h1 h2 h3 h4 h5 h6 h7 h8 h9 h10 h11 h12 h13
      rw [f_grp_1]
      exact sb_X6_operandStands (fun n_this_bytes s_length s_at s_used s_fault s_bytes s_code p1 p2 => f_grp d 0 n_this_bytes s_length s_at s_used s_fault s_bytes s_code p1 p2) (fun n_this_bytes s_length s_at s_used s_fault s_bytes s_code p1 p2 => f_grp d 1 n_this_bytes s_length s_at s_used s_fault s_bytes s_code p1 p2) (fun n_this_bytes s_length s_at s_used s_fault s_bytes s_code p1 => f_grp d 2 n_this_bytes s_length s_at s_used s_fault s_bytes s_code p1 0) (fun n_this_bytes s_length s_at s_used s_fault s_bytes s_code p1 => f_grp d 3 n_this_bytes s_length s_at s_used s_fault s_bytes s_code p1 0) n_this_bytes s_length s_at s_used s_fault s_bytes s_code p1 p2 d ih.1 ih.2.1 ih.2.2.1 ih.2.2.2 (by omega) (by omega) (by omega) (by omega) (by omega) (by omega) (by omega) (by omega) (by omega) (by omega) (by omega) (by omega) (by omega) (by omega)
    · intro n_this_bytes s_length s_at s_used s_fault s_bytes s_code p1 h0 h1 h2 h3 h4 h5 h6 h7 h8
      rw [f_grp_2]
      exact sb_X6_pieceStands (fun n_this_bytes s_length s_at s_used s_fault s_bytes s_code p1 p2 => f_grp d 0 n_this_bytes s_length s_at s_used s_fault s_bytes s_code p1 p2) (fun n_this_bytes s_length s_at s_used s_fault s_bytes s_code p1 p2 => f_grp d 1 n_this_bytes s_length s_at s_used s_fault s_bytes s_code p1 p2) (fun n_this_bytes s_length s_at s_used s_fault s_bytes s_code p1 => f_grp d 2 n_this_bytes s_length s_at s_used s_fault s_bytes s_code p1 0) (fun n_this_bytes s_length s_at s_used s_fault s_bytes s_code p1 => f_grp d 3 n_this_bytes s_length s_at s_used s_fault s_bytes s_code p1 0) n_this_bytes s_length s_at s_used s_fault s_bytes s_code p1 d ih.1 ih.2.1 ih.2.2.1 ih.2.2.2 (by omega) (by omega) (by omega) (by omega) (by omega) (by omega) (by omega) (by omega) (by omega)
    · intro n_this_bytes s_length s_at s_used s_fault s_bytes s_code p1 h0 h1 h2 h3 h4 h5 h6 h7 h8
      rw [f_grp_3]
      exact sb_X6_factorStands (fun n_this_bytes s_length s_at s_used s_fault s_bytes s_code p1 p2 => f_grp d 0 n_this_bytes s_length s_at s_used s_fault s_bytes s_code p1 p2) (fun n_this_bytes s_length s_at s_used s_fault s_bytes s_code p1 p2 => f_grp d 1 n_this_bytes s_length s_at s_used s_fault s_bytes s_code p1 p2) (fun n_this_bytes s_length s_at s_used s_fault s_bytes s_code p1 => f_grp d 2 n_this_bytes s_length s_at s_used s_fault s_bytes s_code p1 0) (fun n_this_bytes s_length s_at s_used s_fault s_bytes s_code p1 => f_grp d 3 n_this_bytes s_length s_at s_used s_fault s_bytes s_code p1 0) n_this_bytes s_length s_at s_used s_fault s_bytes s_code p1 d ih.1 ih.2.1 ih.2.2.1 ih.2.2.2 (by omega) (by omega) (by omega) (by omega) (by omega) (by omega) (by omega) (by omega) (by omega)
theorem s_X6_rowStands (n_this_bytes : Nat) (s_length : Int32) (s_at : Int32) (s_used : Int32) (s_fault : Int32) (s_bytes : Nat → Int32) (s_code : Nat → Int32) (p1 : Int32) (p2 : Int32) (hp0 : 0 ≤ s_at.toInt) (hp1 : s_at.toInt ≤ s_length.toInt) (hp2 : s_length.toInt ≤ n_this_bytes) (hp3 : s_length.toInt ≤ 200) (hp4 : 0 ≤ s_used.toInt) (hp5 : s_used.toInt ≤ 120) (hp6 : 0 ≤ p1.toInt) (hp7 : p1.toInt ≤ 3) (hp8 : 0 ≤ p2.toInt) (hp9 : p2.toInt ≤ 6) : Sf (f_X6_rowStands n_this_bytes s_length s_at s_used s_fault s_bytes s_code p1 p2) (fun (y : Int32 × Int32 × Int32 × Int32 × (Nat → Int32)) => ((y.1).toInt = 0 ∨ (y.1).toInt = 1) ∧ (0 ≤ (y.2.1).toInt ∧ (y.2.1).toInt ≤ s_length.toInt) ∧ (0 ≤ (y.2.2.1).toInt ∧ (y.2.2.1).toInt ≤ 120)) :=
  (s_grp 100).1 n_this_bytes s_length s_at s_used s_fault s_bytes s_code p1 p2 hp0 hp1 hp2 hp3 hp4 hp5 hp6 hp7 hp8 hp9 (by omega) (by omega) (by omega) (by omega)
theorem s_X6_operandStands (n_this_bytes : Nat) (s_length : Int32) (s_at : Int32) (s_used : Int32) (s_fault : Int32) (s_bytes : Nat → Int32) (s_code : Nat → Int32) (p1 : Int32) (p2 : Int32) (hp0 : 0 ≤ s_at.toInt) (hp1 : s_at.toInt ≤ s_length.toInt) (hp2 : s_length.toInt ≤ n_this_bytes) (hp3 : s_length.toInt ≤ 200) (hp4 : 0 ≤ s_used.toInt) (hp5 : s_used.toInt ≤ 120) (hp6 : 0 ≤ p1.toInt) (hp7 : p1.toInt ≤ 3) (hp8 : 0 ≤ p2.toInt) (hp9 : p2.toInt ≤ 6) : Sf (f_X6_operandStands n_this_bytes s_length s_at s_used s_fault s_bytes s_code p1 p2) (fun (y : Int32 × Int32 × Int32 × Int32 × (Nat → Int32)) => ((y.1).toInt = 0 ∨ (y.1).toInt = 1) ∧ (0 ≤ (y.2.1).toInt ∧ (y.2.1).toInt ≤ s_length.toInt) ∧ (0 ≤ (y.2.2.1).toInt ∧ (y.2.2.1).toInt ≤ 120)) :=
  (s_grp 100).2.1 n_this_bytes s_length s_at s_used s_fault s_bytes s_code p1 p2 hp0 hp1 hp2 hp3 hp4 hp5 hp6 hp7 hp8 hp9 (by omega) (by omega) (by omega) (by omega)
theorem s_X6_pieceStands (n_this_bytes : Nat) (s_length : Int32) (s_at : Int32) (s_used : Int32) (s_fault : Int32) (s_bytes : Nat → Int32) (s_code : Nat → Int32) (p1 : Int32) (hp0 : 0 ≤ s_at.toInt) (hp1 : s_at.toInt ≤ s_length.toInt) (hp2 : s_length.toInt ≤ n_this_bytes) (hp3 : s_length.toInt ≤ 200) (hp4 : 0 ≤ s_used.toInt) (hp5 : s_used.toInt ≤ 120) (hp6 : 0 ≤ p1.toInt) (hp7 : p1.toInt ≤ 6) : Sf (f_X6_pieceStands n_this_bytes s_length s_at s_used s_fault s_bytes s_code p1) (fun (y : Int32 × Int32 × Int32 × Int32 × (Nat → Int32)) => ((y.1).toInt = 0 ∨ (y.1).toInt = 1) ∧ (0 ≤ (y.2.1).toInt ∧ (y.2.1).toInt ≤ s_length.toInt) ∧ (0 ≤ (y.2.2.1).toInt ∧ (y.2.2.1).toInt ≤ 120)) :=
  (s_grp 100).2.2.1 n_this_bytes s_length s_at s_used s_fault s_bytes s_code p1 hp0 hp1 hp2 hp3 hp4 hp5 hp6 hp7 (by omega)
theorem s_X6_factorStands (n_this_bytes : Nat) (s_length : Int32) (s_at : Int32) (s_used : Int32) (s_fault : Int32) (s_bytes : Nat → Int32) (s_code : Nat → Int32) (p1 : Int32) (hp0 : 0 ≤ s_at.toInt) (hp1 : s_at.toInt ≤ s_length.toInt) (hp2 : s_length.toInt ≤ n_this_bytes) (hp3 : s_length.toInt ≤ 200) (hp4 : 0 ≤ s_used.toInt) (hp5 : s_used.toInt ≤ 120) (hp6 : 0 ≤ p1.toInt) (hp7 : p1.toInt ≤ 6) : Sf (f_X6_factorStands n_this_bytes s_length s_at s_used s_fault s_bytes s_code p1) (fun (y : Int32 × Int32 × Int32 × Int32 × (Nat → Int32)) => ((y.1).toInt = 0 ∨ (y.1).toInt = 1) ∧ (0 ≤ (y.2.1).toInt ∧ (y.2.1).toInt ≤ s_length.toInt) ∧ (0 ≤ (y.2.2.1).toInt ∧ (y.2.2.1).toInt ≤ 120)) :=
  (s_grp 100).2.2.2 n_this_bytes s_length s_at s_used s_fault s_bytes s_code p1 hp0 hp1 hp2 hp3 hp4 hp5 hp6 hp7 (by omega)
