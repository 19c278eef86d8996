set_option maxHeartbeats 4000000 in
set_option maxRecDepth 100000 in
theorem s_X6_writeClauses_L9 (n_p1 : Nat) (s_p1 : Nat → Int32) (p3 : Int32) (o_length3_1 : Int32) (K39 : Int32 → Int32 → Int32 → Int32 → (Nat → Int32) → (Nat → Int32) → (Nat → Int32) → Option (Int32 × Int32 × Int32 × Int32 × (Nat → Int32) × (Nat → Int32) × (Nat → Int32) × Option kTv)) (K65 : Int32 → Int32 → Int32 → (Nat → Int32) → (Nat → Int32) → (Nat → Int32) → Option (Int32 × Int32 × Int32 × Int32 × (Nat → Int32) × (Nat → Int32) × (Nat → Int32) × Option kTv)) (hp0 : n_p1 = 200) (hp1 : 0 ≤ o_length3_1.toInt) (hp2 : o_length3_1.toInt ≤ 200) (hp3 : 0 ≤ p3.toInt) (hK39 : ∀ (a : Int32) (b : Int32) (c : Int32) (d : Int32) (e : Nat → Int32) (f : Nat → Int32) (g : Nat → Int32), (0 ≤ a.toInt) → (a.toInt < 12) → (0 ≤ d.toInt) → (d.toInt ≤ 120) → (∀ j, 0 ≤ (f j).toInt ∧ (f j).toInt ≤ 120) → (∀ j, 0 ≤ (g j).toInt ∧ (g j).toInt ≤ 120) → Sf (K39 a b c d e f g) (fun (y : Int32 × Int32 × Int32 × Int32 × (Nat → Int32) × (Nat → Int32) × (Nat → Int32) × Option kTv) => (∀ j, 0 ≤ ((y.2.2.2.2.2.1) j).toInt ∧ ((y.2.2.2.2.2.1) j).toInt ≤ 120) ∧ (∀ j, 0 ≤ ((y.2.2.2.2.2.2.1) j).toInt ∧ ((y.2.2.2.2.2.2.1) j).toInt ≤ 120) ∧ (∀ v, (y.2.2.2.2.2.2.2) = some v → tOK v))) (hK65 : ∀ (b : Int32) (c : Int32) (d : Int32) (e : Nat → Int32) (f : Nat → Int32) (g : Nat → Int32), (0 ≤ b.toInt) → (b.toInt ≤ o_length3_1.toInt) → (∀ j, 0 ≤ (f j).toInt ∧ (f j).toInt ≤ 120) → (∀ j, 0 ≤ (g j).toInt ∧ (g j).toInt ≤ 120) → Sf (K65 b c d e f g) (fun (y : Int32 × Int32 × Int32 × Int32 × (Nat → Int32) × (Nat → Int32) × (Nat → Int32) × Option kTv) => (∀ j, 0 ≤ ((y.2.2.2.2.2.1) j).toInt ∧ ((y.2.2.2.2.2.1) j).toInt ≤ 120) ∧ (∀ j, 0 ≤ ((y.2.2.2.2.2.2.1) j).toInt ∧ ((y.2.2.2.2.2.2.1) j).toInt ≤ 120) ∧ (∀ v, (y.2.2.2.2.2.2.2) = some v → tOK v))) : ∀ (n : Nat) (x4_60 : Int32) (at__61 : Int32) (fault__62 : Int32) (used__63 : Int32) (code__64 : Nat → Int32) (middles__65 : Nat → Int32) (starts__66 : Nat → Int32), (0 ≤ x4_60.toInt) → (x4_60.toInt ≤ 12) → (0 ≤ at__61.toInt) → (at__61.toInt ≤ o_length3_1.toInt) → (0 ≤ used__63.toInt) → (used__63.toInt ≤ 120) → (∀ j, 0 ≤ (middles__65 j).toInt ∧ (middles__65 j).toInt ≤ 120) → (∀ j, 0 ≤ (starts__66 j).toInt ∧ (starts__66 j).toInt ≤ 120) → (13 - x4_60.toInt < (n : Int)) → Sf (f_X6_writeClauses_L9 n_p1 s_p1 p3 o_length3_1 K39 K65 n x4_60 at__61 fault__62 used__63 code__64 middles__65 starts__66) (fun (y : Int32 × Int32 × Int32 × Int32 × (Nat → Int32) × (Nat → Int32) × (Nat → Int32) × Option kTv) => (∀ j, 0 ≤ ((y.2.2.2.2.2.1) j).toInt ∧ ((y.2.2.2.2.2.1) j).toInt ≤ 120) ∧ (∀ j, 0 ≤ ((y.2.2.2.2.2.2.1) j).toInt ∧ ((y.2.2.2.2.2.2.1) j).toInt ≤ 120) ∧ (∀ v, (y.2.2.2.2.2.2.2) = some v → tOK v)) := by
  have hFU : (100000 : Int) ≤ (FU : Int) := Int.ofNat_le.mpr FU_ge
  have g1 := rgI p3
  have g2 := rgI o_length3_1
  intro n
  induction n with
  | zero =>
    intro x4_60 at__61 fault__62 used__63 code__64 middles__65 starts__66 hi0 hi1 hi2 hi3 hi4 hi5 hi6 hi7 hm
    have g3 := rgI x4_60
    have g4 := rgI at__61
    have g5 := rgI fault__62
    have g6 := rgI used__63
    exact absurd hm (by omega)
  | succ n ih =>
    intro x4_60 at__61 fault__62 used__63 code__64 middles__65 starts__66 hi0 hi1 hi2 hi3 hi4 hi5 hi6 hi7 hm
    rw [f_X6_writeClauses_L9]
    have g7 := rgI x4_60
    have g8 := rgI at__61
    have g9 := rgI fault__62
    have g10 := rgI used__63
    refine Sf_ite (fun h11 => ?_) (fun h11 => ?_)
    · skip
      have l12 : (12 : Int32).toInt = 12 := by decide
      have c13 := leI h11
      exact hK65 at__61 fault__62 used__63 code__64 middles__65 starts__66 (by omega) (by omega) (by assumption) (by assumption)
    · skip
      have l14 : (12 : Int32).toInt = 12 := by decide
      have c15 := nleI h11
      refine Sf_cb7 (s_X6_clauseStands n_p1 o_length3_1 at__61 used__63 fault__62 s_p1 code__64 middles__65 starts__66 p3 x4_60 (by omega) (by omega) (by omega) (by omega) (by omega) (by omega) (by omega) (by omega) (by omega) (by assumption) (by assumption)) (fun r20_70 o_at20_71 o_used20_72 o_fault20_73 o_code20_74 o_middles20_75 o_starts20_76 hp16 => ?_)
      have hp16 : ((r20_70.toInt = 0 ∨ r20_70.toInt = 1)) ∧ (0 ≤ o_at20_71.toInt ∧ o_at20_71.toInt ≤ o_length3_1.toInt) ∧ (0 ≤ o_used20_72.toInt ∧ o_used20_72.toInt ≤ 120) ∧ (∀ j, 0 ≤ (o_middles20_75 j).toInt ∧ (o_middles20_75 j).toInt ≤ 120) ∧ (∀ j, 0 ≤ (o_starts20_76 j).toInt ∧ (o_starts20_76 j).toInt ≤ 120) := hp16
      obtain ⟨hq17, hq18, hq19, hq20, hq21⟩ := hp16
      have g22 := rgI r20_70
      have g23 := rgI o_at20_71
      have g24 := rgI o_used20_72
      have g25 := rgI o_fault20_73
      refine Sf_ite (fun h26 => ?_) (fun h26 => ?_)
      · skip
        have l27 : (0 : Int32).toInt = 0 := by decide
        have c28 := eqI h26
        refine Sf_some (show (∀ j, 0 ≤ (o_middles20_75 j).toInt ∧ (o_middles20_75 j).toInt ≤ 120) ∧ (∀ j, 0 ≤ (o_starts20_76 j).toInt ∧ (o_starts20_76 j).toInt ≤ 120) ∧ (∀ v, none = some v → tOK v) from ?_)
        refine ⟨?_, ?_, ?_⟩ <;> (first | omega | assumption | (intro v hv; cases hv; done))
      · skip
        have l29 : (0 : Int32).toInt = 0 := by decide
        have c30 := neI h26
        refine Sf_ite (fun h31 => ?_) (fun h31 => ?_)
        · skip
          have c32 := eqI h31
          exact hK39 x4_60 o_at20_71 o_fault20_73 o_used20_72 o_code20_74 o_middles20_75 o_starts20_76 (by omega) (by omega) (by omega) (by omega) (by assumption) (by assumption)
        · skip
          have c33 := neI h31
          have l34 : (59 : Int32).toInt = 59 := by decide
          refine Sf_cb3 (s_X6_signStands n_p1 o_length3_1 o_at20_71 o_fault20_73 s_p1 59 (by omega) (by omega) (by omega) (by omega)) (fun r51_87 o_at51_88 o_fault51_89 hp35 => ?_)
          have hp35 : ((r51_87.toInt = 0 ∨ r51_87.toInt = 1)) ∧ (0 ≤ o_at51_88.toInt ∧ o_at51_88.toInt ≤ o_length3_1.toInt) := hp35
          obtain ⟨hq36, hq37⟩ := hp35
          have g38 := rgI r51_87
          have g39 := rgI o_at51_88
          have g40 := rgI o_fault51_89
          refine Sf_ite (fun h41 => ?_) (fun h41 => ?_)
          · skip
            have c42 := eqI h41
            refine Sf_some (show (∀ j, 0 ≤ (o_middles20_75 j).toInt ∧ (o_middles20_75 j).toInt ≤ 120) ∧ (∀ j, 0 ≤ (o_starts20_76 j).toInt ∧ (o_starts20_76 j).toInt ≤ 120) ∧ (∀ v, none = some v → tOK v) from ?_)
            refine ⟨?_, ?_, ?_⟩ <;> (first | omega | assumption | (intro v hv; cases hv; done))
          · skip
            have c43 := neI h41
            refine Sf_nmI (fun v59_97 hv44 => ?_)
            have g45 := rgI (x4_60 + 1)
            first | have e46 := adN x4_60 1 (1) (by decide) (by omega) (by omega) | skip
            have q47 := eqI hv44
            exact ih v59_97 o_at51_88 o_fault51_89 o_used20_72 o_code20_74 o_middles20_75 o_starts20_76 (by omega) (by omega) (by omega) (by omega) (by omega) (by omega) (by assumption) (by assumption) (by omega)
set_option maxHeartbeats 4000000 in
set_option maxRecDepth 100000 in
theorem s_X6_writeClauses (n_p1 : Nat) (s_length : Int32) (s_at : Int32) (s_used : Int32) (s_fault : Int32) (s_p1 : Nat → Int32) (s_code : Nat → Int32) (s_middles : Nat → Int32) (s_starts : Nat → Int32) (p2 : Int32) (p3 : Int32) (hp0 : n_p1 = 200) (hp1 : 1 ≤ p2.toInt) (hp2 : p2.toInt ≤ 120) (hp3 : ∀ j, 0 ≤ (s_middles j).toInt ∧ (s_middles j).toInt ≤ 120) (hp4 : ∀ j, 0 ≤ (s_starts j).toInt ∧ (s_starts j).toInt ≤ 120) (hp5 : 0 ≤ p3.toInt) : Sf (f_X6_writeClauses n_p1 s_length s_at s_used s_fault s_p1 s_code s_middles s_starts p2 p3) (fun (y : Int32 × Int32 × Int32 × Int32 × (Nat → Int32) × (Nat → Int32) × (Nat → Int32) × Option kTv) => (∀ j, 0 ≤ ((y.2.2.2.2.2.1) j).toInt ∧ ((y.2.2.2.2.2.1) j).toInt ≤ 120) ∧ (∀ j, 0 ≤ ((y.2.2.2.2.2.2.1) j).toInt ∧ ((y.2.2.2.2.2.2.1) j).toInt ≤ 120) ∧ (∀ v, (y.2.2.2.2.2.2.2) = some v → tOK v)) := by
  have g1 := rgI s_length
  have g2 := rgI s_at
  have g3 := rgI s_used
  have g4 := rgI s_fault
  have g5 := rgI p2
  have g6 := rgI p3
  have hFU : (100000 : Int) ≤ (FU : Int) := Int.ofNat_le.mpr FU_ge
  rw [f_X6_writeClauses]
  refine Sf_cb5 (s_X6_begin n_p1 s_length s_at s_used s_fault s_starts p2 (by omega) (by omega) (by omega) (by assumption)) (fun o_length3_1 o_at3_2 o_used3_3 o_fault3_4 o_starts3_5 hp7 => ?_)
  have hp7 : (1 ≤ o_length3_1.toInt ∧ o_length3_1.toInt ≤ 200 ∧ o_length3_1.toInt ≤ p2.toInt) ∧ (o_at3_2.toInt = 0) ∧ (o_used3_3.toInt = 0) ∧ (∀ j, 0 ≤ (o_starts3_5 j).toInt ∧ (o_starts3_5 j).toInt ≤ 120) := hp7
  obtain ⟨hq8, hq9, hq10, hq11⟩ := hp7
  have g12 := rgI o_length3_1
  have g13 := rgI o_at3_2
  have g14 := rgI o_used3_3
  have g15 := rgI o_fault3_4
  have l16 : (0 : Int32).toInt = 0 := by decide
  refine s_X6_writeClauses_L9 n_p1 s_p1 p3 o_length3_1 (f_X6_writeClauses_J39 o_length3_1) (f_X6_writeClauses_J65 n_p1 s_p1 p3 o_length3_1) (by omega) (by omega) (by omega) (by omega) ?_ ?_ FU 0 o_at3_2 o_fault3_4 o_used3_3 s_code s_middles o_starts3_5 (by omega) (by omega) (by omega) (by omega) (by omega) (by omega) (by assumption) (by assumption) (by omega)
  · intro z17 z18 z19 z20 z21 z22 z23 hk24 hk25 hk26 hk27 hk28 hk29
    have g30 := rgI z17
    have g31 := rgI z18
    have g32 := rgI z19
    have g33 := rgI z20
    have hk24 : 0 ≤ z17.toInt := hk24
    have hk25 : z17.toInt < 12 := hk25
    have hk26 : 0 ≤ z20.toInt := hk26
    have hk27 : z20.toInt ≤ 120 := hk27
    have hk28 : ∀ j, 0 ≤ (z22 j).toInt ∧ (z22 j).toInt ≤ 120 := hk28
    have hk29 : ∀ j, 0 ≤ (z23 j).toInt ∧ (z23 j).toInt ≤ 120 := hk29
    rw [f_X6_writeClauses_J39]
    have g34 := rgI (z17 + 1)
    first | have e35 := adN z17 1 (1) (by decide) (by omega) (by omega) | skip
    refine Sf_cb1 (s_X6_written z20 z21 z22 z23 (z17 + 1) (by omega) (by omega) (by omega) (by omega) (by assumption) (by assumption)) (fun nt44_18 hp36 => ?_)
    have hp36 : (∀ v, nt44_18 = some v → tOK v) := hp36
    refine Sf_some (show (∀ j, 0 ≤ (z22 j).toInt ∧ (z22 j).toInt ≤ 120) ∧ (∀ j, 0 ≤ (z23 j).toInt ∧ (z23 j).toInt ≤ 120) ∧ (∀ v, nt44_18 = some v → tOK v) from ?_)
    refine ⟨?_, ?_, ?_⟩ <;> (first | omega | assumption | (intro v hv; cases hv; done))
  · intro z37 z38 z39 z40 z41 z42 hk43 hk44 hk45 hk46
    have g47 := rgI z37
    have g48 := rgI z38
    have g49 := rgI z39
    have hk43 : 0 ≤ z37.toInt := hk43
    have hk44 : z37.toInt ≤ o_length3_1.toInt := hk44
    have hk45 : ∀ j, 0 ≤ (z41 j).toInt ∧ (z41 j).toInt ≤ 120 := hk45
    have hk46 : ∀ j, 0 ≤ (z42 j).toInt ∧ (z42 j).toInt ≤ 120 := hk46
    rw [f_X6_writeClauses_J65]
    refine Sf_cb1 (s_X6_next n_p1 o_length3_1 z37 s_p1 (by omega) (by omega)) (fun r67_37 hp50 => ?_)
    have hp50 : (r67_37.toInt = -1 ∨ z37.toInt < o_length3_1.toInt) := hp50
    have g51 := rgI r67_37
    refine Sf_ite (fun h52 => ?_) (fun h52 => ?_)
    · skip
      have c53 := eqI h52
      rw [f_X6_writeClauses_J79]
      have l54 : (4 : Int32).toInt = 4 := by decide
      refine Sf_cb2 (s_X6_fail z38 4 ) (fun r79_43 o_fault79_44 hp55 => ?_)
      have hp55 : ((r79_43.toInt = 0 ∨ r79_43.toInt = 1)) ∧ (r79_43.toInt = 0) := hp55
      obtain ⟨hq56, hq57⟩ := hp55
      have g58 := rgI r79_43
      have g59 := rgI o_fault79_44
      refine Sf_some (show (∀ j, 0 ≤ (z41 j).toInt ∧ (z41 j).toInt ≤ 120) ∧ (∀ j, 0 ≤ (z42 j).toInt ∧ (z42 j).toInt ≤ 120) ∧ (∀ v, none = some v → tOK v) from ?_)
      refine ⟨?_, ?_, ?_⟩ <;> (first | omega | assumption | (intro v hv; cases hv; done))
    · skip
      have c60 := neI h52
      rw [f_X6_writeClauses_J79]
      have l61 : (1 : Int32).toInt = 1 := by decide
      refine Sf_cb2 (s_X6_fail z38 1 ) (fun r79_43 o_fault79_44 hp62 => ?_)
      have hp62 : ((r79_43.toInt = 0 ∨ r79_43.toInt = 1)) ∧ (r79_43.toInt = 0) := hp62
      obtain ⟨hq63, hq64⟩ := hp62
      have g65 := rgI r79_43
      have g66 := rgI o_fault79_44
      refine Sf_some (show (∀ j, 0 ≤ (z41 j).toInt ∧ (z41 j).toInt ≤ 120) ∧ (∀ j, 0 ≤ (z42 j).toInt ∧ (z42 j).toInt ≤ 120) ∧ (∀ v, none = some v → tOK v) from ?_)
      refine ⟨?_, ?_, ?_⟩ <;> (first | omega | assumption | (intro v hv; cases hv; done))
set_option maxHeartbeats 4000000 in
set_option maxRecDepth 100000 in
theorem s_X6_writeExpression (n_p1 : Nat) (s_length : Int32) (s_at : Int32) (s_used : Int32) (s_fault : Int32) (s_p1 : Nat → Int32) (s_code : Nat → Int32) (s_middles : Nat → Int32) (s_starts : Nat → Int32) (p2 : Int32) (hp0 : n_p1 = 200) (hp1 : 1 ≤ p2.toInt) (hp2 : p2.toInt ≤ 120) (hp3 : ∀ j, 0 ≤ (s_middles j).toInt ∧ (s_middles j).toInt ≤ 120) (hp4 : ∀ j, 0 ≤ (s_starts j).toInt ∧ (s_starts j).toInt ≤ 120) : Sf (f_X6_writeExpression n_p1 s_length s_at s_used s_fault s_p1 s_code s_middles s_starts p2) (fun (y : Int32 × Int32 × Int32 × Int32 × (Nat → Int32) × (Nat → Int32) × (Nat → Int32) × Option kTv) => (∀ j, 0 ≤ ((y.2.2.2.2.2.1) j).toInt ∧ ((y.2.2.2.2.2.1) j).toInt ≤ 120) ∧ (∀ j, 0 ≤ ((y.2.2.2.2.2.2.1) j).toInt ∧ ((y.2.2.2.2.2.2.1) j).toInt ≤ 120) ∧ (∀ v, (y.2.2.2.2.2.2.2) = some v → tOK v)) := by
  have g1 := rgI s_length
  have g2 := rgI s_at
  have g3 := rgI s_used
  have g4 := rgI s_fault
  have g5 := rgI p2
  have hFU : (100000 : Int) ≤ (FU : Int) := Int.ofNat_le.mpr FU_ge
  rw [f_X6_writeExpression]
  refine Sf_cb5 (s_X6_begin n_p1 s_length s_at s_used s_fault s_starts p2 (by omega) (by omega) (by omega) (by assumption)) (fun o_length3_1 o_at3_2 o_used3_3 o_fault3_4 o_starts3_5 hp6 => ?_)
  have hp6 : (1 ≤ o_length3_1.toInt ∧ o_length3_1.toInt ≤ 200 ∧ o_length3_1.toInt ≤ p2.toInt) ∧ (o_at3_2.toInt = 0) ∧ (o_used3_3.toInt = 0) ∧ (∀ j, 0 ≤ (o_starts3_5 j).toInt ∧ (o_starts3_5 j).toInt ≤ 120) := hp6
  obtain ⟨hq7, hq8, hq9, hq10⟩ := hp6
  have g11 := rgI o_length3_1
  have g12 := rgI o_at3_2
  have g13 := rgI o_used3_3
  have g14 := rgI o_fault3_4
  have l15 : (2 : Int32).toInt = 2 := by decide
  have l16 : (0 : Int32).toInt = 0 := by decide
  refine Sf_cb5 (s_X6_rowStands n_p1 o_length3_1 o_at3_2 o_used3_3 o_fault3_4 s_p1 s_code 2 0 (by omega) (by omega) (by omega) (by omega) (by omega) (by omega) (by omega) (by omega) (by omega) (by omega)) (fun r9_10 o_at9_11 o_used9_12 o_fault9_13 o_code9_14 hp17 => ?_)
  have hp17 : ((r9_10.toInt = 0 ∨ r9_10.toInt = 1)) ∧ (0 ≤ o_at9_11.toInt ∧ o_at9_11.toInt ≤ o_length3_1.toInt) ∧ (0 ≤ o_used9_12.toInt ∧ o_used9_12.toInt ≤ 120) := hp17
  obtain ⟨hq18, hq19, hq20⟩ := hp17
  have g21 := rgI r9_10
  have g22 := rgI o_at9_11
  have g23 := rgI o_used9_12
  have g24 := rgI o_fault9_13
  refine Sf_ite (fun h25 => ?_) (fun h25 => ?_)
  · skip
    have c26 := eqI h25
    refine Sf_some (show (∀ j, 0 ≤ (s_middles j).toInt ∧ (s_middles j).toInt ≤ 120) ∧ (∀ j, 0 ≤ (o_starts3_5 j).toInt ∧ (o_starts3_5 j).toInt ≤ 120) ∧ (∀ v, none = some v → tOK v) from ?_)
    refine ⟨?_, ?_, ?_⟩ <;> (first | omega | assumption | (intro v hv; cases hv; done) | exact hmi | exact hst)
  · skip
    have c27 := neI h25
    refine Sf_ite (fun h28 => ?_) (fun h28 => ?_)
    · skip
      have c29 := leI h28
      refine Sf_wrI (by omega) (by omega) (fun g45_25 hw30 => ?_)
      have hmi : ∀ j, 0 ≤ (g45_25 j).toInt ∧ (g45_25 j).toInt ≤ 120 := fun j => by rw [hw30]; unfold upd; split; (omega); (exact hp3 j)
      have l31 : (1 : Int32).toInt = 1 := by decide
      refine Sf_wrI (by omega) (by omega) (fun g55_30 hw32 => ?_)
      have hst : ∀ j, 0 ≤ (g55_30 j).toInt ∧ (g55_30 j).toInt ≤ 120 := fun j => by rw [hw32]; unfold upd; split; (omega); (exact (‹∀ j, 0 ≤ (o_starts3_5 j).toInt ∧ (o_starts3_5 j).toInt ≤ 120›) j)
      refine Sf_cb1 (s_X6_written o_used9_12 o_code9_14 g45_25 g55_30 1 (by omega) (by omega) (by omega) (by omega) (by assumption) (by assumption)) (fun nt58_35 hp33 => ?_)
      have hp33 : (∀ v, nt58_35 = some v → tOK v) := hp33
      refine Sf_some (show (∀ j, 0 ≤ (g45_25 j).toInt ∧ (g45_25 j).toInt ≤ 120) ∧ (∀ j, 0 ≤ (g55_30 j).toInt ∧ (g55_30 j).toInt ≤ 120) ∧ (∀ v, nt58_35 = some v → tOK v) from ?_)
      refine ⟨?_, ?_, ?_⟩ <;> (first | omega | assumption | (intro v hv; cases hv; done) | exact hmi | exact hst)
    · skip
      have c34 := nleI h28
      have l35 : (1 : Int32).toInt = 1 := by decide
      refine Sf_cb2 (s_X6_fail o_fault9_13 1 ) (fun r30_48 o_fault30_49 hp36 => ?_)
      have hp36 : ((r30_48.toInt = 0 ∨ r30_48.toInt = 1)) ∧ (r30_48.toInt = 0) := hp36
      obtain ⟨hq37, hq38⟩ := hp36
      have g39 := rgI r30_48
      have g40 := rgI o_fault30_49
      refine Sf_some (show (∀ j, 0 ≤ (s_middles j).toInt ∧ (s_middles j).toInt ≤ 120) ∧ (∀ j, 0 ≤ (o_starts3_5 j).toInt ∧ (o_starts3_5 j).toInt ≤ 120) ∧ (∀ v, none = some v → tOK v) from ?_)
      refine ⟨?_, ?_, ?_⟩ <;> (first | omega | assumption | (intro v hv; cases hv; done) | exact hmi | exact hst)
set_option maxHeartbeats 4000000 in
set_option maxRecDepth 100000 in
theorem s_X7_add (s_many : Int32) (hp0 : 0 ≤ s_many.toInt) (hp1 : s_many.toInt < 10) : Sf (f_X7_add s_many) (fun (y : Int32 × Int32) => ((y.2).toInt = s_many.toInt + 1)) := by
  have g1 := rgI s_many
  have hFU : (100000 : Int) ≤ (FU : Int) := Int.ofNat_le.mpr FU_ge
  rw [f_X7_add]
  refine Sf_ite (fun h2 => ?_) (fun h2 => ?_)
  · skip
    have l3 : (10 : Int32).toInt = 10 := by decide
    have c4 := ltI h2
    refine Sf_gdN (by omega) (by omega) ?_
    refine Sf_nmI (fun v28_7 hv5 => ?_)
    have g6 := rgI (s_many + 1)
    first | have e7 := adN s_many 1 (1) (by decide) (by omega) (by omega) | skip
    have q8 := eqI hv5
    have g9 := rgI (v28_7 - 1)
    first | have e10 := sbN v28_7 1 (1) (by decide) (by omega) (by omega) | skip
    refine Sf_some (show (v28_7.toInt = s_many.toInt + 1) from ?_)
    (omega)
  · skip
    have l11 : (10 : Int32).toInt = 10 := by decide
    have c12 := nltI h2
    exfalso
    omega
set_option maxHeartbeats 4000000 in
set_option maxRecDepth 100000 in
theorem s_X11_source (G : kG) (s_page_day : Int32) (s_sky_many : Int32) (p1 : Int32) (p2 : Int32) (p3 : Int32) (p4 : Int32) (p5 : Int32) (hp0 : 0 ≤ s_sky_many.toInt) (hp1 : s_sky_many.toInt ≤ 10) (hp2 : (p1.toInt = 0 ∨ p1.toInt = 1)) (hp3 : ∀ i : Nat, s_sky_many.toInt ≤ (i : Int) → i < 10 → G.1 i = none ∧ G.2 i = none) : Sf (f_X11_source G s_page_day s_sky_many p1 p2 p3 p4 p5) (fun (y : Int32 × Int32 × Int32 × Option (Nat × Int32 × Int32 × Int32 × Int32 × Int32 × Int32)) => (((y.2.2.2) = none ∧ (y.2.2.1).toInt = s_sky_many.toInt) ∨ (∃ f : Int32 × Int32 × Int32 × Int32 × Int32 × Int32, (y.2.2.2) = some (Int32.toNatClampNeg s_sky_many, f) ∧ (y.2.2.1).toInt = s_sky_many.toInt + 1 ∧ s_sky_many.toInt < 10 ∧ 0 ≤ f.2.2.2.1.toInt ∧ f.2.2.2.1.toInt ≤ 30))) := by
  have g1 := rgI s_page_day
  have g2 := rgI s_sky_many
  have g3 := rgI p1
  have g4 := rgI p2
  have g5 := rgI p3
  have g6 := rgI p4
  have g7 := rgI p5
  have hFU : (100000 : Int) ≤ (FU : Int) := Int.ofNat_le.mpr FU_ge
  rw [f_X11_source]
  refine Sf_cb1 (s_X11_isMinute p2 ) (fun r1_1 hp8 => ?_)
  have hp8 : ((r1_1.toInt = 0 ∨ r1_1.toInt = 1)) ∧ ((r1_1.toInt = 1 ∧ 0 ≤ p2.toInt ∧ p2.toInt ≤ 1439) ∨ (r1_1.toInt = 0 ∧ (p2.toInt < 0 ∨ 1439 < p2.toInt))) := hp8
  obtain ⟨hq9, hq10⟩ := hp8
  have g11 := rgI r1_1
  refine Sf_ite (fun h12 => ?_) (fun h12 => ?_)
  · skip
    have l13 : (0 : Int32).toInt = 0 := by decide
    have c14 := eqI h12
    rw [f_X11_source_J41]
    refine Sf_ite (fun h15 => ?_) (fun h15 => ?_)
    · skip
      have c16 := eqI h15
      have l17 : ((-1) : Int32).toInt = -1 := by decide
      refine Sf_some (show ((none = none ∧ s_sky_many.toInt = s_sky_many.toInt) ∨ (∃ f : Int32 × Int32 × Int32 × Int32 × Int32 × Int32, none = some (Int32.toNatClampNeg s_sky_many, f) ∧ s_sky_many.toInt = s_sky_many.toInt + 1 ∧ s_sky_many.toInt < 10 ∧ 0 ≤ f.2.2.2.1.toInt ∧ f.2.2.2.1.toInt ≤ 30)) from ?_)
      (first | exact Or.inl ⟨rfl, rfl⟩ | (refine Or.inr ⟨_, rfl, ?_, ?_, ?_, ?_⟩ <;> (try dsimp only) <;> omega))
    · skip
      have c18 := neI h15
      refine Sf_ite (fun h19 => ?_) (fun h19 => ?_)
      · skip
        have l20 : (10 : Int32).toInt = 10 := by decide
        have c21 := ltI h19
        refine Sf_cb1 (s_X4_forget s_page_day ) (fun o_day66_23 hp22 => ?_)
        have g23 := rgI o_day66_23
        refine Sf_bo (by omega) ?_
        refine Sf_cb2 (s_X7_add s_sky_many (by omega) (by omega)) (fun r94_40 o_many94_41 hp24 => ?_)
        have hp24 : (o_many94_41.toInt = s_sky_many.toInt + 1) := hp24
        have g25 := rgI r94_40
        have g26 := rgI o_many94_41
        refine Sf_ckS (by have := tN s_sky_many (by omega); omega) ((hp3 (Int32.toNatClampNeg s_sky_many) (by have := tN s_sky_many (by omega); omega) (by have := tN s_sky_many (by omega); omega)).1) ((hp3 (Int32.toNatClampNeg s_sky_many) (by have := tN s_sky_many (by omega); omega) (by have := tN s_sky_many (by omega); omega)).2) ?_
        refine Sf_some (show (((some ((Int32.toNatClampNeg s_sky_many), (s_sky_many, p1, p2, p3, p4, p5))) = none ∧ o_many94_41.toInt = s_sky_many.toInt) ∨ (∃ f : Int32 × Int32 × Int32 × Int32 × Int32 × Int32, (some ((Int32.toNatClampNeg s_sky_many), (s_sky_many, p1, p2, p3, p4, p5))) = some (Int32.toNatClampNeg s_sky_many, f) ∧ o_many94_41.toInt = s_sky_many.toInt + 1 ∧ s_sky_many.toInt < 10 ∧ 0 ≤ f.2.2.2.1.toInt ∧ f.2.2.2.1.toInt ≤ 30)) from ?_)
        (first | exact Or.inl ⟨rfl, rfl⟩ | (refine Or.inr ⟨_, rfl, ?_, ?_, ?_, ?_⟩ <;> (try dsimp only) <;> omega))
      · skip
        have l27 : (10 : Int32).toInt = 10 := by decide
        have c28 := nltI h19
        have l29 : ((-1) : Int32).toInt = -1 := by decide
        refine Sf_some (show ((none = none ∧ s_sky_many.toInt = s_sky_many.toInt) ∨ (∃ f : Int32 × Int32 × Int32 × Int32 × Int32 × Int32, none = some (Int32.toNatClampNeg s_sky_many, f) ∧ s_sky_many.toInt = s_sky_many.toInt + 1 ∧ s_sky_many.toInt < 10 ∧ 0 ≤ f.2.2.2.1.toInt ∧ f.2.2.2.1.toInt ≤ 30)) from ?_)
        (first | exact Or.inl ⟨rfl, rfl⟩ | (refine Or.inr ⟨_, rfl, ?_, ?_, ?_, ?_⟩ <;> (try dsimp only) <;> omega))
  · skip
    have l30 : (0 : Int32).toInt = 0 := by decide
    have c31 := neI h12
    have l32 : (30 : Int32).toInt = 30 := by decide
    refine Sf_cb1 (s_X11_isWithin p3 0 30 ) (fun r11_68 hp33 => ?_)
    have hp33 : ((r11_68.toInt = 0 ∨ r11_68.toInt = 1)) ∧ ((r11_68.toInt = 1 ∧ (0 : Int32).toInt ≤ p3.toInt ∧ p3.toInt ≤ (30 : Int32).toInt) ∨ (r11_68.toInt = 0 ∧ (p3.toInt < (0 : Int32).toInt ∨ (30 : Int32).toInt < p3.toInt))) := hp33
    obtain ⟨hq34, hq35⟩ := hp33
    have g36 := rgI r11_68
    refine Sf_ite (fun h37 => ?_) (fun h37 => ?_)
    · skip
      have c38 := eqI h37
      rw [f_X11_source_J41]
      refine Sf_ite (fun h39 => ?_) (fun h39 => ?_)
      · skip
        have c40 := eqI h39
        have l41 : ((-1) : Int32).toInt = -1 := by decide
        refine Sf_some (show ((none = none ∧ s_sky_many.toInt = s_sky_many.toInt) ∨ (∃ f : Int32 × Int32 × Int32 × Int32 × Int32 × Int32, none = some (Int32.toNatClampNeg s_sky_many, f) ∧ s_sky_many.toInt = s_sky_many.toInt + 1 ∧ s_sky_many.toInt < 10 ∧ 0 ≤ f.2.2.2.1.toInt ∧ f.2.2.2.1.toInt ≤ 30)) from ?_)
        (first | exact Or.inl ⟨rfl, rfl⟩ | (refine Or.inr ⟨_, rfl, ?_, ?_, ?_, ?_⟩ <;> (try dsimp only) <;> omega))
      · skip
        have c42 := neI h39
        refine Sf_ite (fun h43 => ?_) (fun h43 => ?_)
        · skip
          have l44 : (10 : Int32).toInt = 10 := by decide
          have c45 := ltI h43
          refine Sf_cb1 (s_X4_forget s_page_day ) (fun o_day66_23 hp46 => ?_)
          have g47 := rgI o_day66_23
          refine Sf_bo (by omega) ?_
          refine Sf_cb2 (s_X7_add s_sky_many (by omega) (by omega)) (fun r94_40 o_many94_41 hp48 => ?_)
          have hp48 : (o_many94_41.toInt = s_sky_many.toInt + 1) := hp48
          have g49 := rgI r94_40
          have g50 := rgI o_many94_41
          refine Sf_ckS (by have := tN s_sky_many (by omega); omega) ((hp3 (Int32.toNatClampNeg s_sky_many) (by have := tN s_sky_many (by omega); omega) (by have := tN s_sky_many (by omega); omega)).1) ((hp3 (Int32.toNatClampNeg s_sky_many) (by have := tN s_sky_many (by omega); omega) (by have := tN s_sky_many (by omega); omega)).2) ?_
          refine Sf_some (show (((some ((Int32.toNatClampNeg s_sky_many), (s_sky_many, p1, p2, p3, p4, p5))) = none ∧ o_many94_41.toInt = s_sky_many.toInt) ∨ (∃ f : Int32 × Int32 × Int32 × Int32 × Int32 × Int32, (some ((Int32.toNatClampNeg s_sky_many), (s_sky_many, p1, p2, p3, p4, p5))) = some (Int32.toNatClampNeg s_sky_many, f) ∧ o_many94_41.toInt = s_sky_many.toInt + 1 ∧ s_sky_many.toInt < 10 ∧ 0 ≤ f.2.2.2.1.toInt ∧ f.2.2.2.1.toInt ≤ 30)) from ?_)
          (first | exact Or.inl ⟨rfl, rfl⟩ | (refine Or.inr ⟨_, rfl, ?_, ?_, ?_, ?_⟩ <;> (try dsimp only) <;> omega))
        · skip
          have l51 : (10 : Int32).toInt = 10 := by decide
          have c52 := nltI h43
          have l53 : ((-1) : Int32).toInt = -1 := by decide
          refine Sf_some (show ((none = none ∧ s_sky_many.toInt = s_sky_many.toInt) ∨ (∃ f : Int32 × Int32 × Int32 × Int32 × Int32 × Int32, none = some (Int32.toNatClampNeg s_sky_many, f) ∧ s_sky_many.toInt = s_sky_many.toInt + 1 ∧ s_sky_many.toInt < 10 ∧ 0 ≤ f.2.2.2.1.toInt ∧ f.2.2.2.1.toInt ≤ 30)) from ?_)
          (first | exact Or.inl ⟨rfl, rfl⟩ | (refine Or.inr ⟨_, rfl, ?_, ?_, ?_, ?_⟩ <;> (try dsimp only) <;> omega))
    · skip
      have c54 := neI h37
      refine Sf_cb1 (s_X11_isShape p4 ) (fun r19_81 hp55 => ?_)
      have hp55 : ((r19_81.toInt = 0 ∨ r19_81.toInt = 1)) ∧ ((r19_81.toInt = 1 ∧ 0 ≤ p4.toInt ∧ p4.toInt ≤ 3) ∨ (r19_81.toInt = 0 ∧ (p4.toInt < 0 ∨ 3 < p4.toInt))) := hp55
      obtain ⟨hq56, hq57⟩ := hp55
      have g58 := rgI r19_81
      refine Sf_ite (fun h59 => ?_) (fun h59 => ?_)
      · skip
        have c60 := eqI h59
        rw [f_X11_source_J41]
        refine Sf_ite (fun h61 => ?_) (fun h61 => ?_)
        · skip
          have c62 := eqI h61
          have l63 : ((-1) : Int32).toInt = -1 := by decide
          refine Sf_some (show ((none = none ∧ s_sky_many.toInt = s_sky_many.toInt) ∨ (∃ f : Int32 × Int32 × Int32 × Int32 × Int32 × Int32, none = some (Int32.toNatClampNeg s_sky_many, f) ∧ s_sky_many.toInt = s_sky_many.toInt + 1 ∧ s_sky_many.toInt < 10 ∧ 0 ≤ f.2.2.2.1.toInt ∧ f.2.2.2.1.toInt ≤ 30)) from ?_)
          (first | exact Or.inl ⟨rfl, rfl⟩ | (refine Or.inr ⟨_, rfl, ?_, ?_, ?_, ?_⟩ <;> (try dsimp only) <;> omega))
        · skip
          have c64 := neI h61
          refine Sf_ite (fun h65 => ?_) (fun h65 => ?_)
          · skip
            have l66 : (10 : Int32).toInt = 10 := by decide
            have c67 := ltI h65
            refine Sf_cb1 (s_X4_forget s_page_day ) (fun o_day66_23 hp68 => ?_)
            have g69 := rgI o_day66_23
            refine Sf_bo (by omega) ?_
            refine Sf_cb2 (s_X7_add s_sky_many (by omega) (by omega)) (fun r94_40 o_many94_41 hp70 => ?_)
            have hp70 : (o_many94_41.toInt = s_sky_many.toInt + 1) := hp70
            have g71 := rgI r94_40
            have g72 := rgI o_many94_41
            refine Sf_ckS (by have := tN s_sky_many (by omega); omega) ((hp3 (Int32.toNatClampNeg s_sky_many) (by have := tN s_sky_many (by omega); omega) (by have := tN s_sky_many (by omega); omega)).1) ((hp3 (Int32.toNatClampNeg s_sky_many) (by have := tN s_sky_many (by omega); omega) (by have := tN s_sky_many (by omega); omega)).2) ?_
            refine Sf_some (show (((some ((Int32.toNatClampNeg s_sky_many), (s_sky_many, p1, p2, p3, p4, p5))) = none ∧ o_many94_41.toInt = s_sky_many.toInt) ∨ (∃ f : Int32 × Int32 × Int32 × Int32 × Int32 × Int32, (some ((Int32.toNatClampNeg s_sky_many), (s_sky_many, p1, p2, p3, p4, p5))) = some (Int32.toNatClampNeg s_sky_many, f) ∧ o_many94_41.toInt = s_sky_many.toInt + 1 ∧ s_sky_many.toInt < 10 ∧ 0 ≤ f.2.2.2.1.toInt ∧ f.2.2.2.1.toInt ≤ 30)) from ?_)
            (first | exact Or.inl ⟨rfl, rfl⟩ | (refine Or.inr ⟨_, rfl, ?_, ?_, ?_, ?_⟩ <;> (try dsimp only) <;> omega))
          · skip
            have l73 : (10 : Int32).toInt = 10 := by decide
            have c74 := nltI h65
            have l75 : ((-1) : Int32).toInt = -1 := by decide
            refine Sf_some (show ((none = none ∧ s_sky_many.toInt = s_sky_many.toInt) ∨ (∃ f : Int32 × Int32 × Int32 × Int32 × Int32 × Int32, none = some (Int32.toNatClampNeg s_sky_many, f) ∧ s_sky_many.toInt = s_sky_many.toInt + 1 ∧ s_sky_many.toInt < 10 ∧ 0 ≤ f.2.2.2.1.toInt ∧ f.2.2.2.1.toInt ≤ 30)) from ?_)
            (first | exact Or.inl ⟨rfl, rfl⟩ | (refine Or.inr ⟨_, rfl, ?_, ?_, ?_, ?_⟩ <;> (try dsimp only) <;> omega))
      · skip
        have c76 := neI h59
        have l77 : (127 : Int32).toInt = 127 := by decide
        refine Sf_cb1 (s_X11_isWithin p5 0 127 ) (fun r30_94 hp78 => ?_)
        have hp78 : ((r30_94.toInt = 0 ∨ r30_94.toInt = 1)) ∧ ((r30_94.toInt = 1 ∧ (0 : Int32).toInt ≤ p5.toInt ∧ p5.toInt ≤ (127 : Int32).toInt) ∨ (r30_94.toInt = 0 ∧ (p5.toInt < (0 : Int32).toInt ∨ (127 : Int32).toInt < p5.toInt))) := hp78
        obtain ⟨hq79, hq80⟩ := hp78
        have g81 := rgI r30_94
        refine Sf_ite (fun h82 => ?_) (fun h82 => ?_)
        · skip
          have c83 := eqI h82
          rw [f_X11_source_J41]
          refine Sf_ite (fun h84 => ?_) (fun h84 => ?_)
          · skip
            have c85 := eqI h84
            have l86 : ((-1) : Int32).toInt = -1 := by decide
            refine Sf_some (show ((none = none ∧ s_sky_many.toInt = s_sky_many.toInt) ∨ (∃ f : Int32 × Int32 × Int32 × Int32 × Int32 × Int32, none = some (Int32.toNatClampNeg s_sky_many, f) ∧ s_sky_many.toInt = s_sky_many.toInt + 1 ∧ s_sky_many.toInt < 10 ∧ 0 ≤ f.2.2.2.1.toInt ∧ f.2.2.2.1.toInt ≤ 30)) from ?_)
            (first | exact Or.inl ⟨rfl, rfl⟩ | (refine Or.inr ⟨_, rfl, ?_, ?_, ?_, ?_⟩ <;> (try dsimp only) <;> omega))
          · skip
            have c87 := neI h84
            refine Sf_ite (fun h88 => ?_) (fun h88 => ?_)
            · skip
              have l89 : (10 : Int32).toInt = 10 := by decide
              have c90 := ltI h88
              refine Sf_cb1 (s_X4_forget s_page_day ) (fun o_day66_23 hp91 => ?_)
              have g92 := rgI o_day66_23
              refine Sf_bo (by omega) ?_
              refine Sf_cb2 (s_X7_add s_sky_many (by omega) (by omega)) (fun r94_40 o_many94_41 hp93 => ?_)
              have hp93 : (o_many94_41.toInt = s_sky_many.toInt + 1) := hp93
              have g94 := rgI r94_40
              have g95 := rgI o_many94_41
              refine Sf_ckS (by have := tN s_sky_many (by omega); omega) ((hp3 (Int32.toNatClampNeg s_sky_many) (by have := tN s_sky_many (by omega); omega) (by have := tN s_sky_many (by omega); omega)).1) ((hp3 (Int32.toNatClampNeg s_sky_many) (by have := tN s_sky_many (by omega); omega) (by have := tN s_sky_many (by omega); omega)).2) ?_
              refine Sf_some (show (((some ((Int32.toNatClampNeg s_sky_many), (s_sky_many, p1, p2, p3, p4, p5))) = none ∧ o_many94_41.toInt = s_sky_many.toInt) ∨ (∃ f : Int32 × Int32 × Int32 × Int32 × Int32 × Int32, (some ((Int32.toNatClampNeg s_sky_many), (s_sky_many, p1, p2, p3, p4, p5))) = some (Int32.toNatClampNeg s_sky_many, f) ∧ o_many94_41.toInt = s_sky_many.toInt + 1 ∧ s_sky_many.toInt < 10 ∧ 0 ≤ f.2.2.2.1.toInt ∧ f.2.2.2.1.toInt ≤ 30)) from ?_)
              (first | exact Or.inl ⟨rfl, rfl⟩ | (refine Or.inr ⟨_, rfl, ?_, ?_, ?_, ?_⟩ <;> (try dsimp only) <;> omega))
            · skip
              have l96 : (10 : Int32).toInt = 10 := by decide
              have c97 := nltI h88
              have l98 : ((-1) : Int32).toInt = -1 := by decide
              refine Sf_some (show ((none = none ∧ s_sky_many.toInt = s_sky_many.toInt) ∨ (∃ f : Int32 × Int32 × Int32 × Int32 × Int32 × Int32, none = some (Int32.toNatClampNeg s_sky_many, f) ∧ s_sky_many.toInt = s_sky_many.toInt + 1 ∧ s_sky_many.toInt < 10 ∧ 0 ≤ f.2.2.2.1.toInt ∧ f.2.2.2.1.toInt ≤ 30)) from ?_)
              (first | exact Or.inl ⟨rfl, rfl⟩ | (refine Or.inr ⟨_, rfl, ?_, ?_, ?_, ?_⟩ <;> (try dsimp only) <;> omega))
        · skip
          have c99 := neI h82
          rw [f_X11_source_J41]
          refine Sf_ite (fun h100 => ?_) (fun h100 => ?_)
          · skip
            have l101 : (1 : Int32).toInt = 1 := by decide
            have c102 := eqI h100
            have l103 : ((-1) : Int32).toInt = -1 := by decide
            refine Sf_some (show ((none = none ∧ s_sky_many.toInt = s_sky_many.toInt) ∨ (∃ f : Int32 × Int32 × Int32 × Int32 × Int32 × Int32, none = some (Int32.toNatClampNeg s_sky_many, f) ∧ s_sky_many.toInt = s_sky_many.toInt + 1 ∧ s_sky_many.toInt < 10 ∧ 0 ≤ f.2.2.2.1.toInt ∧ f.2.2.2.1.toInt ≤ 30)) from ?_)
            (first | exact Or.inl ⟨rfl, rfl⟩ | (refine Or.inr ⟨_, rfl, ?_, ?_, ?_, ?_⟩ <;> (try dsimp only) <;> omega))
          · skip
            have l104 : (1 : Int32).toInt = 1 := by decide
            have c105 := neI h100
            refine Sf_ite (fun h106 => ?_) (fun h106 => ?_)
            · skip
              have l107 : (10 : Int32).toInt = 10 := by decide
              have c108 := ltI h106
              refine Sf_cb1 (s_X4_forget s_page_day ) (fun o_day66_23 hp109 => ?_)
              have g110 := rgI o_day66_23
              refine Sf_bo (by omega) ?_
              refine Sf_cb2 (s_X7_add s_sky_many (by omega) (by omega)) (fun r94_40 o_many94_41 hp111 => ?_)
              have hp111 : (o_many94_41.toInt = s_sky_many.toInt + 1) := hp111
              have g112 := rgI r94_40
              have g113 := rgI o_many94_41
              refine Sf_ckS (by have := tN s_sky_many (by omega); omega) ((hp3 (Int32.toNatClampNeg s_sky_many) (by have := tN s_sky_many (by omega); omega) (by have := tN s_sky_many (by omega); omega)).1) ((hp3 (Int32.toNatClampNeg s_sky_many) (by have := tN s_sky_many (by omega); omega) (by have := tN s_sky_many (by omega); omega)).2) ?_
              refine Sf_some (show (((some ((Int32.toNatClampNeg s_sky_many), (s_sky_many, p1, p2, p3, p4, p5))) = none ∧ o_many94_41.toInt = s_sky_many.toInt) ∨ (∃ f : Int32 × Int32 × Int32 × Int32 × Int32 × Int32, (some ((Int32.toNatClampNeg s_sky_many), (s_sky_many, p1, p2, p3, p4, p5))) = some (Int32.toNatClampNeg s_sky_many, f) ∧ o_many94_41.toInt = s_sky_many.toInt + 1 ∧ s_sky_many.toInt < 10 ∧ 0 ≤ f.2.2.2.1.toInt ∧ f.2.2.2.1.toInt ≤ 30)) from ?_)
              (first | exact Or.inl ⟨rfl, rfl⟩ | (refine Or.inr ⟨_, rfl, ?_, ?_, ?_, ?_⟩ <;> (try dsimp only) <;> omega))
            · skip
              have l114 : (10 : Int32).toInt = 10 := by decide
              have c115 := nltI h106
              have l116 : ((-1) : Int32).toInt = -1 := by decide
              refine Sf_some (show ((none = none ∧ s_sky_many.toInt = s_sky_many.toInt) ∨ (∃ f : Int32 × Int32 × Int32 × Int32 × Int32 × Int32, none = some (Int32.toNatClampNeg s_sky_many, f) ∧ s_sky_many.toInt = s_sky_many.toInt + 1 ∧ s_sky_many.toInt < 10 ∧ 0 ≤ f.2.2.2.1.toInt ∧ f.2.2.2.1.toInt ≤ 30)) from ?_)
              (first | exact Or.inl ⟨rfl, rfl⟩ | (refine Or.inr ⟨_, rfl, ?_, ?_, ?_, ?_⟩ <;> (try dsimp only) <;> omega))
set_option maxHeartbeats 4000000 in
set_option maxRecDepth 100000 in
theorem s_X11_law (G : kG) (s_page_day : Int32) (s_scribe_length : Int32) (s_scribe_at : Int32) (s_scribe_used : Int32) (s_scribe_fault : Int32) (s_sky_many : Int32) (s_tape_length : Int32) (s_scribe_code : Nat → Int32) (s_scribe_middles : Nat → Int32) (s_scribe_starts : Nat → Int32) (s_tape_bytes : Nat → Int32) (p1 : Int32) (p2 : Int32) (hp0 : 0 ≤ s_sky_many.toInt) (hp1 : s_sky_many.toInt ≤ 10) (hp2 : 0 ≤ s_tape_length.toInt) (hp3 : s_tape_length.toInt ≤ 200) (hp4 : ∀ j, 0 ≤ (s_scribe_middles j).toInt ∧ (s_scribe_middles j).toInt ≤ 120) (hp5 : ∀ j, 0 ≤ (s_scribe_starts j).toInt ∧ (s_scribe_starts j).toInt ≤ 120) : Sf (f_X11_law G s_page_day s_scribe_length s_scribe_at s_scribe_used s_scribe_fault s_sky_many s_tape_length s_scribe_code s_scribe_middles s_scribe_starts s_tape_bytes p1 p2) (fun (y : Int32 × Int32 × Int32 × Int32 × Int32 × Int32 × Int32 × (Nat → Int32) × (Nat → Int32) × (Nat → Int32) × Option (Nat × kTv)) => (0 ≤ (y.2.2.2.2.2.2.1).toInt ∧ (y.2.2.2.2.2.2.1).toInt ≤ 200) ∧ (∀ j, 0 ≤ ((y.2.2.2.2.2.2.2.2.1) j).toInt ∧ ((y.2.2.2.2.2.2.2.2.1) j).toInt ≤ 120) ∧ (∀ j, 0 ≤ ((y.2.2.2.2.2.2.2.2.2.1) j).toInt ∧ ((y.2.2.2.2.2.2.2.2.2.1) j).toInt ≤ 120) ∧ (∀ q : Nat × kTv, (y.2.2.2.2.2.2.2.2.2.2) = some q → (q.1 : Int) < s_sky_many.toInt ∧ q.1 < 10 ∧ tOK q.2)) := by
  have g1 := rgI s_page_day
  have g2 := rgI s_scribe_length
  have g3 := rgI s_scribe_at
  have g4 := rgI s_scribe_used
  have g5 := rgI s_scribe_fault
  have g6 := rgI s_sky_many
  have g7 := rgI s_tape_length
  have g8 := rgI p1
  have g9 := rgI p2
  have hFU : (100000 : Int) ≤ (FU : Int) := Int.ofNat_le.mpr FU_ge
  rw [f_X11_law]
  refine Sf_cb1 (s_X7_sourceAt G s_sky_many p1 (by omega) (by omega)) (fun r5_1 hp10 => ?_)
  have hp10 : (∀ i : Nat, r5_1 = some i → (i : Int) < s_sky_many.toInt ∧ i < 10) := hp10
  refine Sf_oS (fun z16 hz17 => by first | exact hp10 z16 hz17 | exact (hp10 z16 hz17).2) (fun hn11 => ?_) (fun i12 s_12 hr13 hi14 hg15 => ?_)
  · skip
    have l18 : ((-1) : Int32).toInt = -1 := by decide
    refine Sf_some (show (0 ≤ s_tape_length.toInt ∧ s_tape_length.toInt ≤ 200) ∧ (∀ j, 0 ≤ (s_scribe_middles j).toInt ∧ (s_scribe_middles j).toInt ≤ 120) ∧ (∀ j, 0 ≤ (s_scribe_starts j).toInt ∧ (s_scribe_starts j).toInt ≤ 120) ∧ (∀ q : Nat × kTv, none = some q → (q.1 : Int) < s_sky_many.toInt ∧ q.1 < 10 ∧ tOK q.2) from ?_)
    refine ⟨?_, ?_, ?_, ?_⟩ <;> (first | omega | assumption | (intro q hq; cases hq; done) | (intro q hq; cases hq; exact ⟨by omega, (‹∀ v, _ = some v → tOK v›) _ ‹_›⟩) | (intro q hq; cases hq; have := tN p1 (by omega); exact ⟨by dsimp only; omega, by dsimp only; omega, (‹∀ v, _ = some v → tOK v›) _ ‹_›⟩) | (intro q hq; cases hq; exact ⟨by dsimp only; omega, by dsimp only; omega, (‹∀ v, _ = some v → tOK v›) _ ‹_›⟩))
  · skip
    subst hr13
    have hlt := (‹∀ j : Nat, some i12 = some j → (j : Int) < s_sky_many.toInt ∧ j < 10›) i12 rfl
    have l19 : (120 : Int32).toInt = 120 := by decide
    refine Sf_cb1 (s_X11_tapeHas s_tape_length p2 120 ) (fun r17_32 hp20 => ?_)
    have hp20 : ((r17_32.toInt = 0 ∨ r17_32.toInt = 1)) ∧ (r17_32.toInt = 0 ∨ (1 ≤ p2.toInt ∧ p2.toInt ≤ (120 : Int32).toInt ∧ p2.toInt ≤ s_tape_length.toInt)) := hp20
    obtain ⟨hq21, hq22⟩ := hp20
    have g23 := rgI r17_32
    refine Sf_ite (fun h24 => ?_) (fun h24 => ?_)
    · skip
      have l25 : (0 : Int32).toInt = 0 := by decide
      have c26 := eqI h24
      have l27 : ((-1) : Int32).toInt = -1 := by decide
      refine Sf_some (show (0 ≤ s_tape_length.toInt ∧ s_tape_length.toInt ≤ 200) ∧ (∀ j, 0 ≤ (s_scribe_middles j).toInt ∧ (s_scribe_middles j).toInt ≤ 120) ∧ (∀ j, 0 ≤ (s_scribe_starts j).toInt ∧ (s_scribe_starts j).toInt ≤ 120) ∧ (∀ q : Nat × kTv, none = some q → (q.1 : Int) < s_sky_many.toInt ∧ q.1 < 10 ∧ tOK q.2) from ?_)
      refine ⟨?_, ?_, ?_, ?_⟩ <;> (first | omega | assumption | (intro q hq; cases hq; done) | (intro q hq; cases hq; exact ⟨by omega, (‹∀ v, _ = some v → tOK v›) _ ‹_›⟩) | (intro q hq; cases hq; have := tN p1 (by omega); exact ⟨by dsimp only; omega, by dsimp only; omega, (‹∀ v, _ = some v → tOK v›) _ ‹_›⟩) | (intro q hq; cases hq; exact ⟨by dsimp only; omega, by dsimp only; omega, (‹∀ v, _ = some v → tOK v›) _ ‹_›⟩))
    · skip
      have l28 : (0 : Int32).toInt = 0 := by decide
      have c29 := neI h24
      have l30 : (104 : Int32).toInt = 104 := by decide
      refine Sf_cb8 (s_X6_writeClauses 200 s_scribe_length s_scribe_at s_scribe_used s_scribe_fault s_tape_bytes s_scribe_code s_scribe_middles s_scribe_starts p2 104 (by omega) (by omega) (by omega) (by assumption) (by assumption) (by omega)) (fun o_length39_45 o_at39_46 o_used39_47 o_fault39_48 o_code39_49 o_middles39_50 o_starts39_51 nt39_52 hp31 => ?_)
      have hp31 : (∀ j, 0 ≤ (o_middles39_50 j).toInt ∧ (o_middles39_50 j).toInt ≤ 120) ∧ (∀ j, 0 ≤ (o_starts39_51 j).toInt ∧ (o_starts39_51 j).toInt ≤ 120) ∧ (∀ v, nt39_52 = some v → tOK v) := hp31
      obtain ⟨hq32, hq33, hq34⟩ := hp31
      have g35 := rgI o_length39_45
      have g36 := rgI o_at39_46
      have g37 := rgI o_used39_47
      have g38 := rgI o_fault39_48
      refine Sf_oN (fun hn39 => ?_) (fun v_65 hn40 => ?_)
      · skip
        refine Sf_cb1 (s_X9_clear s_tape_length ) (fun o_length48_69 hp41 => ?_)
        have hp41 : (o_length48_69.toInt = 0) := hp41
        have g42 := rgI o_length48_69
        refine Sf_cb1 (s_X6_faultCode o_at39_46 o_fault39_48 ) (fun r60_79 hp43 => ?_)
        have g44 := rgI r60_79
        refine Sf_some (show (0 ≤ o_length48_69.toInt ∧ o_length48_69.toInt ≤ 200) ∧ (∀ j, 0 ≤ (o_middles39_50 j).toInt ∧ (o_middles39_50 j).toInt ≤ 120) ∧ (∀ j, 0 ≤ (o_starts39_51 j).toInt ∧ (o_starts39_51 j).toInt ≤ 120) ∧ (∀ q : Nat × kTv, none = some q → (q.1 : Int) < s_sky_many.toInt ∧ q.1 < 10 ∧ tOK q.2) from ?_)
        refine ⟨?_, ?_, ?_, ?_⟩ <;> (first | omega | assumption | (intro q hq; cases hq; done) | (intro q hq; cases hq; exact ⟨by omega, (‹∀ v, _ = some v → tOK v›) _ ‹_›⟩) | (intro q hq; cases hq; have := tN p1 (by omega); exact ⟨by dsimp only; omega, by dsimp only; omega, (‹∀ v, _ = some v → tOK v›) _ ‹_›⟩) | (intro q hq; cases hq; exact ⟨by dsimp only; omega, by dsimp only; omega, (‹∀ v, _ = some v → tOK v›) _ ‹_›⟩))
      · skip
        refine Sf_cb1 (s_X9_clear s_tape_length ) (fun o_length48_102 hp45 => ?_)
        have hp45 : (o_length48_102.toInt = 0) := hp45
        have g46 := rgI o_length48_102
        refine Sf_cb1 (s_X4_forget s_page_day ) (fun o_day68_112 hp47 => ?_)
        have g48 := rgI o_day68_112
        refine Sf_some (show (0 ≤ o_length48_102.toInt ∧ o_length48_102.toInt ≤ 200) ∧ (∀ j, 0 ≤ (o_middles39_50 j).toInt ∧ (o_middles39_50 j).toInt ≤ 120) ∧ (∀ j, 0 ≤ (o_starts39_51 j).toInt ∧ (o_starts39_51 j).toInt ≤ 120) ∧ (∀ q : Nat × kTv, (some (i12, v_65)) = some q → (q.1 : Int) < s_sky_many.toInt ∧ q.1 < 10 ∧ tOK q.2) from ?_)
        refine ⟨?_, ?_, ?_, ?_⟩ <;> (first | omega | assumption | (intro q hq; cases hq; done) | (intro q hq; cases hq; exact ⟨by omega, (‹∀ v, _ = some v → tOK v›) _ ‹_›⟩) | (intro q hq; cases hq; have := tN p1 (by omega); exact ⟨by dsimp only; omega, by dsimp only; omega, (‹∀ v, _ = some v → tOK v›) _ ‹_›⟩) | (intro q hq; cases hq; exact ⟨by dsimp only; omega, by dsimp only; omega, (‹∀ v, _ = some v → tOK v›) _ ‹_›⟩))
set_option maxHeartbeats 4000000 in
set_option maxRecDepth 100000 in
theorem s_X11_way (G : kG) (s_page_readers : Int32) (s_scribe_length : Int32) (s_scribe_at : Int32) (s_scribe_used : Int32) (s_scribe_fault : Int32) (s_tape_length : Int32) (s_scribe_code : Nat → Int32) (s_scribe_middles : Nat → Int32) (s_scribe_starts : Nat → Int32) (s_tape_bytes : Nat → Int32) (p1 : Int32) (p2 : Int32) (hp0 : 0 ≤ s_tape_length.toInt) (hp1 : s_tape_length.toInt ≤ 200) (hp2 : ∀ j, 0 ≤ (s_scribe_middles j).toInt ∧ (s_scribe_middles j).toInt ≤ 120) (hp3 : ∀ j, 0 ≤ (s_scribe_starts j).toInt ∧ (s_scribe_starts j).toInt ≤ 120) : Sf (f_X11_way G s_page_readers s_scribe_length s_scribe_at s_scribe_used s_scribe_fault s_tape_length s_scribe_code s_scribe_middles s_scribe_starts s_tape_bytes p1 p2) (fun (y : Int32 × Int32 × Int32 × Int32 × Int32 × Int32 × Int32 × (Nat → Int32) × (Nat → Int32) × (Nat → Int32) × Option (Nat × kTv)) => (0 ≤ (y.2.2.2.2.2.2.1).toInt ∧ (y.2.2.2.2.2.2.1).toInt ≤ 200) ∧ (∀ j, 0 ≤ ((y.2.2.2.2.2.2.2.2.1) j).toInt ∧ ((y.2.2.2.2.2.2.2.2.1) j).toInt ≤ 120) ∧ (∀ j, 0 ≤ ((y.2.2.2.2.2.2.2.2.2.1) j).toInt ∧ ((y.2.2.2.2.2.2.2.2.2.1) j).toInt ≤ 120) ∧ (∀ q : Nat × kTv, (y.2.2.2.2.2.2.2.2.2.2) = some q → 10 ≤ q.1 ∧ q.1 < 14 ∧ tOK q.2)) := by
  have g1 := rgI s_page_readers
  have g2 := rgI s_scribe_length
  have g3 := rgI s_scribe_at
  have g4 := rgI s_scribe_used
  have g5 := rgI s_scribe_fault
  have g6 := rgI s_tape_length
  have g7 := rgI p1
  have g8 := rgI p2
  have hFU : (100000 : Int) ≤ (FU : Int) := Int.ofNat_le.mpr FU_ge
  rw [f_X11_way]
  refine Sf_cb1 (s_X11_isReader p1 ) (fun r1_1 hp9 => ?_)
  have hp9 : ((r1_1.toInt = 0 ∨ r1_1.toInt = 1)) ∧ ((r1_1.toInt = 1 ∧ 0 ≤ p1.toInt ∧ p1.toInt ≤ 3) ∨ (r1_1.toInt = 0 ∧ (p1.toInt < 0 ∨ 3 < p1.toInt))) := hp9
  obtain ⟨hq10, hq11⟩ := hp9
  have g12 := rgI r1_1
  refine Sf_ite (fun h13 => ?_) (fun h13 => ?_)
  · skip
    have l14 : (0 : Int32).toInt = 0 := by decide
    have c15 := eqI h13
    have l16 : ((-1) : Int32).toInt = -1 := by decide
    refine Sf_some (show (0 ≤ s_tape_length.toInt ∧ s_tape_length.toInt ≤ 200) ∧ (∀ j, 0 ≤ (s_scribe_middles j).toInt ∧ (s_scribe_middles j).toInt ≤ 120) ∧ (∀ j, 0 ≤ (s_scribe_starts j).toInt ∧ (s_scribe_starts j).toInt ≤ 120) ∧ (∀ q : Nat × kTv, none = some q → 10 ≤ q.1 ∧ q.1 < 14 ∧ tOK q.2) from ?_)
    refine ⟨?_, ?_, ?_, ?_⟩ <;> (first | omega | assumption | (intro q hq; cases hq; done) | (intro q hq; cases hq; exact ⟨by omega, (‹∀ v, _ = some v → tOK v›) _ ‹_›⟩) | (intro q hq; cases hq; have := tN p1 (by omega); exact ⟨by dsimp only; omega, by dsimp only; omega, (‹∀ v, _ = some v → tOK v›) _ ‹_›⟩))
  · skip
    have l17 : (0 : Int32).toInt = 0 := by decide
    have c18 := neI h13
    have l19 : (120 : Int32).toInt = 120 := by decide
    refine Sf_cb1 (s_X11_tapeHas s_tape_length p2 120 ) (fun r11_25 hp20 => ?_)
    have hp20 : ((r11_25.toInt = 0 ∨ r11_25.toInt = 1)) ∧ (r11_25.toInt = 0 ∨ (1 ≤ p2.toInt ∧ p2.toInt ≤ (120 : Int32).toInt ∧ p2.toInt ≤ s_tape_length.toInt)) := hp20
    obtain ⟨hq21, hq22⟩ := hp20
    have g23 := rgI r11_25
    refine Sf_ite (fun h24 => ?_) (fun h24 => ?_)
    · skip
      have c25 := eqI h24
      have l26 : ((-1) : Int32).toInt = -1 := by decide
      refine Sf_some (show (0 ≤ s_tape_length.toInt ∧ s_tape_length.toInt ≤ 200) ∧ (∀ j, 0 ≤ (s_scribe_middles j).toInt ∧ (s_scribe_middles j).toInt ≤ 120) ∧ (∀ j, 0 ≤ (s_scribe_starts j).toInt ∧ (s_scribe_starts j).toInt ≤ 120) ∧ (∀ q : Nat × kTv, none = some q → 10 ≤ q.1 ∧ q.1 < 14 ∧ tOK q.2) from ?_)
      refine ⟨?_, ?_, ?_, ?_⟩ <;> (first | omega | assumption | (intro q hq; cases hq; done) | (intro q hq; cases hq; exact ⟨by omega, (‹∀ v, _ = some v → tOK v›) _ ‹_›⟩) | (intro q hq; cases hq; have := tN p1 (by omega); exact ⟨by dsimp only; omega, by dsimp only; omega, (‹∀ v, _ = some v → tOK v›) _ ‹_›⟩))
    · skip
      have c27 := neI h24
      have l28 : (107 : Int32).toInt = 107 := by decide
      refine Sf_cb8 (s_X6_writeClauses 200 s_scribe_length s_scribe_at s_scribe_used s_scribe_fault s_tape_bytes s_scribe_code s_scribe_middles s_scribe_starts p2 107 (by omega) (by omega) (by omega) (by assumption) (by assumption) (by omega)) (fun o_length33_38 o_at33_39 o_used33_40 o_fault33_41 o_code33_42 o_middles33_43 o_starts33_44 nt33_45 hp29 => ?_)
      have hp29 : (∀ j, 0 ≤ (o_middles33_43 j).toInt ∧ (o_middles33_43 j).toInt ≤ 120) ∧ (∀ j, 0 ≤ (o_starts33_44 j).toInt ∧ (o_starts33_44 j).toInt ≤ 120) ∧ (∀ v, nt33_45 = some v → tOK v) := hp29
      obtain ⟨hq30, hq31, hq32⟩ := hp29
      have g33 := rgI o_length33_38
      have g34 := rgI o_at33_39
      have g35 := rgI o_used33_40
      have g36 := rgI o_fault33_41
      refine Sf_oN (fun hn37 => ?_) (fun v_58 hn38 => ?_)
      · skip
        refine Sf_cb1 (s_X9_clear s_tape_length ) (fun o_length41_62 hp39 => ?_)
        have hp39 : (o_length41_62.toInt = 0) := hp39
        have g40 := rgI o_length41_62
        refine Sf_cb1 (s_X6_faultCode o_at33_39 o_fault33_41 ) (fun r52_72 hp41 => ?_)
        have g42 := rgI r52_72
        refine Sf_some (show (0 ≤ o_length41_62.toInt ∧ o_length41_62.toInt ≤ 200) ∧ (∀ j, 0 ≤ (o_middles33_43 j).toInt ∧ (o_middles33_43 j).toInt ≤ 120) ∧ (∀ j, 0 ≤ (o_starts33_44 j).toInt ∧ (o_starts33_44 j).toInt ≤ 120) ∧ (∀ q : Nat × kTv, none = some q → 10 ≤ q.1 ∧ q.1 < 14 ∧ tOK q.2) from ?_)
        refine ⟨?_, ?_, ?_, ?_⟩ <;> (first | omega | assumption | (intro q hq; cases hq; done) | (intro q hq; cases hq; exact ⟨by omega, (‹∀ v, _ = some v → tOK v›) _ ‹_›⟩) | (intro q hq; cases hq; have := tN p1 (by omega); exact ⟨by dsimp only; omega, by dsimp only; omega, (‹∀ v, _ = some v → tOK v›) _ ‹_›⟩))
      · skip
        refine Sf_cb1 (s_X9_clear s_tape_length ) (fun o_length41_95 hp43 => ?_)
        have hp43 : (o_length41_95.toInt = 0) := hp43
        have g44 := rgI o_length41_95
        refine Sf_cb1 (s_X4_forgetReader s_page_readers p1 ) (fun o_readers61_105 hp45 => ?_)
        have g46 := rgI o_readers61_105
        refine Sf_gdN (by omega) (by omega) ?_
        refine Sf_some (show (0 ≤ o_length41_95.toInt ∧ o_length41_95.toInt ≤ 200) ∧ (∀ j, 0 ≤ (o_middles33_43 j).toInt ∧ (o_middles33_43 j).toInt ≤ 120) ∧ (∀ j, 0 ≤ (o_starts33_44 j).toInt ∧ (o_starts33_44 j).toInt ≤ 120) ∧ (∀ q : Nat × kTv, (some ((10 + Int32.toNatClampNeg p1), v_58)) = some q → 10 ≤ q.1 ∧ q.1 < 14 ∧ tOK q.2) from ?_)
        refine ⟨?_, ?_, ?_, ?_⟩ <;> (first | omega | assumption | (intro q hq; cases hq; done) | (intro q hq; cases hq; exact ⟨by omega, (‹∀ v, _ = some v → tOK v›) _ ‹_›⟩) | (intro q hq; cases hq; have := tN p1 (by omega); exact ⟨by dsimp only; omega, by dsimp only; omega, (‹∀ v, _ = some v → tOK v›) _ ‹_›⟩))
set_option maxHeartbeats 4000000 in
set_option maxRecDepth 100000 in
theorem s_X11_story (G : kG) (s_scribe_length : Int32) (s_scribe_at : Int32) (s_scribe_used : Int32) (s_scribe_fault : Int32) (s_tape_length : Int32) (s_scribe_code : Nat → Int32) (s_scribe_middles : Nat → Int32) (s_scribe_starts : Nat → Int32) (s_tape_bytes : Nat → Int32) (p1 : Int32) (p2 : Int32) (hp0 : 0 ≤ s_tape_length.toInt) (hp1 : s_tape_length.toInt ≤ 200) (hp2 : ∀ j, 0 ≤ (s_scribe_middles j).toInt ∧ (s_scribe_middles j).toInt ≤ 120) (hp3 : ∀ j, 0 ≤ (s_scribe_starts j).toInt ∧ (s_scribe_starts j).toInt ≤ 120) : Sf (f_X11_story G s_scribe_length s_scribe_at s_scribe_used s_scribe_fault s_tape_length s_scribe_code s_scribe_middles s_scribe_starts s_tape_bytes p1 p2) (fun (y : Int32 × Int32 × Int32 × Int32 × Int32 × Int32 × (Nat → Int32) × (Nat → Int32) × (Nat → Int32) × Option (Nat × kTv)) => (0 ≤ (y.2.2.2.2.2.1).toInt ∧ (y.2.2.2.2.2.1).toInt ≤ 200) ∧ (∀ j, 0 ≤ ((y.2.2.2.2.2.2.2.1) j).toInt ∧ ((y.2.2.2.2.2.2.2.1) j).toInt ≤ 120) ∧ (∀ j, 0 ≤ ((y.2.2.2.2.2.2.2.2.1) j).toInt ∧ ((y.2.2.2.2.2.2.2.2.1) j).toInt ≤ 120) ∧ (∀ q : Nat × kTv, (y.2.2.2.2.2.2.2.2.2) = some q → 14 ≤ q.1 ∧ q.1 < 20 ∧ tOK q.2)) := by
  have g1 := rgI s_scribe_length
  have g2 := rgI s_scribe_at
  have g3 := rgI s_scribe_used
  have g4 := rgI s_scribe_fault
  have g5 := rgI s_tape_length
  have g6 := rgI p1
  have g7 := rgI p2
  have hFU : (100000 : Int) ≤ (FU : Int) := Int.ofNat_le.mpr FU_ge
  rw [f_X11_story]
  refine Sf_cb1 (s_X11_isStory p1 ) (fun r1_1 hp8 => ?_)
  have hp8 : ((r1_1.toInt = 0 ∨ r1_1.toInt = 1)) ∧ ((r1_1.toInt = 1 ∧ 0 ≤ p1.toInt ∧ p1.toInt ≤ 5) ∨ (r1_1.toInt = 0 ∧ (p1.toInt < 0 ∨ 5 < p1.toInt))) := hp8
  obtain ⟨hq9, hq10⟩ := hp8
  have g11 := rgI r1_1
  refine Sf_ite (fun h12 => ?_) (fun h12 => ?_)
  · skip
    have l13 : (0 : Int32).toInt = 0 := by decide
    have c14 := eqI h12
    have l15 : ((-1) : Int32).toInt = -1 := by decide
    refine Sf_some (show (0 ≤ s_tape_length.toInt ∧ s_tape_length.toInt ≤ 200) ∧ (∀ j, 0 ≤ (s_scribe_middles j).toInt ∧ (s_scribe_middles j).toInt ≤ 120) ∧ (∀ j, 0 ≤ (s_scribe_starts j).toInt ∧ (s_scribe_starts j).toInt ≤ 120) ∧ (∀ q : Nat × kTv, none = some q → 14 ≤ q.1 ∧ q.1 < 20 ∧ tOK q.2) from ?_)
    refine ⟨?_, ?_, ?_, ?_⟩ <;> (first | omega | assumption | (intro q hq; cases hq; done) | (intro q hq; cases hq; exact ⟨by omega, (‹∀ v, _ = some v → tOK v›) _ ‹_›⟩) | (intro q hq; cases hq; have := tN p1 (by omega); exact ⟨by dsimp only; omega, by dsimp only; omega, (‹∀ v, _ = some v → tOK v›) _ ‹_›⟩))
  · skip
    have l16 : (0 : Int32).toInt = 0 := by decide
    have c17 := neI h12
    have l18 : (60 : Int32).toInt = 60 := by decide
    refine Sf_cb1 (s_X11_tapeHas s_tape_length p2 60 ) (fun r11_24 hp19 => ?_)
    have hp19 : ((r11_24.toInt = 0 ∨ r11_24.toInt = 1)) ∧ (r11_24.toInt = 0 ∨ (1 ≤ p2.toInt ∧ p2.toInt ≤ (60 : Int32).toInt ∧ p2.toInt ≤ s_tape_length.toInt)) := hp19
    obtain ⟨hq20, hq21⟩ := hp19
    have g22 := rgI r11_24
    refine Sf_ite (fun h23 => ?_) (fun h23 => ?_)
    · skip
      have c24 := eqI h23
      have l25 : ((-1) : Int32).toInt = -1 := by decide
      refine Sf_some (show (0 ≤ s_tape_length.toInt ∧ s_tape_length.toInt ≤ 200) ∧ (∀ j, 0 ≤ (s_scribe_middles j).toInt ∧ (s_scribe_middles j).toInt ≤ 120) ∧ (∀ j, 0 ≤ (s_scribe_starts j).toInt ∧ (s_scribe_starts j).toInt ≤ 120) ∧ (∀ q : Nat × kTv, none = some q → 14 ≤ q.1 ∧ q.1 < 20 ∧ tOK q.2) from ?_)
      refine ⟨?_, ?_, ?_, ?_⟩ <;> (first | omega | assumption | (intro q hq; cases hq; done) | (intro q hq; cases hq; exact ⟨by omega, (‹∀ v, _ = some v → tOK v›) _ ‹_›⟩) | (intro q hq; cases hq; have := tN p1 (by omega); exact ⟨by dsimp only; omega, by dsimp only; omega, (‹∀ v, _ = some v → tOK v›) _ ‹_›⟩))
    · skip
      have c26 := neI h23
      refine Sf_cb8 (s_X6_writeExpression 200 s_scribe_length s_scribe_at s_scribe_used s_scribe_fault s_tape_bytes s_scribe_code s_scribe_middles s_scribe_starts p2 (by omega) (by omega) (by omega) (by assumption) (by assumption)) (fun o_length31_37 o_at31_38 o_used31_39 o_fault31_40 o_code31_41 o_middles31_42 o_starts31_43 nt31_44 hp27 => ?_)
      have hp27 : (∀ j, 0 ≤ (o_middles31_42 j).toInt ∧ (o_middles31_42 j).toInt ≤ 120) ∧ (∀ j, 0 ≤ (o_starts31_43 j).toInt ∧ (o_starts31_43 j).toInt ≤ 120) ∧ (∀ v, nt31_44 = some v → tOK v) := hp27
      obtain ⟨hq28, hq29, hq30⟩ := hp27
      have g31 := rgI o_length31_37
      have g32 := rgI o_at31_38
      have g33 := rgI o_used31_39
      have g34 := rgI o_fault31_40
      refine Sf_oN (fun hn35 => ?_) (fun v_57 hn36 => ?_)
      · skip
        refine Sf_cb1 (s_X9_clear s_tape_length ) (fun o_length39_61 hp37 => ?_)
        have hp37 : (o_length39_61.toInt = 0) := hp37
        have g38 := rgI o_length39_61
        refine Sf_cb1 (s_X6_faultCode o_at31_38 o_fault31_40 ) (fun r50_71 hp39 => ?_)
        have g40 := rgI r50_71
        refine Sf_some (show (0 ≤ o_length39_61.toInt ∧ o_length39_61.toInt ≤ 200) ∧ (∀ j, 0 ≤ (o_middles31_42 j).toInt ∧ (o_middles31_42 j).toInt ≤ 120) ∧ (∀ j, 0 ≤ (o_starts31_43 j).toInt ∧ (o_starts31_43 j).toInt ≤ 120) ∧ (∀ q : Nat × kTv, none = some q → 14 ≤ q.1 ∧ q.1 < 20 ∧ tOK q.2) from ?_)
        refine ⟨?_, ?_, ?_, ?_⟩ <;> (first | omega | assumption | (intro q hq; cases hq; done) | (intro q hq; cases hq; exact ⟨by omega, (‹∀ v, _ = some v → tOK v›) _ ‹_›⟩) | (intro q hq; cases hq; have := tN p1 (by omega); exact ⟨by dsimp only; omega, by dsimp only; omega, (‹∀ v, _ = some v → tOK v›) _ ‹_›⟩))
      · skip
        refine Sf_cb1 (s_X9_clear s_tape_length ) (fun o_length39_93 hp41 => ?_)
        have hp41 : (o_length39_93.toInt = 0) := hp41
        have g42 := rgI o_length39_93
        refine Sf_gdN (by omega) (by omega) ?_
        refine Sf_some (show (0 ≤ o_length39_93.toInt ∧ o_length39_93.toInt ≤ 200) ∧ (∀ j, 0 ≤ (o_middles31_42 j).toInt ∧ (o_middles31_42 j).toInt ≤ 120) ∧ (∀ j, 0 ≤ (o_starts31_43 j).toInt ∧ (o_starts31_43 j).toInt ≤ 120) ∧ (∀ q : Nat × kTv, (some ((14 + Int32.toNatClampNeg p1), v_57)) = some q → 14 ≤ q.1 ∧ q.1 < 20 ∧ tOK q.2) from ?_)
        refine ⟨?_, ?_, ?_, ?_⟩ <;> (first | omega | assumption | (intro q hq; cases hq; done) | (intro q hq; cases hq; exact ⟨by omega, (‹∀ v, _ = some v → tOK v›) _ ‹_›⟩) | (intro q hq; cases hq; have := tN p1 (by omega); exact ⟨by dsimp only; omega, by dsimp only; omega, (‹∀ v, _ = some v → tOK v›) _ ‹_›⟩))
