theorem Sf_det {β : Type} {o : Option β} {y : β} {P : β → Prop} (e : o = some y) (h : Sf o P) : P y := by
  obtain ⟨z, e1, h1⟩ := h
  rw [e] at e1
  cases e1
  exact h1
theorem src_none {G : kG} {r : Option Nat} {m p : Int32} (hn : r = none ∨ ∃ i, r = some i ∧ G.1 i = none) (hp : (0 ≤ p.toInt ∧ p.toInt < m.toInt ∧ r = some (Int32.toNatClampNeg p)) ∨ (r = none ∧ (p.toInt < 0 ∨ m.toInt ≤ p.toInt))) (hS : ∀ i : Nat, (i : Int) < m.toInt → ∃ s, G.1 i = some s) : ¬ (0 ≤ p.toInt ∧ p.toInt < m.toInt) := by
  intro hq
  rcases hp with hp | hp
  · rcases hn with hn | ⟨i, h1, h2⟩
    · rw [hp.2.2] at hn; cases hn
    · rw [hp.2.2] at h1
      cases h1
      have ht := tN p hp.1
      obtain ⟨s, hs⟩ := hS _ (by omega : ((p.toNatClampNeg : Nat) : Int) < m.toInt)
      rw [h2] at hs; cases hs
  · have := hp.2
    omega
theorem src_lt {r : Option Nat} {m p : Int32} (hp : (0 ≤ p.toInt ∧ p.toInt < m.toInt ∧ r = some (Int32.toNatClampNeg p)) ∨ (r = none ∧ (p.toInt < 0 ∨ m.toInt ≤ p.toInt))) (hm : m.toInt ≤ 10) (i : Nat) (hi : r = some i) : i < 10 := by
  rcases hp with hp | hp
  · rw [hp.2.2] at hi
    cases hi
    have ht := tN p hp.1
    omega
  · rw [hp.1] at hi; cases hi
theorem src_some {m p : Int32} {i : Nat} (hp : (0 ≤ p.toInt ∧ p.toInt < m.toInt ∧ some i = some (Int32.toNatClampNeg p)) ∨ (some i = none ∧ (p.toInt < 0 ∨ m.toInt ≤ p.toInt))) : i = p.toNatClampNeg ∧ 0 ≤ p.toInt ∧ p.toInt < m.toInt := by
  rcases hp with hp | hp
  · have := hp.2.2
    cases this
    exact ⟨rfl, hp.1, hp.2.1⟩
  · exact nomatch hp.1
set_option maxHeartbeats 4000000 in
set_option maxRecDepth 100000 in
theorem e_X11_canScan (s_blips_many : Int32) (p1 : Int32) (p2 : Int32) (p3 : Int32) (hp0 : 0 ≤ s_blips_many.toInt) (hp1 : s_blips_many.toInt ≤ 40) : Sf (f_X11_canScan s_blips_many p1 p2 p3) (fun (y : Int32) => ((y.toInt = 0 ∨ y.toInt = 1)) ∧ ((y.toInt = 1 ∧ (1 ≤ p1.toInt ∧ p1.toInt ≤ 1000000 ∧ 1 ≤ p2.toInt ∧ p2.toInt ≤ 1000000 ∧ 0 ≤ p3.toInt ∧ p3.toInt ≤ 1000 ∧ p1.toInt ≤ p2.toInt ∧ p2.toInt ≤ p1.toInt + 2000 ∧ 2 * p3.toInt < p1.toInt ∧ 2 ≤ s_blips_many.toInt)) ∨ (y.toInt = 0 ∧ ¬ (1 ≤ p1.toInt ∧ p1.toInt ≤ 1000000 ∧ 1 ≤ p2.toInt ∧ p2.toInt ≤ 1000000 ∧ 0 ≤ p3.toInt ∧ p3.toInt ≤ 1000 ∧ p1.toInt ≤ p2.toInt ∧ p2.toInt ≤ p1.toInt + 2000 ∧ 2 * p3.toInt < p1.toInt ∧ 2 ≤ s_blips_many.toInt)))) := by
  have g1 := rgI s_blips_many
  have g2 := rgI p1
  have g3 := rgI p2
  have g4 := rgI p3
  have hFU : (100000 : Int) ≤ (FU : Int) := Int.ofNat_le.mpr FU_ge
  rw [f_X11_canScan]
  refine Sf_cb1 (s_X11_isBeat p1 ) (fun r1_1 hp5 => ?_)
  have hp5 : ((r1_1.toInt = 0 ∨ r1_1.toInt = 1)) ∧ ((r1_1.toInt = 1 ∧ 1 ≤ p1.toInt ∧ p1.toInt ≤ 1000000) ∨ (r1_1.toInt = 0 ∧ (p1.toInt < 1 ∨ 1000000 < p1.toInt))) := hp5
  obtain ⟨hq6, hq7⟩ := hp5
  have g8 := rgI r1_1
  refine Sf_ite (fun h9 => ?_) (fun h9 => ?_)
  · skip
    have l10 : (0 : Int32).toInt = 0 := by decide
    have c11 := eqI h9
    rw [f_X11_canScan_J30]
    refine Sf_ite (fun h12 => ?_) (fun h12 => ?_)
    · skip
      have c13 := eqI h12
      refine Sf_some (show (((0 : Int32).toInt = 0 ∨ (0 : Int32).toInt = 1)) ∧ (((0 : Int32).toInt = 1 ∧ (1 ≤ p1.toInt ∧ p1.toInt ≤ 1000000 ∧ 1 ≤ p2.toInt ∧ p2.toInt ≤ 1000000 ∧ 0 ≤ p3.toInt ∧ p3.toInt ≤ 1000 ∧ p1.toInt ≤ p2.toInt ∧ p2.toInt ≤ p1.toInt + 2000 ∧ 2 * p3.toInt < p1.toInt ∧ 2 ≤ s_blips_many.toInt)) ∨ ((0 : Int32).toInt = 0 ∧ ¬ (1 ≤ p1.toInt ∧ p1.toInt ≤ 1000000 ∧ 1 ≤ p2.toInt ∧ p2.toInt ≤ 1000000 ∧ 0 ≤ p3.toInt ∧ p3.toInt ≤ 1000 ∧ p1.toInt ≤ p2.toInt ∧ p2.toInt ≤ p1.toInt + 2000 ∧ 2 * p3.toInt < p1.toInt ∧ 2 ≤ s_blips_many.toInt))) from ?_)
      refine ⟨?_, ?_⟩ <;> (omega)
    · skip
      have c14 := neI h12
      refine Sf_ite (fun h15 => ?_) (fun h15 => ?_)
      · skip
        have c16 := ltI h15
        refine Sf_some (show (((0 : Int32).toInt = 0 ∨ (0 : Int32).toInt = 1)) ∧ (((0 : Int32).toInt = 1 ∧ (1 ≤ p1.toInt ∧ p1.toInt ≤ 1000000 ∧ 1 ≤ p2.toInt ∧ p2.toInt ≤ 1000000 ∧ 0 ≤ p3.toInt ∧ p3.toInt ≤ 1000 ∧ p1.toInt ≤ p2.toInt ∧ p2.toInt ≤ p1.toInt + 2000 ∧ 2 * p3.toInt < p1.toInt ∧ 2 ≤ s_blips_many.toInt)) ∨ ((0 : Int32).toInt = 0 ∧ ¬ (1 ≤ p1.toInt ∧ p1.toInt ≤ 1000000 ∧ 1 ≤ p2.toInt ∧ p2.toInt ≤ 1000000 ∧ 0 ≤ p3.toInt ∧ p3.toInt ≤ 1000 ∧ p1.toInt ≤ p2.toInt ∧ p2.toInt ≤ p1.toInt + 2000 ∧ 2 * p3.toInt < p1.toInt ∧ 2 ≤ s_blips_many.toInt))) from ?_)
        refine ⟨?_, ?_⟩ <;> (omega)
      · skip
        have c17 := nltI h15
        refine Sf_ite (fun h18 => ?_) (fun h18 => ?_)
        · skip
          have l19 : (2000 : Int32).toInt = 2000 := by decide
          have g20 := rgI (p2 - p1)
          first | have e21 := sbX p2 p1 (by omega) (by omega) | skip
          have c22 := ltI h18
          refine Sf_some (show (((0 : Int32).toInt = 0 ∨ (0 : Int32).toInt = 1)) ∧ (((0 : Int32).toInt = 1 ∧ (1 ≤ p1.toInt ∧ p1.toInt ≤ 1000000 ∧ 1 ≤ p2.toInt ∧ p2.toInt ≤ 1000000 ∧ 0 ≤ p3.toInt ∧ p3.toInt ≤ 1000 ∧ p1.toInt ≤ p2.toInt ∧ p2.toInt ≤ p1.toInt + 2000 ∧ 2 * p3.toInt < p1.toInt ∧ 2 ≤ s_blips_many.toInt)) ∨ ((0 : Int32).toInt = 0 ∧ ¬ (1 ≤ p1.toInt ∧ p1.toInt ≤ 1000000 ∧ 1 ≤ p2.toInt ∧ p2.toInt ≤ 1000000 ∧ 0 ≤ p3.toInt ∧ p3.toInt ≤ 1000 ∧ p1.toInt ≤ p2.toInt ∧ p2.toInt ≤ p1.toInt + 2000 ∧ 2 * p3.toInt < p1.toInt ∧ 2 ≤ s_blips_many.toInt))) from ?_)
          refine ⟨?_, ?_⟩ <;> (omega)
        · skip
          have l23 : (2000 : Int32).toInt = 2000 := by decide
          have g24 := rgI (p2 - p1)
          first | have e25 := sbX p2 p1 (by omega) (by omega) | skip
          have c26 := nltI h18
          refine Sf_ite (fun h27 => ?_) (fun h27 => ?_)
          · skip
            have l28 : (2 : Int32).toInt = 2 := by decide
            have g29 := rgI (2 * p3)
            first | have e30 := mlY 2 p3 (2) (by decide) (by omega) (by omega) | skip
            have c31 := leI h27
            refine Sf_some (show (((0 : Int32).toInt = 0 ∨ (0 : Int32).toInt = 1)) ∧ (((0 : Int32).toInt = 1 ∧ (1 ≤ p1.toInt ∧ p1.toInt ≤ 1000000 ∧ 1 ≤ p2.toInt ∧ p2.toInt ≤ 1000000 ∧ 0 ≤ p3.toInt ∧ p3.toInt ≤ 1000 ∧ p1.toInt ≤ p2.toInt ∧ p2.toInt ≤ p1.toInt + 2000 ∧ 2 * p3.toInt < p1.toInt ∧ 2 ≤ s_blips_many.toInt)) ∨ ((0 : Int32).toInt = 0 ∧ ¬ (1 ≤ p1.toInt ∧ p1.toInt ≤ 1000000 ∧ 1 ≤ p2.toInt ∧ p2.toInt ≤ 1000000 ∧ 0 ≤ p3.toInt ∧ p3.toInt ≤ 1000 ∧ p1.toInt ≤ p2.toInt ∧ p2.toInt ≤ p1.toInt + 2000 ∧ 2 * p3.toInt < p1.toInt ∧ 2 ≤ s_blips_many.toInt))) from ?_)
            refine ⟨?_, ?_⟩ <;> (omega)
          · skip
            have l32 : (2 : Int32).toInt = 2 := by decide
            have g33 := rgI (2 * p3)
            first | have e34 := mlY 2 p3 (2) (by decide) (by omega) (by omega) | skip
            have c35 := nleI h27
            refine Sf_ite (fun h36 => ?_) (fun h36 => ?_)
            · skip
              have c37 := ltI h36
              refine Sf_some (show (((0 : Int32).toInt = 0 ∨ (0 : Int32).toInt = 1)) ∧ (((0 : Int32).toInt = 1 ∧ (1 ≤ p1.toInt ∧ p1.toInt ≤ 1000000 ∧ 1 ≤ p2.toInt ∧ p2.toInt ≤ 1000000 ∧ 0 ≤ p3.toInt ∧ p3.toInt ≤ 1000 ∧ p1.toInt ≤ p2.toInt ∧ p2.toInt ≤ p1.toInt + 2000 ∧ 2 * p3.toInt < p1.toInt ∧ 2 ≤ s_blips_many.toInt)) ∨ ((0 : Int32).toInt = 0 ∧ ¬ (1 ≤ p1.toInt ∧ p1.toInt ≤ 1000000 ∧ 1 ≤ p2.toInt ∧ p2.toInt ≤ 1000000 ∧ 0 ≤ p3.toInt ∧ p3.toInt ≤ 1000 ∧ p1.toInt ≤ p2.toInt ∧ p2.toInt ≤ p1.toInt + 2000 ∧ 2 * p3.toInt < p1.toInt ∧ 2 ≤ s_blips_many.toInt))) from ?_)
              refine ⟨?_, ?_⟩ <;> (omega)
            · skip
              have c38 := nltI h36
              have l39 : (1 : Int32).toInt = 1 := by decide
              refine Sf_some (show (((1 : Int32).toInt = 0 ∨ (1 : Int32).toInt = 1)) ∧ (((1 : Int32).toInt = 1 ∧ (1 ≤ p1.toInt ∧ p1.toInt ≤ 1000000 ∧ 1 ≤ p2.toInt ∧ p2.toInt ≤ 1000000 ∧ 0 ≤ p3.toInt ∧ p3.toInt ≤ 1000 ∧ p1.toInt ≤ p2.toInt ∧ p2.toInt ≤ p1.toInt + 2000 ∧ 2 * p3.toInt < p1.toInt ∧ 2 ≤ s_blips_many.toInt)) ∨ ((1 : Int32).toInt = 0 ∧ ¬ (1 ≤ p1.toInt ∧ p1.toInt ≤ 1000000 ∧ 1 ≤ p2.toInt ∧ p2.toInt ≤ 1000000 ∧ 0 ≤ p3.toInt ∧ p3.toInt ≤ 1000 ∧ p1.toInt ≤ p2.toInt ∧ p2.toInt ≤ p1.toInt + 2000 ∧ 2 * p3.toInt < p1.toInt ∧ 2 ≤ s_blips_many.toInt))) from ?_)
              refine ⟨?_, ?_⟩ <;> (omega)
  · skip
    have l40 : (0 : Int32).toInt = 0 := by decide
    have c41 := neI h9
    refine Sf_cb1 (s_X11_isBeat p2 ) (fun r8_32 hp42 => ?_)
    have hp42 : ((r8_32.toInt = 0 ∨ r8_32.toInt = 1)) ∧ ((r8_32.toInt = 1 ∧ 1 ≤ p2.toInt ∧ p2.toInt ≤ 1000000) ∨ (r8_32.toInt = 0 ∧ (p2.toInt < 1 ∨ 1000000 < p2.toInt))) := hp42
    obtain ⟨hq43, hq44⟩ := hp42
    have g45 := rgI r8_32
    refine Sf_ite (fun h46 => ?_) (fun h46 => ?_)
    · skip
      have c47 := eqI h46
      rw [f_X11_canScan_J30]
      refine Sf_ite (fun h48 => ?_) (fun h48 => ?_)
      · skip
        have c49 := eqI h48
        refine Sf_some (show (((0 : Int32).toInt = 0 ∨ (0 : Int32).toInt = 1)) ∧ (((0 : Int32).toInt = 1 ∧ (1 ≤ p1.toInt ∧ p1.toInt ≤ 1000000 ∧ 1 ≤ p2.toInt ∧ p2.toInt ≤ 1000000 ∧ 0 ≤ p3.toInt ∧ p3.toInt ≤ 1000 ∧ p1.toInt ≤ p2.toInt ∧ p2.toInt ≤ p1.toInt + 2000 ∧ 2 * p3.toInt < p1.toInt ∧ 2 ≤ s_blips_many.toInt)) ∨ ((0 : Int32).toInt = 0 ∧ ¬ (1 ≤ p1.toInt ∧ p1.toInt ≤ 1000000 ∧ 1 ≤ p2.toInt ∧ p2.toInt ≤ 1000000 ∧ 0 ≤ p3.toInt ∧ p3.toInt ≤ 1000 ∧ p1.toInt ≤ p2.toInt ∧ p2.toInt ≤ p1.toInt + 2000 ∧ 2 * p3.toInt < p1.toInt ∧ 2 ≤ s_blips_many.toInt))) from ?_)
        refine ⟨?_, ?_⟩ <;> (omega)
      · skip
        have c50 := neI h48
        refine Sf_ite (fun h51 => ?_) (fun h51 => ?_)
        · skip
          have c52 := ltI h51
          refine Sf_some (show (((0 : Int32).toInt = 0 ∨ (0 : Int32).toInt = 1)) ∧ (((0 : Int32).toInt = 1 ∧ (1 ≤ p1.toInt ∧ p1.toInt ≤ 1000000 ∧ 1 ≤ p2.toInt ∧ p2.toInt ≤ 1000000 ∧ 0 ≤ p3.toInt ∧ p3.toInt ≤ 1000 ∧ p1.toInt ≤ p2.toInt ∧ p2.toInt ≤ p1.toInt + 2000 ∧ 2 * p3.toInt < p1.toInt ∧ 2 ≤ s_blips_many.toInt)) ∨ ((0 : Int32).toInt = 0 ∧ ¬ (1 ≤ p1.toInt ∧ p1.toInt ≤ 1000000 ∧ 1 ≤ p2.toInt ∧ p2.toInt ≤ 1000000 ∧ 0 ≤ p3.toInt ∧ p3.toInt ≤ 1000 ∧ p1.toInt ≤ p2.toInt ∧ p2.toInt ≤ p1.toInt + 2000 ∧ 2 * p3.toInt < p1.toInt ∧ 2 ≤ s_blips_many.toInt))) from ?_)
          refine ⟨?_, ?_⟩ <;> (omega)
        · skip
          have c53 := nltI h51
          refine Sf_ite (fun h54 => ?_) (fun h54 => ?_)
          · skip
            have l55 : (2000 : Int32).toInt = 2000 := by decide
            have g56 := rgI (p2 - p1)
            first | have e57 := sbX p2 p1 (by omega) (by omega) | skip
            have c58 := ltI h54
            refine Sf_some (show (((0 : Int32).toInt = 0 ∨ (0 : Int32).toInt = 1)) ∧ (((0 : Int32).toInt = 1 ∧ (1 ≤ p1.toInt ∧ p1.toInt ≤ 1000000 ∧ 1 ≤ p2.toInt ∧ p2.toInt ≤ 1000000 ∧ 0 ≤ p3.toInt ∧ p3.toInt ≤ 1000 ∧ p1.toInt ≤ p2.toInt ∧ p2.toInt ≤ p1.toInt + 2000 ∧ 2 * p3.toInt < p1.toInt ∧ 2 ≤ s_blips_many.toInt)) ∨ ((0 : Int32).toInt = 0 ∧ ¬ (1 ≤ p1.toInt ∧ p1.toInt ≤ 1000000 ∧ 1 ≤ p2.toInt ∧ p2.toInt ≤ 1000000 ∧ 0 ≤ p3.toInt ∧ p3.toInt ≤ 1000 ∧ p1.toInt ≤ p2.toInt ∧ p2.toInt ≤ p1.toInt + 2000 ∧ 2 * p3.toInt < p1.toInt ∧ 2 ≤ s_blips_many.toInt))) from ?_)
            refine ⟨?_, ?_⟩ <;> (omega)
          · skip
            have l59 : (2000 : Int32).toInt = 2000 := by decide
            have g60 := rgI (p2 - p1)
            first | have e61 := sbX p2 p1 (by omega) (by omega) | skip
            have c62 := nltI h54
            refine Sf_ite (fun h63 => ?_) (fun h63 => ?_)
            · skip
              have l64 : (2 : Int32).toInt = 2 := by decide
              have g65 := rgI (2 * p3)
              first | have e66 := mlY 2 p3 (2) (by decide) (by omega) (by omega) | skip
              have c67 := leI h63
              refine Sf_some (show (((0 : Int32).toInt = 0 ∨ (0 : Int32).toInt = 1)) ∧ (((0 : Int32).toInt = 1 ∧ (1 ≤ p1.toInt ∧ p1.toInt ≤ 1000000 ∧ 1 ≤ p2.toInt ∧ p2.toInt ≤ 1000000 ∧ 0 ≤ p3.toInt ∧ p3.toInt ≤ 1000 ∧ p1.toInt ≤ p2.toInt ∧ p2.toInt ≤ p1.toInt + 2000 ∧ 2 * p3.toInt < p1.toInt ∧ 2 ≤ s_blips_many.toInt)) ∨ ((0 : Int32).toInt = 0 ∧ ¬ (1 ≤ p1.toInt ∧ p1.toInt ≤ 1000000 ∧ 1 ≤ p2.toInt ∧ p2.toInt ≤ 1000000 ∧ 0 ≤ p3.toInt ∧ p3.toInt ≤ 1000 ∧ p1.toInt ≤ p2.toInt ∧ p2.toInt ≤ p1.toInt + 2000 ∧ 2 * p3.toInt < p1.toInt ∧ 2 ≤ s_blips_many.toInt))) from ?_)
              refine ⟨?_, ?_⟩ <;> (omega)
            · skip
              have l68 : (2 : Int32).toInt = 2 := by decide
              have g69 := rgI (2 * p3)
              first | have e70 := mlY 2 p3 (2) (by decide) (by omega) (by omega) | skip
              have c71 := nleI h63
              refine Sf_ite (fun h72 => ?_) (fun h72 => ?_)
              · skip
                have c73 := ltI h72
                refine Sf_some (show (((0 : Int32).toInt = 0 ∨ (0 : Int32).toInt = 1)) ∧ (((0 : Int32).toInt = 1 ∧ (1 ≤ p1.toInt ∧ p1.toInt ≤ 1000000 ∧ 1 ≤ p2.toInt ∧ p2.toInt ≤ 1000000 ∧ 0 ≤ p3.toInt ∧ p3.toInt ≤ 1000 ∧ p1.toInt ≤ p2.toInt ∧ p2.toInt ≤ p1.toInt + 2000 ∧ 2 * p3.toInt < p1.toInt ∧ 2 ≤ s_blips_many.toInt)) ∨ ((0 : Int32).toInt = 0 ∧ ¬ (1 ≤ p1.toInt ∧ p1.toInt ≤ 1000000 ∧ 1 ≤ p2.toInt ∧ p2.toInt ≤ 1000000 ∧ 0 ≤ p3.toInt ∧ p3.toInt ≤ 1000 ∧ p1.toInt ≤ p2.toInt ∧ p2.toInt ≤ p1.toInt + 2000 ∧ 2 * p3.toInt < p1.toInt ∧ 2 ≤ s_blips_many.toInt))) from ?_)
                refine ⟨?_, ?_⟩ <;> (omega)
              · skip
                have c74 := nltI h72
                have l75 : (1 : Int32).toInt = 1 := by decide
                refine Sf_some (show (((1 : Int32).toInt = 0 ∨ (1 : Int32).toInt = 1)) ∧ (((1 : Int32).toInt = 1 ∧ (1 ≤ p1.toInt ∧ p1.toInt ≤ 1000000 ∧ 1 ≤ p2.toInt ∧ p2.toInt ≤ 1000000 ∧ 0 ≤ p3.toInt ∧ p3.toInt ≤ 1000 ∧ p1.toInt ≤ p2.toInt ∧ p2.toInt ≤ p1.toInt + 2000 ∧ 2 * p3.toInt < p1.toInt ∧ 2 ≤ s_blips_many.toInt)) ∨ ((1 : Int32).toInt = 0 ∧ ¬ (1 ≤ p1.toInt ∧ p1.toInt ≤ 1000000 ∧ 1 ≤ p2.toInt ∧ p2.toInt ≤ 1000000 ∧ 0 ≤ p3.toInt ∧ p3.toInt ≤ 1000 ∧ p1.toInt ≤ p2.toInt ∧ p2.toInt ≤ p1.toInt + 2000 ∧ 2 * p3.toInt < p1.toInt ∧ 2 ≤ s_blips_many.toInt))) from ?_)
                refine ⟨?_, ?_⟩ <;> (omega)
    · skip
      have c76 := neI h46
      have l77 : (1000 : Int32).toInt = 1000 := by decide
      refine Sf_cb1 (s_X11_isWithin p3 0 1000 ) (fun r19_40 hp78 => ?_)
      have hp78 : ((r19_40.toInt = 0 ∨ r19_40.toInt = 1)) ∧ ((r19_40.toInt = 1 ∧ (0 : Int32).toInt ≤ p3.toInt ∧ p3.toInt ≤ (1000 : Int32).toInt) ∨ (r19_40.toInt = 0 ∧ (p3.toInt < (0 : Int32).toInt ∨ (1000 : Int32).toInt < p3.toInt))) := hp78
      obtain ⟨hq79, hq80⟩ := hp78
      have g81 := rgI r19_40
      refine Sf_ite (fun h82 => ?_) (fun h82 => ?_)
      · skip
        have c83 := eqI h82
        rw [f_X11_canScan_J30]
        refine Sf_ite (fun h84 => ?_) (fun h84 => ?_)
        · skip
          have c85 := eqI h84
          refine Sf_some (show (((0 : Int32).toInt = 0 ∨ (0 : Int32).toInt = 1)) ∧ (((0 : Int32).toInt = 1 ∧ (1 ≤ p1.toInt ∧ p1.toInt ≤ 1000000 ∧ 1 ≤ p2.toInt ∧ p2.toInt ≤ 1000000 ∧ 0 ≤ p3.toInt ∧ p3.toInt ≤ 1000 ∧ p1.toInt ≤ p2.toInt ∧ p2.toInt ≤ p1.toInt + 2000 ∧ 2 * p3.toInt < p1.toInt ∧ 2 ≤ s_blips_many.toInt)) ∨ ((0 : Int32).toInt = 0 ∧ ¬ (1 ≤ p1.toInt ∧ p1.toInt ≤ 1000000 ∧ 1 ≤ p2.toInt ∧ p2.toInt ≤ 1000000 ∧ 0 ≤ p3.toInt ∧ p3.toInt ≤ 1000 ∧ p1.toInt ≤ p2.toInt ∧ p2.toInt ≤ p1.toInt + 2000 ∧ 2 * p3.toInt < p1.toInt ∧ 2 ≤ s_blips_many.toInt))) from ?_)
          refine ⟨?_, ?_⟩ <;> (omega)
        · skip
          have c86 := neI h84
          refine Sf_ite (fun h87 => ?_) (fun h87 => ?_)
          · skip
            have c88 := ltI h87
            refine Sf_some (show (((0 : Int32).toInt = 0 ∨ (0 : Int32).toInt = 1)) ∧ (((0 : Int32).toInt = 1 ∧ (1 ≤ p1.toInt ∧ p1.toInt ≤ 1000000 ∧ 1 ≤ p2.toInt ∧ p2.toInt ≤ 1000000 ∧ 0 ≤ p3.toInt ∧ p3.toInt ≤ 1000 ∧ p1.toInt ≤ p2.toInt ∧ p2.toInt ≤ p1.toInt + 2000 ∧ 2 * p3.toInt < p1.toInt ∧ 2 ≤ s_blips_many.toInt)) ∨ ((0 : Int32).toInt = 0 ∧ ¬ (1 ≤ p1.toInt ∧ p1.toInt ≤ 1000000 ∧ 1 ≤ p2.toInt ∧ p2.toInt ≤ 1000000 ∧ 0 ≤ p3.toInt ∧ p3.toInt ≤ 1000 ∧ p1.toInt ≤ p2.toInt ∧ p2.toInt ≤ p1.toInt + 2000 ∧ 2 * p3.toInt < p1.toInt ∧ 2 ≤ s_blips_many.toInt))) from ?_)
            refine ⟨?_, ?_⟩ <;> (omega)
          · skip
            have c89 := nltI h87
            refine Sf_ite (fun h90 => ?_) (fun h90 => ?_)
            · skip
              have l91 : (2000 : Int32).toInt = 2000 := by decide
              have g92 := rgI (p2 - p1)
              first | have e93 := sbX p2 p1 (by omega) (by omega) | skip
              have c94 := ltI h90
              refine Sf_some (show (((0 : Int32).toInt = 0 ∨ (0 : Int32).toInt = 1)) ∧ (((0 : Int32).toInt = 1 ∧ (1 ≤ p1.toInt ∧ p1.toInt ≤ 1000000 ∧ 1 ≤ p2.toInt ∧ p2.toInt ≤ 1000000 ∧ 0 ≤ p3.toInt ∧ p3.toInt ≤ 1000 ∧ p1.toInt ≤ p2.toInt ∧ p2.toInt ≤ p1.toInt + 2000 ∧ 2 * p3.toInt < p1.toInt ∧ 2 ≤ s_blips_many.toInt)) ∨ ((0 : Int32).toInt = 0 ∧ ¬ (1 ≤ p1.toInt ∧ p1.toInt ≤ 1000000 ∧ 1 ≤ p2.toInt ∧ p2.toInt ≤ 1000000 ∧ 0 ≤ p3.toInt ∧ p3.toInt ≤ 1000 ∧ p1.toInt ≤ p2.toInt ∧ p2.toInt ≤ p1.toInt + 2000 ∧ 2 * p3.toInt < p1.toInt ∧ 2 ≤ s_blips_many.toInt))) from ?_)
              refine ⟨?_, ?_⟩ <;> (omega)
            · skip
              have l95 : (2000 : Int32).toInt = 2000 := by decide
              have g96 := rgI (p2 - p1)
              first | have e97 := sbX p2 p1 (by omega) (by omega) | skip
              have c98 := nltI h90
              refine Sf_ite (fun h99 => ?_) (fun h99 => ?_)
              · skip
                have l100 : (2 : Int32).toInt = 2 := by decide
                have g101 := rgI (2 * p3)
                first | have e102 := mlY 2 p3 (2) (by decide) (by omega) (by omega) | skip
                have c103 := leI h99
                refine Sf_some (show (((0 : Int32).toInt = 0 ∨ (0 : Int32).toInt = 1)) ∧ (((0 : Int32).toInt = 1 ∧ (1 ≤ p1.toInt ∧ p1.toInt ≤ 1000000 ∧ 1 ≤ p2.toInt ∧ p2.toInt ≤ 1000000 ∧ 0 ≤ p3.toInt ∧ p3.toInt ≤ 1000 ∧ p1.toInt ≤ p2.toInt ∧ p2.toInt ≤ p1.toInt + 2000 ∧ 2 * p3.toInt < p1.toInt ∧ 2 ≤ s_blips_many.toInt)) ∨ ((0 : Int32).toInt = 0 ∧ ¬ (1 ≤ p1.toInt ∧ p1.toInt ≤ 1000000 ∧ 1 ≤ p2.toInt ∧ p2.toInt ≤ 1000000 ∧ 0 ≤ p3.toInt ∧ p3.toInt ≤ 1000 ∧ p1.toInt ≤ p2.toInt ∧ p2.toInt ≤ p1.toInt + 2000 ∧ 2 * p3.toInt < p1.toInt ∧ 2 ≤ s_blips_many.toInt))) from ?_)
                refine ⟨?_, ?_⟩ <;> (omega)
              · skip
                have l104 : (2 : Int32).toInt = 2 := by decide
                have g105 := rgI (2 * p3)
                first | have e106 := mlY 2 p3 (2) (by decide) (by omega) (by omega) | skip
                have c107 := nleI h99
                refine Sf_ite (fun h108 => ?_) (fun h108 => ?_)
                · skip
                  have c109 := ltI h108
                  refine Sf_some (show (((0 : Int32).toInt = 0 ∨ (0 : Int32).toInt = 1)) ∧ (((0 : Int32).toInt = 1 ∧ (1 ≤ p1.toInt ∧ p1.toInt ≤ 1000000 ∧ 1 ≤ p2.toInt ∧ p2.toInt ≤ 1000000 ∧ 0 ≤ p3.toInt ∧ p3.toInt ≤ 1000 ∧ p1.toInt ≤ p2.toInt ∧ p2.toInt ≤ p1.toInt + 2000 ∧ 2 * p3.toInt < p1.toInt ∧ 2 ≤ s_blips_many.toInt)) ∨ ((0 : Int32).toInt = 0 ∧ ¬ (1 ≤ p1.toInt ∧ p1.toInt ≤ 1000000 ∧ 1 ≤ p2.toInt ∧ p2.toInt ≤ 1000000 ∧ 0 ≤ p3.toInt ∧ p3.toInt ≤ 1000 ∧ p1.toInt ≤ p2.toInt ∧ p2.toInt ≤ p1.toInt + 2000 ∧ 2 * p3.toInt < p1.toInt ∧ 2 ≤ s_blips_many.toInt))) from ?_)
                  refine ⟨?_, ?_⟩ <;> (omega)
                · skip
                  have c110 := nltI h108
                  have l111 : (1 : Int32).toInt = 1 := by decide
                  refine Sf_some (show (((1 : Int32).toInt = 0 ∨ (1 : Int32).toInt = 1)) ∧ (((1 : Int32).toInt = 1 ∧ (1 ≤ p1.toInt ∧ p1.toInt ≤ 1000000 ∧ 1 ≤ p2.toInt ∧ p2.toInt ≤ 1000000 ∧ 0 ≤ p3.toInt ∧ p3.toInt ≤ 1000 ∧ p1.toInt ≤ p2.toInt ∧ p2.toInt ≤ p1.toInt + 2000 ∧ 2 * p3.toInt < p1.toInt ∧ 2 ≤ s_blips_many.toInt)) ∨ ((1 : Int32).toInt = 0 ∧ ¬ (1 ≤ p1.toInt ∧ p1.toInt ≤ 1000000 ∧ 1 ≤ p2.toInt ∧ p2.toInt ≤ 1000000 ∧ 0 ≤ p3.toInt ∧ p3.toInt ≤ 1000 ∧ p1.toInt ≤ p2.toInt ∧ p2.toInt ≤ p1.toInt + 2000 ∧ 2 * p3.toInt < p1.toInt ∧ 2 ≤ s_blips_many.toInt))) from ?_)
                  refine ⟨?_, ?_⟩ <;> (omega)
      · skip
        have c112 := neI h82
        rw [f_X11_canScan_J30]
        refine Sf_ite (fun h113 => ?_) (fun h113 => ?_)
        · skip
          have l114 : (1 : Int32).toInt = 1 := by decide
          have c115 := eqI h113
          refine Sf_some (show (((0 : Int32).toInt = 0 ∨ (0 : Int32).toInt = 1)) ∧ (((0 : Int32).toInt = 1 ∧ (1 ≤ p1.toInt ∧ p1.toInt ≤ 1000000 ∧ 1 ≤ p2.toInt ∧ p2.toInt ≤ 1000000 ∧ 0 ≤ p3.toInt ∧ p3.toInt ≤ 1000 ∧ p1.toInt ≤ p2.toInt ∧ p2.toInt ≤ p1.toInt + 2000 ∧ 2 * p3.toInt < p1.toInt ∧ 2 ≤ s_blips_many.toInt)) ∨ ((0 : Int32).toInt = 0 ∧ ¬ (1 ≤ p1.toInt ∧ p1.toInt ≤ 1000000 ∧ 1 ≤ p2.toInt ∧ p2.toInt ≤ 1000000 ∧ 0 ≤ p3.toInt ∧ p3.toInt ≤ 1000 ∧ p1.toInt ≤ p2.toInt ∧ p2.toInt ≤ p1.toInt + 2000 ∧ 2 * p3.toInt < p1.toInt ∧ 2 ≤ s_blips_many.toInt))) from ?_)
          refine ⟨?_, ?_⟩ <;> (omega)
        · skip
          have l116 : (1 : Int32).toInt = 1 := by decide
          have c117 := neI h113
          refine Sf_ite (fun h118 => ?_) (fun h118 => ?_)
          · skip
            have c119 := ltI h118
            refine Sf_some (show (((0 : Int32).toInt = 0 ∨ (0 : Int32).toInt = 1)) ∧ (((0 : Int32).toInt = 1 ∧ (1 ≤ p1.toInt ∧ p1.toInt ≤ 1000000 ∧ 1 ≤ p2.toInt ∧ p2.toInt ≤ 1000000 ∧ 0 ≤ p3.toInt ∧ p3.toInt ≤ 1000 ∧ p1.toInt ≤ p2.toInt ∧ p2.toInt ≤ p1.toInt + 2000 ∧ 2 * p3.toInt < p1.toInt ∧ 2 ≤ s_blips_many.toInt)) ∨ ((0 : Int32).toInt = 0 ∧ ¬ (1 ≤ p1.toInt ∧ p1.toInt ≤ 1000000 ∧ 1 ≤ p2.toInt ∧ p2.toInt ≤ 1000000 ∧ 0 ≤ p3.toInt ∧ p3.toInt ≤ 1000 ∧ p1.toInt ≤ p2.toInt ∧ p2.toInt ≤ p1.toInt + 2000 ∧ 2 * p3.toInt < p1.toInt ∧ 2 ≤ s_blips_many.toInt))) from ?_)
            refine ⟨?_, ?_⟩ <;> (omega)
          · skip
            have c120 := nltI h118
            refine Sf_ite (fun h121 => ?_) (fun h121 => ?_)
            · skip
              have l122 : (2000 : Int32).toInt = 2000 := by decide
              have g123 := rgI (p2 - p1)
              first | have e124 := sbX p2 p1 (by omega) (by omega) | skip
              have c125 := ltI h121
              refine Sf_some (show (((0 : Int32).toInt = 0 ∨ (0 : Int32).toInt = 1)) ∧ (((0 : Int32).toInt = 1 ∧ (1 ≤ p1.toInt ∧ p1.toInt ≤ 1000000 ∧ 1 ≤ p2.toInt ∧ p2.toInt ≤ 1000000 ∧ 0 ≤ p3.toInt ∧ p3.toInt ≤ 1000 ∧ p1.toInt ≤ p2.toInt ∧ p2.toInt ≤ p1.toInt + 2000 ∧ 2 * p3.toInt < p1.toInt ∧ 2 ≤ s_blips_many.toInt)) ∨ ((0 : Int32).toInt = 0 ∧ ¬ (1 ≤ p1.toInt ∧ p1.toInt ≤ 1000000 ∧ 1 ≤ p2.toInt ∧ p2.toInt ≤ 1000000 ∧ 0 ≤ p3.toInt ∧ p3.toInt ≤ 1000 ∧ p1.toInt ≤ p2.toInt ∧ p2.toInt ≤ p1.toInt + 2000 ∧ 2 * p3.toInt < p1.toInt ∧ 2 ≤ s_blips_many.toInt))) from ?_)
              refine ⟨?_, ?_⟩ <;> (omega)
            · skip
              have l126 : (2000 : Int32).toInt = 2000 := by decide
              have g127 := rgI (p2 - p1)
              first | have e128 := sbX p2 p1 (by omega) (by omega) | skip
              have c129 := nltI h121
              refine Sf_ite (fun h130 => ?_) (fun h130 => ?_)
              · skip
                have l131 : (2 : Int32).toInt = 2 := by decide
                have g132 := rgI (2 * p3)
                first | have e133 := mlY 2 p3 (2) (by decide) (by omega) (by omega) | skip
                have c134 := leI h130
                refine Sf_some (show (((0 : Int32).toInt = 0 ∨ (0 : Int32).toInt = 1)) ∧ (((0 : Int32).toInt = 1 ∧ (1 ≤ p1.toInt ∧ p1.toInt ≤ 1000000 ∧ 1 ≤ p2.toInt ∧ p2.toInt ≤ 1000000 ∧ 0 ≤ p3.toInt ∧ p3.toInt ≤ 1000 ∧ p1.toInt ≤ p2.toInt ∧ p2.toInt ≤ p1.toInt + 2000 ∧ 2 * p3.toInt < p1.toInt ∧ 2 ≤ s_blips_many.toInt)) ∨ ((0 : Int32).toInt = 0 ∧ ¬ (1 ≤ p1.toInt ∧ p1.toInt ≤ 1000000 ∧ 1 ≤ p2.toInt ∧ p2.toInt ≤ 1000000 ∧ 0 ≤ p3.toInt ∧ p3.toInt ≤ 1000 ∧ p1.toInt ≤ p2.toInt ∧ p2.toInt ≤ p1.toInt + 2000 ∧ 2 * p3.toInt < p1.toInt ∧ 2 ≤ s_blips_many.toInt))) from ?_)
                refine ⟨?_, ?_⟩ <;> (omega)
              · skip
                have l135 : (2 : Int32).toInt = 2 := by decide
                have g136 := rgI (2 * p3)
                first | have e137 := mlY 2 p3 (2) (by decide) (by omega) (by omega) | skip
                have c138 := nleI h130
                refine Sf_ite (fun h139 => ?_) (fun h139 => ?_)
                · skip
                  have c140 := ltI h139
                  refine Sf_some (show (((0 : Int32).toInt = 0 ∨ (0 : Int32).toInt = 1)) ∧ (((0 : Int32).toInt = 1 ∧ (1 ≤ p1.toInt ∧ p1.toInt ≤ 1000000 ∧ 1 ≤ p2.toInt ∧ p2.toInt ≤ 1000000 ∧ 0 ≤ p3.toInt ∧ p3.toInt ≤ 1000 ∧ p1.toInt ≤ p2.toInt ∧ p2.toInt ≤ p1.toInt + 2000 ∧ 2 * p3.toInt < p1.toInt ∧ 2 ≤ s_blips_many.toInt)) ∨ ((0 : Int32).toInt = 0 ∧ ¬ (1 ≤ p1.toInt ∧ p1.toInt ≤ 1000000 ∧ 1 ≤ p2.toInt ∧ p2.toInt ≤ 1000000 ∧ 0 ≤ p3.toInt ∧ p3.toInt ≤ 1000 ∧ p1.toInt ≤ p2.toInt ∧ p2.toInt ≤ p1.toInt + 2000 ∧ 2 * p3.toInt < p1.toInt ∧ 2 ≤ s_blips_many.toInt))) from ?_)
                  refine ⟨?_, ?_⟩ <;> (omega)
                · skip
                  have c141 := nltI h139
                  refine Sf_some (show (((1 : Int32).toInt = 0 ∨ (1 : Int32).toInt = 1)) ∧ (((1 : Int32).toInt = 1 ∧ (1 ≤ p1.toInt ∧ p1.toInt ≤ 1000000 ∧ 1 ≤ p2.toInt ∧ p2.toInt ≤ 1000000 ∧ 0 ≤ p3.toInt ∧ p3.toInt ≤ 1000 ∧ p1.toInt ≤ p2.toInt ∧ p2.toInt ≤ p1.toInt + 2000 ∧ 2 * p3.toInt < p1.toInt ∧ 2 ≤ s_blips_many.toInt)) ∨ ((1 : Int32).toInt = 0 ∧ ¬ (1 ≤ p1.toInt ∧ p1.toInt ≤ 1000000 ∧ 1 ≤ p2.toInt ∧ p2.toInt ≤ 1000000 ∧ 0 ≤ p3.toInt ∧ p3.toInt ≤ 1000 ∧ p1.toInt ≤ p2.toInt ∧ p2.toInt ≤ p1.toInt + 2000 ∧ 2 * p3.toInt < p1.toInt ∧ 2 ≤ s_blips_many.toInt))) from ?_)
                  refine ⟨?_, ?_⟩ <;> (omega)
set_option maxHeartbeats 4000000 in
set_option maxRecDepth 100000 in
theorem e_X12_canBeat (s_blips : Int32) (p1 : Int32) (p2 : Int32) (p3 : Int32) (hp0 : 0 ≤ s_blips.toInt) (hp1 : s_blips.toInt ≤ 40) : Sf (f_X12_canBeat s_blips p1 p2 p3) (fun (y : Int32) => ((y.toInt = 0 ∨ y.toInt = 1)) ∧ ((y.toInt = 1 ∧ (1 ≤ p1.toInt ∧ p1.toInt ≤ 1000000 ∧ 1 ≤ p2.toInt ∧ p2.toInt ≤ 1000000 ∧ 0 ≤ p3.toInt ∧ p3.toInt ≤ 1000 ∧ p1.toInt ≤ p2.toInt ∧ p2.toInt ≤ p1.toInt + 2000 ∧ 2 * p3.toInt < p1.toInt ∧ 2 ≤ s_blips.toInt)) ∨ (y.toInt = 0 ∧ ¬ (1 ≤ p1.toInt ∧ p1.toInt ≤ 1000000 ∧ 1 ≤ p2.toInt ∧ p2.toInt ≤ 1000000 ∧ 0 ≤ p3.toInt ∧ p3.toInt ≤ 1000 ∧ p1.toInt ≤ p2.toInt ∧ p2.toInt ≤ p1.toInt + 2000 ∧ 2 * p3.toInt < p1.toInt ∧ 2 ≤ s_blips.toInt)))) := by
  have g1 := rgI s_blips
  have g2 := rgI p1
  have g3 := rgI p2
  have g4 := rgI p3
  have hFU : (100000 : Int) ≤ (FU : Int) := Int.ofNat_le.mpr FU_ge
  rw [f_X12_canBeat]
  refine Sf_cb1 (s_X12_isBeat p1 ) (fun r1_1 hp5 => ?_)
  have hp5 : ((r1_1.toInt = 0 ∨ r1_1.toInt = 1)) ∧ ((r1_1.toInt = 1 ∧ 1 ≤ p1.toInt ∧ p1.toInt ≤ 1000000) ∨ (r1_1.toInt = 0 ∧ (p1.toInt < 1 ∨ 1000000 < p1.toInt))) := hp5
  obtain ⟨hq6, hq7⟩ := hp5
  have g8 := rgI r1_1
  refine Sf_ite (fun h9 => ?_) (fun h9 => ?_)
  · skip
    have l10 : (0 : Int32).toInt = 0 := by decide
    have c11 := eqI h9
    refine Sf_some (show (((0 : Int32).toInt = 0 ∨ (0 : Int32).toInt = 1)) ∧ (((0 : Int32).toInt = 1 ∧ (1 ≤ p1.toInt ∧ p1.toInt ≤ 1000000 ∧ 1 ≤ p2.toInt ∧ p2.toInt ≤ 1000000 ∧ 0 ≤ p3.toInt ∧ p3.toInt ≤ 1000 ∧ p1.toInt ≤ p2.toInt ∧ p2.toInt ≤ p1.toInt + 2000 ∧ 2 * p3.toInt < p1.toInt ∧ 2 ≤ s_blips.toInt)) ∨ ((0 : Int32).toInt = 0 ∧ ¬ (1 ≤ p1.toInt ∧ p1.toInt ≤ 1000000 ∧ 1 ≤ p2.toInt ∧ p2.toInt ≤ 1000000 ∧ 0 ≤ p3.toInt ∧ p3.toInt ≤ 1000 ∧ p1.toInt ≤ p2.toInt ∧ p2.toInt ≤ p1.toInt + 2000 ∧ 2 * p3.toInt < p1.toInt ∧ 2 ≤ s_blips.toInt))) from ?_)
    refine ⟨?_, ?_⟩ <;> (omega)
  · skip
    have l12 : (0 : Int32).toInt = 0 := by decide
    have c13 := neI h9
    refine Sf_cb1 (s_X12_isBeat p2 ) (fun r8_10 hp14 => ?_)
    have hp14 : ((r8_10.toInt = 0 ∨ r8_10.toInt = 1)) ∧ ((r8_10.toInt = 1 ∧ 1 ≤ p2.toInt ∧ p2.toInt ≤ 1000000) ∨ (r8_10.toInt = 0 ∧ (p2.toInt < 1 ∨ 1000000 < p2.toInt))) := hp14
    obtain ⟨hq15, hq16⟩ := hp14
    have g17 := rgI r8_10
    refine Sf_ite (fun h18 => ?_) (fun h18 => ?_)
    · skip
      have c19 := eqI h18
      refine Sf_some (show (((0 : Int32).toInt = 0 ∨ (0 : Int32).toInt = 1)) ∧ (((0 : Int32).toInt = 1 ∧ (1 ≤ p1.toInt ∧ p1.toInt ≤ 1000000 ∧ 1 ≤ p2.toInt ∧ p2.toInt ≤ 1000000 ∧ 0 ≤ p3.toInt ∧ p3.toInt ≤ 1000 ∧ p1.toInt ≤ p2.toInt ∧ p2.toInt ≤ p1.toInt + 2000 ∧ 2 * p3.toInt < p1.toInt ∧ 2 ≤ s_blips.toInt)) ∨ ((0 : Int32).toInt = 0 ∧ ¬ (1 ≤ p1.toInt ∧ p1.toInt ≤ 1000000 ∧ 1 ≤ p2.toInt ∧ p2.toInt ≤ 1000000 ∧ 0 ≤ p3.toInt ∧ p3.toInt ≤ 1000 ∧ p1.toInt ≤ p2.toInt ∧ p2.toInt ≤ p1.toInt + 2000 ∧ 2 * p3.toInt < p1.toInt ∧ 2 ≤ s_blips.toInt))) from ?_)
      refine ⟨?_, ?_⟩ <;> (omega)
    · skip
      have c20 := neI h18
      have t21 := t64 p2
      have t22 := t64 p1
      have g23 := rgI (p1 + 2000)
      first | have e24 := adN p1 2000 (2000) (by decide) (by omega) (by omega) | skip
      have t25 := t64 (p1 + 2000)
      refine Sf_cb1 (s_X12_lies (Int32.toInt64 p2) (Int32.toInt64 p1) (Int32.toInt64 (p1 + 2000)) ) (fun r24_19 hp26 => ?_)
      have hp26 : ((r24_19.toInt = 0 ∨ r24_19.toInt = 1)) ∧ ((r24_19.toInt = 1 ∧ (Int32.toInt64 p1).toInt ≤ (Int32.toInt64 p2).toInt ∧ (Int32.toInt64 p2).toInt ≤ (Int32.toInt64 (p1 + 2000)).toInt) ∨ (r24_19.toInt = 0 ∧ ((Int32.toInt64 p2).toInt < (Int32.toInt64 p1).toInt ∨ (Int32.toInt64 (p1 + 2000)).toInt < (Int32.toInt64 p2).toInt))) := hp26
      obtain ⟨hq27, hq28⟩ := hp26
      have g29 := rgI r24_19
      refine Sf_ite (fun h30 => ?_) (fun h30 => ?_)
      · skip
        have c31 := eqI h30
        refine Sf_some (show (((0 : Int32).toInt = 0 ∨ (0 : Int32).toInt = 1)) ∧ (((0 : Int32).toInt = 1 ∧ (1 ≤ p1.toInt ∧ p1.toInt ≤ 1000000 ∧ 1 ≤ p2.toInt ∧ p2.toInt ≤ 1000000 ∧ 0 ≤ p3.toInt ∧ p3.toInt ≤ 1000 ∧ p1.toInt ≤ p2.toInt ∧ p2.toInt ≤ p1.toInt + 2000 ∧ 2 * p3.toInt < p1.toInt ∧ 2 ≤ s_blips.toInt)) ∨ ((0 : Int32).toInt = 0 ∧ ¬ (1 ≤ p1.toInt ∧ p1.toInt ≤ 1000000 ∧ 1 ≤ p2.toInt ∧ p2.toInt ≤ 1000000 ∧ 0 ≤ p3.toInt ∧ p3.toInt ≤ 1000 ∧ p1.toInt ≤ p2.toInt ∧ p2.toInt ≤ p1.toInt + 2000 ∧ 2 * p3.toInt < p1.toInt ∧ 2 ≤ s_blips.toInt))) from ?_)
        refine ⟨?_, ?_⟩ <;> (omega)
      · skip
        have c32 := neI h30
        have t33 := t64 p3
        have l34 : (0 : Int64).toInt = 0 := by decide
        have l35 : (1000 : Int64).toInt = 1000 := by decide
        refine Sf_cb1 (s_X12_lies (Int32.toInt64 p3) 0 1000 ) (fun r36_28 hp36 => ?_)
        have hp36 : ((r36_28.toInt = 0 ∨ r36_28.toInt = 1)) ∧ ((r36_28.toInt = 1 ∧ (0 : Int64).toInt ≤ (Int32.toInt64 p3).toInt ∧ (Int32.toInt64 p3).toInt ≤ (1000 : Int64).toInt) ∨ (r36_28.toInt = 0 ∧ ((Int32.toInt64 p3).toInt < (0 : Int64).toInt ∨ (1000 : Int64).toInt < (Int32.toInt64 p3).toInt))) := hp36
        obtain ⟨hq37, hq38⟩ := hp36
        have g39 := rgI r36_28
        refine Sf_ite (fun h40 => ?_) (fun h40 => ?_)
        · skip
          have c41 := eqI h40
          refine Sf_some (show (((0 : Int32).toInt = 0 ∨ (0 : Int32).toInt = 1)) ∧ (((0 : Int32).toInt = 1 ∧ (1 ≤ p1.toInt ∧ p1.toInt ≤ 1000000 ∧ 1 ≤ p2.toInt ∧ p2.toInt ≤ 1000000 ∧ 0 ≤ p3.toInt ∧ p3.toInt ≤ 1000 ∧ p1.toInt ≤ p2.toInt ∧ p2.toInt ≤ p1.toInt + 2000 ∧ 2 * p3.toInt < p1.toInt ∧ 2 ≤ s_blips.toInt)) ∨ ((0 : Int32).toInt = 0 ∧ ¬ (1 ≤ p1.toInt ∧ p1.toInt ≤ 1000000 ∧ 1 ≤ p2.toInt ∧ p2.toInt ≤ 1000000 ∧ 0 ≤ p3.toInt ∧ p3.toInt ≤ 1000 ∧ p1.toInt ≤ p2.toInt ∧ p2.toInt ≤ p1.toInt + 2000 ∧ 2 * p3.toInt < p1.toInt ∧ 2 ≤ s_blips.toInt))) from ?_)
          refine ⟨?_, ?_⟩ <;> (omega)
        · skip
          have c42 := neI h40
          refine Sf_ite (fun h43 => ?_) (fun h43 => ?_)
          · skip
            have l44 : (2 : Int32).toInt = 2 := by decide
            have g45 := rgI (2 * p3)
            first | have e46 := mlY 2 p3 (2) (by decide) (by omega) (by omega) | skip
            have c47 := leI h43
            refine Sf_some (show (((0 : Int32).toInt = 0 ∨ (0 : Int32).toInt = 1)) ∧ (((0 : Int32).toInt = 1 ∧ (1 ≤ p1.toInt ∧ p1.toInt ≤ 1000000 ∧ 1 ≤ p2.toInt ∧ p2.toInt ≤ 1000000 ∧ 0 ≤ p3.toInt ∧ p3.toInt ≤ 1000 ∧ p1.toInt ≤ p2.toInt ∧ p2.toInt ≤ p1.toInt + 2000 ∧ 2 * p3.toInt < p1.toInt ∧ 2 ≤ s_blips.toInt)) ∨ ((0 : Int32).toInt = 0 ∧ ¬ (1 ≤ p1.toInt ∧ p1.toInt ≤ 1000000 ∧ 1 ≤ p2.toInt ∧ p2.toInt ≤ 1000000 ∧ 0 ≤ p3.toInt ∧ p3.toInt ≤ 1000 ∧ p1.toInt ≤ p2.toInt ∧ p2.toInt ≤ p1.toInt + 2000 ∧ 2 * p3.toInt < p1.toInt ∧ 2 ≤ s_blips.toInt))) from ?_)
            refine ⟨?_, ?_⟩ <;> (omega)
          · skip
            have l48 : (2 : Int32).toInt = 2 := by decide
            have g49 := rgI (2 * p3)
            first | have e50 := mlY 2 p3 (2) (by decide) (by omega) (by omega) | skip
            have c51 := nleI h43
            refine Sf_ite (fun h52 => ?_) (fun h52 => ?_)
            · skip
              have l53 : (1 : Int32).toInt = 1 := by decide
              have c54 := leI h52
              refine Sf_some (show (((0 : Int32).toInt = 0 ∨ (0 : Int32).toInt = 1)) ∧ (((0 : Int32).toInt = 1 ∧ (1 ≤ p1.toInt ∧ p1.toInt ≤ 1000000 ∧ 1 ≤ p2.toInt ∧ p2.toInt ≤ 1000000 ∧ 0 ≤ p3.toInt ∧ p3.toInt ≤ 1000 ∧ p1.toInt ≤ p2.toInt ∧ p2.toInt ≤ p1.toInt + 2000 ∧ 2 * p3.toInt < p1.toInt ∧ 2 ≤ s_blips.toInt)) ∨ ((0 : Int32).toInt = 0 ∧ ¬ (1 ≤ p1.toInt ∧ p1.toInt ≤ 1000000 ∧ 1 ≤ p2.toInt ∧ p2.toInt ≤ 1000000 ∧ 0 ≤ p3.toInt ∧ p3.toInt ≤ 1000 ∧ p1.toInt ≤ p2.toInt ∧ p2.toInt ≤ p1.toInt + 2000 ∧ 2 * p3.toInt < p1.toInt ∧ 2 ≤ s_blips.toInt))) from ?_)
              refine ⟨?_, ?_⟩ <;> (omega)
            · skip
              have l55 : (1 : Int32).toInt = 1 := by decide
              have c56 := nleI h52
              refine Sf_some (show (((1 : Int32).toInt = 0 ∨ (1 : Int32).toInt = 1)) ∧ (((1 : Int32).toInt = 1 ∧ (1 ≤ p1.toInt ∧ p1.toInt ≤ 1000000 ∧ 1 ≤ p2.toInt ∧ p2.toInt ≤ 1000000 ∧ 0 ≤ p3.toInt ∧ p3.toInt ≤ 1000 ∧ p1.toInt ≤ p2.toInt ∧ p2.toInt ≤ p1.toInt + 2000 ∧ 2 * p3.toInt < p1.toInt ∧ 2 ≤ s_blips.toInt)) ∨ ((1 : Int32).toInt = 0 ∧ ¬ (1 ≤ p1.toInt ∧ p1.toInt ≤ 1000000 ∧ 1 ≤ p2.toInt ∧ p2.toInt ≤ 1000000 ∧ 0 ≤ p3.toInt ∧ p3.toInt ≤ 1000 ∧ p1.toInt ≤ p2.toInt ∧ p2.toInt ≤ p1.toInt + 2000 ∧ 2 * p3.toInt < p1.toInt ∧ 2 ≤ s_blips.toInt))) from ?_)
              refine ⟨?_, ?_⟩ <;> (omega)
set_option maxHeartbeats 4000000 in
set_option maxRecDepth 100000 in
theorem e_X4_forget (s_day : Int32)  : Sf (f_X4_forget s_day) (fun (y : Int32) => (y.toInt = -1)) := by
  have g1 := rgI s_day
  have hFU : (100000 : Int) ≤ (FU : Int) := Int.ofNat_le.mpr FU_ge
  rw [f_X4_forget]
  have l2 : ((-1) : Int32).toInt = -1 := by decide
  refine Sf_some (show ((-1 : Int32).toInt = -1) from ?_)
  (omega)
set_option maxHeartbeats 4000000 in
set_option maxRecDepth 100000 in
theorem e_X7_add (s_many : Int32) (hp0 : 0 ≤ s_many.toInt) (hp1 : s_many.toInt < 10) : Sf (f_X7_add s_many) (fun (y : Int32 × Int32) => ((y.1).toInt = s_many.toInt) ∧ ((y.2).toInt = s_many.toInt + 1)) := by
  have g1 := rgI s_many
  have hFU : (100000 : Int) ≤ (FU : Int) := Int.ofNat_le.mpr FU_ge
  rw [f_X7_add]
  refine Sf_ite (fun h2 => ?_) (fun h2 => ?_)
  · skip
    have l3 : (10 : Int32).toInt = 10 := by decide
    have c4 := ltI h2
    refine Sf_gdN (by omega) (by omega) ?_
    refine Sf_nmI (fun v28_7 hv5 => ?_)
    have g6 := rgI (s_many + 1)
    first | have e7 := adN s_many 1 (1) (by decide) (by omega) (by omega) | skip
    have q8 := eqI hv5
    have g9 := rgI (v28_7 - 1)
    first | have e10 := sbN v28_7 1 (1) (by decide) (by omega) (by omega) | skip
    refine Sf_some (show ((v28_7 - 1).toInt = s_many.toInt) ∧ (v28_7.toInt = s_many.toInt + 1) from ?_)
    refine ⟨?_, ?_⟩ <;> (omega)
  · skip
    have l11 : (10 : Int32).toInt = 10 := by decide
    have c12 := nltI h2
    exfalso
    omega
set_option maxHeartbeats 4000000 in
set_option maxRecDepth 100000 in
theorem e_X11_source (G : kG) (s_page_day : Int32) (s_sky_many : Int32) (p1 : Int32) (p2 : Int32) (p3 : Int32) (p4 : Int32) (p5 : Int32) (hp0 : 0 ≤ s_sky_many.toInt) (hp1 : s_sky_many.toInt ≤ 10) (hp2 : (p1.toInt = 0 ∨ p1.toInt = 1)) (hp3 : ∀ i : Nat, s_sky_many.toInt ≤ (i : Int) → i < 10 → G.1 i = none ∧ G.2 i = none) : Sf (f_X11_source G s_page_day s_sky_many p1 p2 p3 p4 p5) (fun (y : Int32 × Int32 × Int32 × Option (Nat × Int32 × Int32 × Int32 × Int32 × Int32 × Int32)) => (((y.2.2.2) = none ∧ (y.1).toInt = -1 ∧ (y.2.2.1).toInt = s_sky_many.toInt ∧ (y.2.1) = s_page_day ∧ ¬ (0 ≤ p2.toInt ∧ p2.toInt ≤ 1439 ∧ 0 ≤ p3.toInt ∧ p3.toInt ≤ 30 ∧ 0 ≤ p4.toInt ∧ p4.toInt ≤ 3 ∧ 0 ≤ p5.toInt ∧ p5.toInt ≤ 127 ∧ s_sky_many.toInt < 10)) ∨ ((y.2.2.2) = some (Int32.toNatClampNeg s_sky_many, (s_sky_many, p1, p2, p3, p4, p5)) ∧ (y.1).toInt = s_sky_many.toInt ∧ (y.2.2.1).toInt = s_sky_many.toInt + 1 ∧ (y.2.1).toInt = -1 ∧ (0 ≤ p2.toInt ∧ p2.toInt ≤ 1439 ∧ 0 ≤ p3.toInt ∧ p3.toInt ≤ 30 ∧ 0 ≤ p4.toInt ∧ p4.toInt ≤ 3 ∧ 0 ≤ p5.toInt ∧ p5.toInt ≤ 127 ∧ s_sky_many.toInt < 10)))) := by
  have g1 := rgI s_page_day
  have g2 := rgI s_sky_many
  have g3 := rgI p1
  have g4 := rgI p2
  have g5 := rgI p3
  have g6 := rgI p4
  have g7 := rgI p5
  have hFU : (100000 : Int) ≤ (FU : Int) := Int.ofNat_le.mpr FU_ge
  rw [f_X11_source]
  refine Sf_cb1 (s_X11_isMinute p2 ) (fun r1_1 hp8 => ?_)
  have hp8 : ((r1_1.toInt = 0 ∨ r1_1.toInt = 1)) ∧ ((r1_1.toInt = 1 ∧ 0 ≤ p2.toInt ∧ p2.toInt ≤ 1439) ∨ (r1_1.toInt = 0 ∧ (p2.toInt < 0 ∨ 1439 < p2.toInt))) := hp8
  obtain ⟨hq9, hq10⟩ := hp8
  have g11 := rgI r1_1
  refine Sf_ite (fun h12 => ?_) (fun h12 => ?_)
  · skip
    have l13 : (0 : Int32).toInt = 0 := by decide
    have c14 := eqI h12
    rw [f_X11_source_J41]
    refine Sf_ite (fun h15 => ?_) (fun h15 => ?_)
    · skip
      have c16 := eqI h15
      have l17 : ((-1) : Int32).toInt = -1 := by decide
      refine Sf_some (show ((none = none ∧ (-1 : Int32).toInt = -1 ∧ s_sky_many.toInt = s_sky_many.toInt ∧ s_page_day = s_page_day ∧ ¬ (0 ≤ p2.toInt ∧ p2.toInt ≤ 1439 ∧ 0 ≤ p3.toInt ∧ p3.toInt ≤ 30 ∧ 0 ≤ p4.toInt ∧ p4.toInt ≤ 3 ∧ 0 ≤ p5.toInt ∧ p5.toInt ≤ 127 ∧ s_sky_many.toInt < 10)) ∨ (none = some (Int32.toNatClampNeg s_sky_many, (s_sky_many, p1, p2, p3, p4, p5)) ∧ (-1 : Int32).toInt = s_sky_many.toInt ∧ s_sky_many.toInt = s_sky_many.toInt + 1 ∧ s_page_day.toInt = -1 ∧ (0 ≤ p2.toInt ∧ p2.toInt ≤ 1439 ∧ 0 ≤ p3.toInt ∧ p3.toInt ≤ 30 ∧ 0 ≤ p4.toInt ∧ p4.toInt ≤ 3 ∧ 0 ≤ p5.toInt ∧ p5.toInt ≤ 127 ∧ s_sky_many.toInt < 10))) from ?_)
      (first | (refine Or.inl ⟨?_, ?_, ?_, ?_, ?_⟩ <;> (first | omega | assumption | with_reducible rfl) <;> done) | (refine Or.inr ⟨?_, ?_, ?_, ?_, ?_⟩ <;> (first | omega | assumption | with_reducible rfl) <;> done))
    · skip
      have c18 := neI h15
      refine Sf_ite (fun h19 => ?_) (fun h19 => ?_)
      · skip
        have l20 : (10 : Int32).toInt = 10 := by decide
        have c21 := ltI h19
        refine Sf_cb1 (e_X4_forget s_page_day ) (fun o_day66_23 hp22 => ?_)
        have hp22 : (o_day66_23.toInt = -1) := hp22
        have g23 := rgI o_day66_23
        refine Sf_bo (by omega) ?_
        refine Sf_cb2 (e_X7_add s_sky_many (by omega) (by omega)) (fun r94_40 o_many94_41 hp24 => ?_)
        have hp24 : (r94_40.toInt = s_sky_many.toInt) ∧ (o_many94_41.toInt = s_sky_many.toInt + 1) := hp24
        obtain ⟨hq25, hq26⟩ := hp24
        have g27 := rgI r94_40
        have g28 := rgI o_many94_41
        refine Sf_ckS (by have := tN s_sky_many (by omega); omega) ((hp3 (Int32.toNatClampNeg s_sky_many) (by have := tN s_sky_many (by omega); omega) (by have := tN s_sky_many (by omega); omega)).1) ((hp3 (Int32.toNatClampNeg s_sky_many) (by have := tN s_sky_many (by omega); omega) (by have := tN s_sky_many (by omega); omega)).2) ?_
        refine Sf_some (show (((some ((Int32.toNatClampNeg s_sky_many), (s_sky_many, p1, p2, p3, p4, p5))) = none ∧ r94_40.toInt = -1 ∧ o_many94_41.toInt = s_sky_many.toInt ∧ o_day66_23 = s_page_day ∧ ¬ (0 ≤ p2.toInt ∧ p2.toInt ≤ 1439 ∧ 0 ≤ p3.toInt ∧ p3.toInt ≤ 30 ∧ 0 ≤ p4.toInt ∧ p4.toInt ≤ 3 ∧ 0 ≤ p5.toInt ∧ p5.toInt ≤ 127 ∧ s_sky_many.toInt < 10)) ∨ ((some ((Int32.toNatClampNeg s_sky_many), (s_sky_many, p1, p2, p3, p4, p5))) = some (Int32.toNatClampNeg s_sky_many, (s_sky_many, p1, p2, p3, p4, p5)) ∧ r94_40.toInt = s_sky_many.toInt ∧ o_many94_41.toInt = s_sky_many.toInt + 1 ∧ o_day66_23.toInt = -1 ∧ (0 ≤ p2.toInt ∧ p2.toInt ≤ 1439 ∧ 0 ≤ p3.toInt ∧ p3.toInt ≤ 30 ∧ 0 ≤ p4.toInt ∧ p4.toInt ≤ 3 ∧ 0 ≤ p5.toInt ∧ p5.toInt ≤ 127 ∧ s_sky_many.toInt < 10))) from ?_)
        (first | (refine Or.inl ⟨?_, ?_, ?_, ?_, ?_⟩ <;> (first | omega | assumption | with_reducible rfl) <;> done) | (refine Or.inr ⟨?_, ?_, ?_, ?_, ?_⟩ <;> (first | omega | assumption | with_reducible rfl) <;> done))
      · skip
        have l29 : (10 : Int32).toInt = 10 := by decide
        have c30 := nltI h19
        have l31 : ((-1) : Int32).toInt = -1 := by decide
        refine Sf_some (show ((none = none ∧ (-1 : Int32).toInt = -1 ∧ s_sky_many.toInt = s_sky_many.toInt ∧ s_page_day = s_page_day ∧ ¬ (0 ≤ p2.toInt ∧ p2.toInt ≤ 1439 ∧ 0 ≤ p3.toInt ∧ p3.toInt ≤ 30 ∧ 0 ≤ p4.toInt ∧ p4.toInt ≤ 3 ∧ 0 ≤ p5.toInt ∧ p5.toInt ≤ 127 ∧ s_sky_many.toInt < 10)) ∨ (none = some (Int32.toNatClampNeg s_sky_many, (s_sky_many, p1, p2, p3, p4, p5)) ∧ (-1 : Int32).toInt = s_sky_many.toInt ∧ s_sky_many.toInt = s_sky_many.toInt + 1 ∧ s_page_day.toInt = -1 ∧ (0 ≤ p2.toInt ∧ p2.toInt ≤ 1439 ∧ 0 ≤ p3.toInt ∧ p3.toInt ≤ 30 ∧ 0 ≤ p4.toInt ∧ p4.toInt ≤ 3 ∧ 0 ≤ p5.toInt ∧ p5.toInt ≤ 127 ∧ s_sky_many.toInt < 10))) from ?_)
        (first | (refine Or.inl ⟨?_, ?_, ?_, ?_, ?_⟩ <;> (first | omega | assumption | with_reducible rfl) <;> done) | (refine Or.inr ⟨?_, ?_, ?_, ?_, ?_⟩ <;> (first | omega | assumption | with_reducible rfl) <;> done))
  · skip
    have l32 : (0 : Int32).toInt = 0 := by decide
    have c33 := neI h12
    have l34 : (30 : Int32).toInt = 30 := by decide
    refine Sf_cb1 (s_X11_isWithin p3 0 30 ) (fun r11_68 hp35 => ?_)
    have hp35 : ((r11_68.toInt = 0 ∨ r11_68.toInt = 1)) ∧ ((r11_68.toInt = 1 ∧ (0 : Int32).toInt ≤ p3.toInt ∧ p3.toInt ≤ (30 : Int32).toInt) ∨ (r11_68.toInt = 0 ∧ (p3.toInt < (0 : Int32).toInt ∨ (30 : Int32).toInt < p3.toInt))) := hp35
    obtain ⟨hq36, hq37⟩ := hp35
    have g38 := rgI r11_68
    refine Sf_ite (fun h39 => ?_) (fun h39 => ?_)
    · skip
      have c40 := eqI h39
      rw [f_X11_source_J41]
      refine Sf_ite (fun h41 => ?_) (fun h41 => ?_)
      · skip
        have c42 := eqI h41
        have l43 : ((-1) : Int32).toInt = -1 := by decide
        refine Sf_some (show ((none = none ∧ (-1 : Int32).toInt = -1 ∧ s_sky_many.toInt = s_sky_many.toInt ∧ s_page_day = s_page_day ∧ ¬ (0 ≤ p2.toInt ∧ p2.toInt ≤ 1439 ∧ 0 ≤ p3.toInt ∧ p3.toInt ≤ 30 ∧ 0 ≤ p4.toInt ∧ p4.toInt ≤ 3 ∧ 0 ≤ p5.toInt ∧ p5.toInt ≤ 127 ∧ s_sky_many.toInt < 10)) ∨ (none = some (Int32.toNatClampNeg s_sky_many, (s_sky_many, p1, p2, p3, p4, p5)) ∧ (-1 : Int32).toInt = s_sky_many.toInt ∧ s_sky_many.toInt = s_sky_many.toInt + 1 ∧ s_page_day.toInt = -1 ∧ (0 ≤ p2.toInt ∧ p2.toInt ≤ 1439 ∧ 0 ≤ p3.toInt ∧ p3.toInt ≤ 30 ∧ 0 ≤ p4.toInt ∧ p4.toInt ≤ 3 ∧ 0 ≤ p5.toInt ∧ p5.toInt ≤ 127 ∧ s_sky_many.toInt < 10))) from ?_)
        (first | (refine Or.inl ⟨?_, ?_, ?_, ?_, ?_⟩ <;> (first | omega | assumption | with_reducible rfl) <;> done) | (refine Or.inr ⟨?_, ?_, ?_, ?_, ?_⟩ <;> (first | omega | assumption | with_reducible rfl) <;> done))
      · skip
        have c44 := neI h41
        refine Sf_ite (fun h45 => ?_) (fun h45 => ?_)
        · skip
          have l46 : (10 : Int32).toInt = 10 := by decide
          have c47 := ltI h45
          refine Sf_cb1 (e_X4_forget s_page_day ) (fun o_day66_23 hp48 => ?_)
          have hp48 : (o_day66_23.toInt = -1) := hp48
          have g49 := rgI o_day66_23
          refine Sf_bo (by omega) ?_
          refine Sf_cb2 (e_X7_add s_sky_many (by omega) (by omega)) (fun r94_40 o_many94_41 hp50 => ?_)
          have hp50 : (r94_40.toInt = s_sky_many.toInt) ∧ (o_many94_41.toInt = s_sky_many.toInt + 1) := hp50
          obtain ⟨hq51, hq52⟩ := hp50
          have g53 := rgI r94_40
          have g54 := rgI o_many94_41
          refine Sf_ckS (by have := tN s_sky_many (by omega); omega) ((hp3 (Int32.toNatClampNeg s_sky_many) (by have := tN s_sky_many (by omega); omega) (by have := tN s_sky_many (by omega); omega)).1) ((hp3 (Int32.toNatClampNeg s_sky_many) (by have := tN s_sky_many (by omega); omega) (by have := tN s_sky_many (by omega); omega)).2) ?_
          refine Sf_some (show (((some ((Int32.toNatClampNeg s_sky_many), (s_sky_many, p1, p2, p3, p4, p5))) = none ∧ r94_40.toInt = -1 ∧ o_many94_41.toInt = s_sky_many.toInt ∧ o_day66_23 = s_page_day ∧ ¬ (0 ≤ p2.toInt ∧ p2.toInt ≤ 1439 ∧ 0 ≤ p3.toInt ∧ p3.toInt ≤ 30 ∧ 0 ≤ p4.toInt ∧ p4.toInt ≤ 3 ∧ 0 ≤ p5.toInt ∧ p5.toInt ≤ 127 ∧ s_sky_many.toInt < 10)) ∨ ((some ((Int32.toNatClampNeg s_sky_many), (s_sky_many, p1, p2, p3, p4, p5))) = some (Int32.toNatClampNeg s_sky_many, (s_sky_many, p1, p2, p3, p4, p5)) ∧ r94_40.toInt = s_sky_many.toInt ∧ o_many94_41.toInt = s_sky_many.toInt + 1 ∧ o_day66_23.toInt = -1 ∧ (0 ≤ p2.toInt ∧ p2.toInt ≤ 1439 ∧ 0 ≤ p3.toInt ∧ p3.toInt ≤ 30 ∧ 0 ≤ p4.toInt ∧ p4.toInt ≤ 3 ∧ 0 ≤ p5.toInt ∧ p5.toInt ≤ 127 ∧ s_sky_many.toInt < 10))) from ?_)
          (first | (refine Or.inl ⟨?_, ?_, ?_, ?_, ?_⟩ <;> (first | omega | assumption | with_reducible rfl) <;> done) | (refine Or.inr ⟨?_, ?_, ?_, ?_, ?_⟩ <;> (first | omega | assumption | with_reducible rfl) <;> done))
        · skip
          have l55 : (10 : Int32).toInt = 10 := by decide
          have c56 := nltI h45
          have l57 : ((-1) : Int32).toInt = -1 := by decide
          refine Sf_some (show ((none = none ∧ (-1 : Int32).toInt = -1 ∧ s_sky_many.toInt = s_sky_many.toInt ∧ s_page_day = s_page_day ∧ ¬ (0 ≤ p2.toInt ∧ p2.toInt ≤ 1439 ∧ 0 ≤ p3.toInt ∧ p3.toInt ≤ 30 ∧ 0 ≤ p4.toInt ∧ p4.toInt ≤ 3 ∧ 0 ≤ p5.toInt ∧ p5.toInt ≤ 127 ∧ s_sky_many.toInt < 10)) ∨ (none = some (Int32.toNatClampNeg s_sky_many, (s_sky_many, p1, p2, p3, p4, p5)) ∧ (-1 : Int32).toInt = s_sky_many.toInt ∧ s_sky_many.toInt = s_sky_many.toInt + 1 ∧ s_page_day.toInt = -1 ∧ (0 ≤ p2.toInt ∧ p2.toInt ≤ 1439 ∧ 0 ≤ p3.toInt ∧ p3.toInt ≤ 30 ∧ 0 ≤ p4.toInt ∧ p4.toInt ≤ 3 ∧ 0 ≤ p5.toInt ∧ p5.toInt ≤ 127 ∧ s_sky_many.toInt < 10))) from ?_)
          (first | (refine Or.inl ⟨?_, ?_, ?_, ?_, ?_⟩ <;> (first | omega | assumption | with_reducible rfl) <;> done) | (refine Or.inr ⟨?_, ?_, ?_, ?_, ?_⟩ <;> (first | omega | assumption | with_reducible rfl) <;> done))
    · skip
      have c58 := neI h39
      refine Sf_cb1 (s_X11_isShape p4 ) (fun r19_81 hp59 => ?_)
      have hp59 : ((r19_81.toInt = 0 ∨ r19_81.toInt = 1)) ∧ ((r19_81.toInt = 1 ∧ 0 ≤ p4.toInt ∧ p4.toInt ≤ 3) ∨ (r19_81.toInt = 0 ∧ (p4.toInt < 0 ∨ 3 < p4.toInt))) := hp59
      obtain ⟨hq60, hq61⟩ := hp59
      have g62 := rgI r19_81
      refine Sf_ite (fun h63 => ?_) (fun h63 => ?_)
      · skip
        have c64 := eqI h63
        rw [f_X11_source_J41]
        refine Sf_ite (fun h65 => ?_) (fun h65 => ?_)
        · skip
          have c66 := eqI h65
          have l67 : ((-1) : Int32).toInt = -1 := by decide
          refine Sf_some (show ((none = none ∧ (-1 : Int32).toInt = -1 ∧ s_sky_many.toInt = s_sky_many.toInt ∧ s_page_day = s_page_day ∧ ¬ (0 ≤ p2.toInt ∧ p2.toInt ≤ 1439 ∧ 0 ≤ p3.toInt ∧ p3.toInt ≤ 30 ∧ 0 ≤ p4.toInt ∧ p4.toInt ≤ 3 ∧ 0 ≤ p5.toInt ∧ p5.toInt ≤ 127 ∧ s_sky_many.toInt < 10)) ∨ (none = some (Int32.toNatClampNeg s_sky_many, (s_sky_many, p1, p2, p3, p4, p5)) ∧ (-1 : Int32).toInt = s_sky_many.toInt ∧ s_sky_many.toInt = s_sky_many.toInt + 1 ∧ s_page_day.toInt = -1 ∧ (0 ≤ p2.toInt ∧ p2.toInt ≤ 1439 ∧ 0 ≤ p3.toInt ∧ p3.toInt ≤ 30 ∧ 0 ≤ p4.toInt ∧ p4.toInt ≤ 3 ∧ 0 ≤ p5.toInt ∧ p5.toInt ≤ 127 ∧ s_sky_many.toInt < 10))) from ?_)
          (first | (refine Or.inl ⟨?_, ?_, ?_, ?_, ?_⟩ <;> (first | omega | assumption | with_reducible rfl) <;> done) | (refine Or.inr ⟨?_, ?_, ?_, ?_, ?_⟩ <;> (first | omega | assumption | with_reducible rfl) <;> done))
        · skip
          have c68 := neI h65
          refine Sf_ite (fun h69 => ?_) (fun h69 => ?_)
          · skip
            have l70 : (10 : Int32).toInt = 10 := by decide
            have c71 := ltI h69
            refine Sf_cb1 (e_X4_forget s_page_day ) (fun o_day66_23 hp72 => ?_)
            have hp72 : (o_day66_23.toInt = -1) := hp72
            have g73 := rgI o_day66_23
            refine Sf_bo (by omega) ?_
            refine Sf_cb2 (e_X7_add s_sky_many (by omega) (by omega)) (fun r94_40 o_many94_41 hp74 => ?_)
            have hp74 : (r94_40.toInt = s_sky_many.toInt) ∧ (o_many94_41.toInt = s_sky_many.toInt + 1) := hp74
            obtain ⟨hq75, hq76⟩ := hp74
            have g77 := rgI r94_40
            have g78 := rgI o_many94_41
            refine Sf_ckS (by have := tN s_sky_many (by omega); omega) ((hp3 (Int32.toNatClampNeg s_sky_many) (by have := tN s_sky_many (by omega); omega) (by have := tN s_sky_many (by omega); omega)).1) ((hp3 (Int32.toNatClampNeg s_sky_many) (by have := tN s_sky_many (by omega); omega) (by have := tN s_sky_many (by omega); omega)).2) ?_
            refine Sf_some (show (((some ((Int32.toNatClampNeg s_sky_many), (s_sky_many, p1, p2, p3, p4, p5))) = none ∧ r94_40.toInt = -1 ∧ o_many94_41.toInt = s_sky_many.toInt ∧ o_day66_23 = s_page_day ∧ ¬ (0 ≤ p2.toInt ∧ p2.toInt ≤ 1439 ∧ 0 ≤ p3.toInt ∧ p3.toInt ≤ 30 ∧ 0 ≤ p4.toInt ∧ p4.toInt ≤ 3 ∧ 0 ≤ p5.toInt ∧ p5.toInt ≤ 127 ∧ s_sky_many.toInt < 10)) ∨ ((some ((Int32.toNatClampNeg s_sky_many), (s_sky_many, p1, p2, p3, p4, p5))) = some (Int32.toNatClampNeg s_sky_many, (s_sky_many, p1, p2, p3, p4, p5)) ∧ r94_40.toInt = s_sky_many.toInt ∧ o_many94_41.toInt = s_sky_many.toInt + 1 ∧ o_day66_23.toInt = -1 ∧ (0 ≤ p2.toInt ∧ p2.toInt ≤ 1439 ∧ 0 ≤ p3.toInt ∧ p3.toInt ≤ 30 ∧ 0 ≤ p4.toInt ∧ p4.toInt ≤ 3 ∧ 0 ≤ p5.toInt ∧ p5.toInt ≤ 127 ∧ s_sky_many.toInt < 10))) from ?_)
            (first | (refine Or.inl ⟨?_, ?_, ?_, ?_, ?_⟩ <;> (first | omega | assumption | with_reducible rfl) <;> done) | (refine Or.inr ⟨?_, ?_, ?_, ?_, ?_⟩ <;> (first | omega | assumption | with_reducible rfl) <;> done))
          · skip
            have l79 : (10 : Int32).toInt = 10 := by decide
            have c80 := nltI h69
            have l81 : ((-1) : Int32).toInt = -1 := by decide
            refine Sf_some (show ((none = none ∧ (-1 : Int32).toInt = -1 ∧ s_sky_many.toInt = s_sky_many.toInt ∧ s_page_day = s_page_day ∧ ¬ (0 ≤ p2.toInt ∧ p2.toInt ≤ 1439 ∧ 0 ≤ p3.toInt ∧ p3.toInt ≤ 30 ∧ 0 ≤ p4.toInt ∧ p4.toInt ≤ 3 ∧ 0 ≤ p5.toInt ∧ p5.toInt ≤ 127 ∧ s_sky_many.toInt < 10)) ∨ (none = some (Int32.toNatClampNeg s_sky_many, (s_sky_many, p1, p2, p3, p4, p5)) ∧ (-1 : Int32).toInt = s_sky_many.toInt ∧ s_sky_many.toInt = s_sky_many.toInt + 1 ∧ s_page_day.toInt = -1 ∧ (0 ≤ p2.toInt ∧ p2.toInt ≤ 1439 ∧ 0 ≤ p3.toInt ∧ p3.toInt ≤ 30 ∧ 0 ≤ p4.toInt ∧ p4.toInt ≤ 3 ∧ 0 ≤ p5.toInt ∧ p5.toInt ≤ 127 ∧ s_sky_many.toInt < 10))) from ?_)
            (first | (refine Or.inl ⟨?_, ?_, ?_, ?_, ?_⟩ <;> (first | omega | assumption | with_reducible rfl) <;> done) | (refine Or.inr ⟨?_, ?_, ?_, ?_, ?_⟩ <;> (first | omega | assumption | with_reducible rfl) <;> done))
      · skip
        have c82 := neI h63
        have l83 : (127 : Int32).toInt = 127 := by decide
        refine Sf_cb1 (s_X11_isWithin p5 0 127 ) (fun r30_94 hp84 => ?_)
        have hp84 : ((r30_94.toInt = 0 ∨ r30_94.toInt = 1)) ∧ ((r30_94.toInt = 1 ∧ (0 : Int32).toInt ≤ p5.toInt ∧ p5.toInt ≤ (127 : Int32).toInt) ∨ (r30_94.toInt = 0 ∧ (p5.toInt < (0 : Int32).toInt ∨ (127 : Int32).toInt < p5.toInt))) := hp84
        obtain ⟨hq85, hq86⟩ := hp84
        have g87 := rgI r30_94
        refine Sf_ite (fun h88 => ?_) (fun h88 => ?_)
        · skip
          have c89 := eqI h88
          rw [f_X11_source_J41]
          refine Sf_ite (fun h90 => ?_) (fun h90 => ?_)
          · skip
            have c91 := eqI h90
            have l92 : ((-1) : Int32).toInt = -1 := by decide
            refine Sf_some (show ((none = none ∧ (-1 : Int32).toInt = -1 ∧ s_sky_many.toInt = s_sky_many.toInt ∧ s_page_day = s_page_day ∧ ¬ (0 ≤ p2.toInt ∧ p2.toInt ≤ 1439 ∧ 0 ≤ p3.toInt ∧ p3.toInt ≤ 30 ∧ 0 ≤ p4.toInt ∧ p4.toInt ≤ 3 ∧ 0 ≤ p5.toInt ∧ p5.toInt ≤ 127 ∧ s_sky_many.toInt < 10)) ∨ (none = some (Int32.toNatClampNeg s_sky_many, (s_sky_many, p1, p2, p3, p4, p5)) ∧ (-1 : Int32).toInt = s_sky_many.toInt ∧ s_sky_many.toInt = s_sky_many.toInt + 1 ∧ s_page_day.toInt = -1 ∧ (0 ≤ p2.toInt ∧ p2.toInt ≤ 1439 ∧ 0 ≤ p3.toInt ∧ p3.toInt ≤ 30 ∧ 0 ≤ p4.toInt ∧ p4.toInt ≤ 3 ∧ 0 ≤ p5.toInt ∧ p5.toInt ≤ 127 ∧ s_sky_many.toInt < 10))) from ?_)
            (first | (refine Or.inl ⟨?_, ?_, ?_, ?_, ?_⟩ <;> (first | omega | assumption | with_reducible rfl) <;> done) | (refine Or.inr ⟨?_, ?_, ?_, ?_, ?_⟩ <;> (first | omega | assumption | with_reducible rfl) <;> done))
          · skip
            have c93 := neI h90
            refine Sf_ite (fun h94 => ?_) (fun h94 => ?_)
            · skip
              have l95 : (10 : Int32).toInt = 10 := by decide
              have c96 := ltI h94
              refine Sf_cb1 (e_X4_forget s_page_day ) (fun o_day66_23 hp97 => ?_)
              have hp97 : (o_day66_23.toInt = -1) := hp97
              have g98 := rgI o_day66_23
              refine Sf_bo (by omega) ?_
              refine Sf_cb2 (e_X7_add s_sky_many (by omega) (by omega)) (fun r94_40 o_many94_41 hp99 => ?_)
              have hp99 : (r94_40.toInt = s_sky_many.toInt) ∧ (o_many94_41.toInt = s_sky_many.toInt + 1) := hp99
              obtain ⟨hq100, hq101⟩ := hp99
              have g102 := rgI r94_40
              have g103 := rgI o_many94_41
              refine Sf_ckS (by have := tN s_sky_many (by omega); omega) ((hp3 (Int32.toNatClampNeg s_sky_many) (by have := tN s_sky_many (by omega); omega) (by have := tN s_sky_many (by omega); omega)).1) ((hp3 (Int32.toNatClampNeg s_sky_many) (by have := tN s_sky_many (by omega); omega) (by have := tN s_sky_many (by omega); omega)).2) ?_
              refine Sf_some (show (((some ((Int32.toNatClampNeg s_sky_many), (s_sky_many, p1, p2, p3, p4, p5))) = none ∧ r94_40.toInt = -1 ∧ o_many94_41.toInt = s_sky_many.toInt ∧ o_day66_23 = s_page_day ∧ ¬ (0 ≤ p2.toInt ∧ p2.toInt ≤ 1439 ∧ 0 ≤ p3.toInt ∧ p3.toInt ≤ 30 ∧ 0 ≤ p4.toInt ∧ p4.toInt ≤ 3 ∧ 0 ≤ p5.toInt ∧ p5.toInt ≤ 127 ∧ s_sky_many.toInt < 10)) ∨ ((some ((Int32.toNatClampNeg s_sky_many), (s_sky_many, p1, p2, p3, p4, p5))) = some (Int32.toNatClampNeg s_sky_many, (s_sky_many, p1, p2, p3, p4, p5)) ∧ r94_40.toInt = s_sky_many.toInt ∧ o_many94_41.toInt = s_sky_many.toInt + 1 ∧ o_day66_23.toInt = -1 ∧ (0 ≤ p2.toInt ∧ p2.toInt ≤ 1439 ∧ 0 ≤ p3.toInt ∧ p3.toInt ≤ 30 ∧ 0 ≤ p4.toInt ∧ p4.toInt ≤ 3 ∧ 0 ≤ p5.toInt ∧ p5.toInt ≤ 127 ∧ s_sky_many.toInt < 10))) from ?_)
              (first | (refine Or.inl ⟨?_, ?_, ?_, ?_, ?_⟩ <;> (first | omega | assumption | with_reducible rfl) <;> done) | (refine Or.inr ⟨?_, ?_, ?_, ?_, ?_⟩ <;> (first | omega | assumption | with_reducible rfl) <;> done))
            · skip
              have l104 : (10 : Int32).toInt = 10 := by decide
              have c105 := nltI h94
              have l106 : ((-1) : Int32).toInt = -1 := by decide
              refine Sf_some (show ((none = none ∧ (-1 : Int32).toInt = -1 ∧ s_sky_many.toInt = s_sky_many.toInt ∧ s_page_day = s_page_day ∧ ¬ (0 ≤ p2.toInt ∧ p2.toInt ≤ 1439 ∧ 0 ≤ p3.toInt ∧ p3.toInt ≤ 30 ∧ 0 ≤ p4.toInt ∧ p4.toInt ≤ 3 ∧ 0 ≤ p5.toInt ∧ p5.toInt ≤ 127 ∧ s_sky_many.toInt < 10)) ∨ (none = some (Int32.toNatClampNeg s_sky_many, (s_sky_many, p1, p2, p3, p4, p5)) ∧ (-1 : Int32).toInt = s_sky_many.toInt ∧ s_sky_many.toInt = s_sky_many.toInt + 1 ∧ s_page_day.toInt = -1 ∧ (0 ≤ p2.toInt ∧ p2.toInt ≤ 1439 ∧ 0 ≤ p3.toInt ∧ p3.toInt ≤ 30 ∧ 0 ≤ p4.toInt ∧ p4.toInt ≤ 3 ∧ 0 ≤ p5.toInt ∧ p5.toInt ≤ 127 ∧ s_sky_many.toInt < 10))) from ?_)
              (first | (refine Or.inl ⟨?_, ?_, ?_, ?_, ?_⟩ <;> (first | omega | assumption | with_reducible rfl) <;> done) | (refine Or.inr ⟨?_, ?_, ?_, ?_, ?_⟩ <;> (first | omega | assumption | with_reducible rfl) <;> done))
        · skip
          have c107 := neI h88
          rw [f_X11_source_J41]
          refine Sf_ite (fun h108 => ?_) (fun h108 => ?_)
          · skip
            have l109 : (1 : Int32).toInt = 1 := by decide
            have c110 := eqI h108
            have l111 : ((-1) : Int32).toInt = -1 := by decide
            refine Sf_some (show ((none = none ∧ (-1 : Int32).toInt = -1 ∧ s_sky_many.toInt = s_sky_many.toInt ∧ s_page_day = s_page_day ∧ ¬ (0 ≤ p2.toInt ∧ p2.toInt ≤ 1439 ∧ 0 ≤ p3.toInt ∧ p3.toInt ≤ 30 ∧ 0 ≤ p4.toInt ∧ p4.toInt ≤ 3 ∧ 0 ≤ p5.toInt ∧ p5.toInt ≤ 127 ∧ s_sky_many.toInt < 10)) ∨ (none = some (Int32.toNatClampNeg s_sky_many, (s_sky_many, p1, p2, p3, p4, p5)) ∧ (-1 : Int32).toInt = s_sky_many.toInt ∧ s_sky_many.toInt = s_sky_many.toInt + 1 ∧ s_page_day.toInt = -1 ∧ (0 ≤ p2.toInt ∧ p2.toInt ≤ 1439 ∧ 0 ≤ p3.toInt ∧ p3.toInt ≤ 30 ∧ 0 ≤ p4.toInt ∧ p4.toInt ≤ 3 ∧ 0 ≤ p5.toInt ∧ p5.toInt ≤ 127 ∧ s_sky_many.toInt < 10))) from ?_)
            (first | (refine Or.inl ⟨?_, ?_, ?_, ?_, ?_⟩ <;> (first | omega | assumption | with_reducible rfl) <;> done) | (refine Or.inr ⟨?_, ?_, ?_, ?_, ?_⟩ <;> (first | omega | assumption | with_reducible rfl) <;> done))
          · skip
            have l112 : (1 : Int32).toInt = 1 := by decide
            have c113 := neI h108
            refine Sf_ite (fun h114 => ?_) (fun h114 => ?_)
            · skip
              have l115 : (10 : Int32).toInt = 10 := by decide
              have c116 := ltI h114
              refine Sf_cb1 (e_X4_forget s_page_day ) (fun o_day66_23 hp117 => ?_)
              have hp117 : (o_day66_23.toInt = -1) := hp117
              have g118 := rgI o_day66_23
              refine Sf_bo (by omega) ?_
              refine Sf_cb2 (e_X7_add s_sky_many (by omega) (by omega)) (fun r94_40 o_many94_41 hp119 => ?_)
              have hp119 : (r94_40.toInt = s_sky_many.toInt) ∧ (o_many94_41.toInt = s_sky_many.toInt + 1) := hp119
              obtain ⟨hq120, hq121⟩ := hp119
              have g122 := rgI r94_40
              have g123 := rgI o_many94_41
              refine Sf_ckS (by have := tN s_sky_many (by omega); omega) ((hp3 (Int32.toNatClampNeg s_sky_many) (by have := tN s_sky_many (by omega); omega) (by have := tN s_sky_many (by omega); omega)).1) ((hp3 (Int32.toNatClampNeg s_sky_many) (by have := tN s_sky_many (by omega); omega) (by have := tN s_sky_many (by omega); omega)).2) ?_
              refine Sf_some (show (((some ((Int32.toNatClampNeg s_sky_many), (s_sky_many, p1, p2, p3, p4, p5))) = none ∧ r94_40.toInt = -1 ∧ o_many94_41.toInt = s_sky_many.toInt ∧ o_day66_23 = s_page_day ∧ ¬ (0 ≤ p2.toInt ∧ p2.toInt ≤ 1439 ∧ 0 ≤ p3.toInt ∧ p3.toInt ≤ 30 ∧ 0 ≤ p4.toInt ∧ p4.toInt ≤ 3 ∧ 0 ≤ p5.toInt ∧ p5.toInt ≤ 127 ∧ s_sky_many.toInt < 10)) ∨ ((some ((Int32.toNatClampNeg s_sky_many), (s_sky_many, p1, p2, p3, p4, p5))) = some (Int32.toNatClampNeg s_sky_many, (s_sky_many, p1, p2, p3, p4, p5)) ∧ r94_40.toInt = s_sky_many.toInt ∧ o_many94_41.toInt = s_sky_many.toInt + 1 ∧ o_day66_23.toInt = -1 ∧ (0 ≤ p2.toInt ∧ p2.toInt ≤ 1439 ∧ 0 ≤ p3.toInt ∧ p3.toInt ≤ 30 ∧ 0 ≤ p4.toInt ∧ p4.toInt ≤ 3 ∧ 0 ≤ p5.toInt ∧ p5.toInt ≤ 127 ∧ s_sky_many.toInt < 10))) from ?_)
              (first | (refine Or.inl ⟨?_, ?_, ?_, ?_, ?_⟩ <;> (first | omega | assumption | with_reducible rfl) <;> done) | (refine Or.inr ⟨?_, ?_, ?_, ?_, ?_⟩ <;> (first | omega | assumption | with_reducible rfl) <;> done))
            · skip
              have l124 : (10 : Int32).toInt = 10 := by decide
              have c125 := nltI h114
              have l126 : ((-1) : Int32).toInt = -1 := by decide
              refine Sf_some (show ((none = none ∧ (-1 : Int32).toInt = -1 ∧ s_sky_many.toInt = s_sky_many.toInt ∧ s_page_day = s_page_day ∧ ¬ (0 ≤ p2.toInt ∧ p2.toInt ≤ 1439 ∧ 0 ≤ p3.toInt ∧ p3.toInt ≤ 30 ∧ 0 ≤ p4.toInt ∧ p4.toInt ≤ 3 ∧ 0 ≤ p5.toInt ∧ p5.toInt ≤ 127 ∧ s_sky_many.toInt < 10)) ∨ (none = some (Int32.toNatClampNeg s_sky_many, (s_sky_many, p1, p2, p3, p4, p5)) ∧ (-1 : Int32).toInt = s_sky_many.toInt ∧ s_sky_many.toInt = s_sky_many.toInt + 1 ∧ s_page_day.toInt = -1 ∧ (0 ≤ p2.toInt ∧ p2.toInt ≤ 1439 ∧ 0 ≤ p3.toInt ∧ p3.toInt ≤ 30 ∧ 0 ≤ p4.toInt ∧ p4.toInt ≤ 3 ∧ 0 ≤ p5.toInt ∧ p5.toInt ≤ 127 ∧ s_sky_many.toInt < 10))) from ?_)
              (first | (refine Or.inl ⟨?_, ?_, ?_, ?_, ?_⟩ <;> (first | omega | assumption | with_reducible rfl) <;> done) | (refine Or.inr ⟨?_, ?_, ?_, ?_, ?_⟩ <;> (first | omega | assumption | with_reducible rfl) <;> done))
set_option maxHeartbeats 4000000 in
set_option maxRecDepth 100000 in
theorem e_X12_source (s_sources : Int32) (s_byStar : Nat → Int32) (s_minuteOf : Nat → Int32) (s_shape : Nat → Int32) (s_weekdays : Nat → Int32) (s_wide : Nat → Int32) (p1 : Int32) (p2 : Int32) (p3 : Int32) (p4 : Int32) (p5 : Int32) (hp0 : 0 ≤ s_sources.toInt) (hp1 : s_sources.toInt ≤ 10) : Sf (f_X12_source s_sources s_byStar s_minuteOf s_shape s_weekdays s_wide p1 p2 p3 p4 p5) (fun (y : Int32 × Int32 × (Nat → Int32) × (Nat → Int32) × (Nat → Int32) × (Nat → Int32) × (Nat → Int32)) => (((y.1).toInt = -1 ∧ (y.2.1).toInt = s_sources.toInt ∧ ¬ (0 ≤ p2.toInt ∧ p2.toInt ≤ 1439 ∧ 0 ≤ p3.toInt ∧ p3.toInt ≤ 30 ∧ 0 ≤ p4.toInt ∧ p4.toInt ≤ 3 ∧ 0 ≤ p5.toInt ∧ p5.toInt ≤ 127 ∧ s_sources.toInt < 10) ∧ (y.2.2.1) = s_byStar ∧ (y.2.2.2.1) = s_minuteOf ∧ (y.2.2.2.2.1) = s_shape ∧ (y.2.2.2.2.2.1) = s_weekdays ∧ (y.2.2.2.2.2.2) = s_wide) ∨ ((y.1).toInt = s_sources.toInt ∧ (y.2.1).toInt = s_sources.toInt + 1 ∧ (0 ≤ p2.toInt ∧ p2.toInt ≤ 1439 ∧ 0 ≤ p3.toInt ∧ p3.toInt ≤ 30 ∧ 0 ≤ p4.toInt ∧ p4.toInt ≤ 3 ∧ 0 ≤ p5.toInt ∧ p5.toInt ≤ 127 ∧ s_sources.toInt < 10) ∧ (y.2.2.1) = upd s_byStar (Int32.toNatClampNeg s_sources) (vp_nar .boolean p1) ∧ (y.2.2.2.1) = upd s_minuteOf (Int32.toNatClampNeg s_sources) p2 ∧ (y.2.2.2.2.1) = upd s_shape (Int32.toNatClampNeg s_sources) p4 ∧ (y.2.2.2.2.2.1) = upd s_weekdays (Int32.toNatClampNeg s_sources) p5 ∧ (y.2.2.2.2.2.2) = upd s_wide (Int32.toNatClampNeg s_sources) p3))) := by
  have g1 := rgI s_sources
  have g2 := rgI p1
  have g3 := rgI p2
  have g4 := rgI p3
  have g5 := rgI p4
  have g6 := rgI p5
  have hFU : (100000 : Int) ≤ (FU : Int) := Int.ofNat_le.mpr FU_ge
  rw [f_X12_source]
  refine Sf_ite (fun h7 => ?_) (fun h7 => ?_)
  · skip
    have l8 : (10 : Int32).toInt = 10 := by decide
    have c9 := eqI h7
    have l10 : ((-1) : Int32).toInt = -1 := by decide
    refine Sf_some (show (((-1 : Int32).toInt = -1 ∧ s_sources.toInt = s_sources.toInt ∧ ¬ (0 ≤ p2.toInt ∧ p2.toInt ≤ 1439 ∧ 0 ≤ p3.toInt ∧ p3.toInt ≤ 30 ∧ 0 ≤ p4.toInt ∧ p4.toInt ≤ 3 ∧ 0 ≤ p5.toInt ∧ p5.toInt ≤ 127 ∧ s_sources.toInt < 10) ∧ s_byStar = s_byStar ∧ s_minuteOf = s_minuteOf ∧ s_shape = s_shape ∧ s_weekdays = s_weekdays ∧ s_wide = s_wide) ∨ ((-1 : Int32).toInt = s_sources.toInt ∧ s_sources.toInt = s_sources.toInt + 1 ∧ (0 ≤ p2.toInt ∧ p2.toInt ≤ 1439 ∧ 0 ≤ p3.toInt ∧ p3.toInt ≤ 30 ∧ 0 ≤ p4.toInt ∧ p4.toInt ≤ 3 ∧ 0 ≤ p5.toInt ∧ p5.toInt ≤ 127 ∧ s_sources.toInt < 10) ∧ s_byStar = upd s_byStar (Int32.toNatClampNeg s_sources) (vp_nar .boolean p1) ∧ s_minuteOf = upd s_minuteOf (Int32.toNatClampNeg s_sources) p2 ∧ s_shape = upd s_shape (Int32.toNatClampNeg s_sources) p4 ∧ s_weekdays = upd s_weekdays (Int32.toNatClampNeg s_sources) p5 ∧ s_wide = upd s_wide (Int32.toNatClampNeg s_sources) p3)) from ?_)
    (first | (refine Or.inl ⟨?_, ?_, ?_, ?_, ?_, ?_, ?_, ?_⟩ <;> (first | omega | assumption | with_reducible rfl) <;> done) | (refine Or.inr ⟨?_, ?_, ?_, ?_, ?_, ?_, ?_, ?_⟩ <;> (first | omega | assumption | with_reducible rfl) <;> done))
  · skip
    have l11 : (10 : Int32).toInt = 10 := by decide
    have c12 := neI h7
    refine Sf_cb1 (s_X12_isMinute p2 ) (fun r10_11 hp13 => ?_)
    have hp13 : ((r10_11.toInt = 0 ∨ r10_11.toInt = 1)) ∧ ((r10_11.toInt = 1 ∧ 0 ≤ p2.toInt ∧ p2.toInt ≤ 1439) ∨ (r10_11.toInt = 0 ∧ (p2.toInt < 0 ∨ 1439 < p2.toInt))) := hp13
    obtain ⟨hq14, hq15⟩ := hp13
    have g16 := rgI r10_11
    refine Sf_ite (fun h17 => ?_) (fun h17 => ?_)
    · skip
      have l18 : (0 : Int32).toInt = 0 := by decide
      have c19 := eqI h17
      have l20 : ((-1) : Int32).toInt = -1 := by decide
      refine Sf_some (show (((-1 : Int32).toInt = -1 ∧ s_sources.toInt = s_sources.toInt ∧ ¬ (0 ≤ p2.toInt ∧ p2.toInt ≤ 1439 ∧ 0 ≤ p3.toInt ∧ p3.toInt ≤ 30 ∧ 0 ≤ p4.toInt ∧ p4.toInt ≤ 3 ∧ 0 ≤ p5.toInt ∧ p5.toInt ≤ 127 ∧ s_sources.toInt < 10) ∧ s_byStar = s_byStar ∧ s_minuteOf = s_minuteOf ∧ s_shape = s_shape ∧ s_weekdays = s_weekdays ∧ s_wide = s_wide) ∨ ((-1 : Int32).toInt = s_sources.toInt ∧ s_sources.toInt = s_sources.toInt + 1 ∧ (0 ≤ p2.toInt ∧ p2.toInt ≤ 1439 ∧ 0 ≤ p3.toInt ∧ p3.toInt ≤ 30 ∧ 0 ≤ p4.toInt ∧ p4.toInt ≤ 3 ∧ 0 ≤ p5.toInt ∧ p5.toInt ≤ 127 ∧ s_sources.toInt < 10) ∧ s_byStar = upd s_byStar (Int32.toNatClampNeg s_sources) (vp_nar .boolean p1) ∧ s_minuteOf = upd s_minuteOf (Int32.toNatClampNeg s_sources) p2 ∧ s_shape = upd s_shape (Int32.toNatClampNeg s_sources) p4 ∧ s_weekdays = upd s_weekdays (Int32.toNatClampNeg s_sources) p5 ∧ s_wide = upd s_wide (Int32.toNatClampNeg s_sources) p3)) from ?_)
      (first | (refine Or.inl ⟨?_, ?_, ?_, ?_, ?_, ?_, ?_, ?_⟩ <;> (first | omega | assumption | with_reducible rfl) <;> done) | (refine Or.inr ⟨?_, ?_, ?_, ?_, ?_, ?_, ?_, ?_⟩ <;> (first | omega | assumption | with_reducible rfl) <;> done))
    · skip
      have l21 : (0 : Int32).toInt = 0 := by decide
      have c22 := neI h17
      have t23 := t64 p3
      have l24 : (0 : Int64).toInt = 0 := by decide
      have l25 : (30 : Int64).toInt = 30 := by decide
      refine Sf_cb1 (s_X12_lies (Int32.toInt64 p3) 0 30 ) (fun r22_26 hp26 => ?_)
      have hp26 : ((r22_26.toInt = 0 ∨ r22_26.toInt = 1)) ∧ ((r22_26.toInt = 1 ∧ (0 : Int64).toInt ≤ (Int32.toInt64 p3).toInt ∧ (Int32.toInt64 p3).toInt ≤ (30 : Int64).toInt) ∨ (r22_26.toInt = 0 ∧ ((Int32.toInt64 p3).toInt < (0 : Int64).toInt ∨ (30 : Int64).toInt < (Int32.toInt64 p3).toInt))) := hp26
      obtain ⟨hq27, hq28⟩ := hp26
      have g29 := rgI r22_26
      refine Sf_ite (fun h30 => ?_) (fun h30 => ?_)
      · skip
        have c31 := eqI h30
        have l32 : ((-1) : Int32).toInt = -1 := by decide
        refine Sf_some (show (((-1 : Int32).toInt = -1 ∧ s_sources.toInt = s_sources.toInt ∧ ¬ (0 ≤ p2.toInt ∧ p2.toInt ≤ 1439 ∧ 0 ≤ p3.toInt ∧ p3.toInt ≤ 30 ∧ 0 ≤ p4.toInt ∧ p4.toInt ≤ 3 ∧ 0 ≤ p5.toInt ∧ p5.toInt ≤ 127 ∧ s_sources.toInt < 10) ∧ s_byStar = s_byStar ∧ s_minuteOf = s_minuteOf ∧ s_shape = s_shape ∧ s_weekdays = s_weekdays ∧ s_wide = s_wide) ∨ ((-1 : Int32).toInt = s_sources.toInt ∧ s_sources.toInt = s_sources.toInt + 1 ∧ (0 ≤ p2.toInt ∧ p2.toInt ≤ 1439 ∧ 0 ≤ p3.toInt ∧ p3.toInt ≤ 30 ∧ 0 ≤ p4.toInt ∧ p4.toInt ≤ 3 ∧ 0 ≤ p5.toInt ∧ p5.toInt ≤ 127 ∧ s_sources.toInt < 10) ∧ s_byStar = upd s_byStar (Int32.toNatClampNeg s_sources) (vp_nar .boolean p1) ∧ s_minuteOf = upd s_minuteOf (Int32.toNatClampNeg s_sources) p2 ∧ s_shape = upd s_shape (Int32.toNatClampNeg s_sources) p4 ∧ s_weekdays = upd s_weekdays (Int32.toNatClampNeg s_sources) p5 ∧ s_wide = upd s_wide (Int32.toNatClampNeg s_sources) p3)) from ?_)
        (first | (refine Or.inl ⟨?_, ?_, ?_, ?_, ?_, ?_, ?_, ?_⟩ <;> (first | omega | assumption | with_reducible rfl) <;> done) | (refine Or.inr ⟨?_, ?_, ?_, ?_, ?_, ?_, ?_, ?_⟩ <;> (first | omega | assumption | with_reducible rfl) <;> done))
      · skip
        have c33 := neI h30
        have t34 := t64 p4
        have l35 : (3 : Int64).toInt = 3 := by decide
        refine Sf_cb1 (s_X12_lies (Int32.toInt64 p4) 0 3 ) (fun r35_41 hp36 => ?_)
        have hp36 : ((r35_41.toInt = 0 ∨ r35_41.toInt = 1)) ∧ ((r35_41.toInt = 1 ∧ (0 : Int64).toInt ≤ (Int32.toInt64 p4).toInt ∧ (Int32.toInt64 p4).toInt ≤ (3 : Int64).toInt) ∨ (r35_41.toInt = 0 ∧ ((Int32.toInt64 p4).toInt < (0 : Int64).toInt ∨ (3 : Int64).toInt < (Int32.toInt64 p4).toInt))) := hp36
        obtain ⟨hq37, hq38⟩ := hp36
        have g39 := rgI r35_41
        refine Sf_ite (fun h40 => ?_) (fun h40 => ?_)
        · skip
          have c41 := eqI h40
          have l42 : ((-1) : Int32).toInt = -1 := by decide
          refine Sf_some (show (((-1 : Int32).toInt = -1 ∧ s_sources.toInt = s_sources.toInt ∧ ¬ (0 ≤ p2.toInt ∧ p2.toInt ≤ 1439 ∧ 0 ≤ p3.toInt ∧ p3.toInt ≤ 30 ∧ 0 ≤ p4.toInt ∧ p4.toInt ≤ 3 ∧ 0 ≤ p5.toInt ∧ p5.toInt ≤ 127 ∧ s_sources.toInt < 10) ∧ s_byStar = s_byStar ∧ s_minuteOf = s_minuteOf ∧ s_shape = s_shape ∧ s_weekdays = s_weekdays ∧ s_wide = s_wide) ∨ ((-1 : Int32).toInt = s_sources.toInt ∧ s_sources.toInt = s_sources.toInt + 1 ∧ (0 ≤ p2.toInt ∧ p2.toInt ≤ 1439 ∧ 0 ≤ p3.toInt ∧ p3.toInt ≤ 30 ∧ 0 ≤ p4.toInt ∧ p4.toInt ≤ 3 ∧ 0 ≤ p5.toInt ∧ p5.toInt ≤ 127 ∧ s_sources.toInt < 10) ∧ s_byStar = upd s_byStar (Int32.toNatClampNeg s_sources) (vp_nar .boolean p1) ∧ s_minuteOf = upd s_minuteOf (Int32.toNatClampNeg s_sources) p2 ∧ s_shape = upd s_shape (Int32.toNatClampNeg s_sources) p4 ∧ s_weekdays = upd s_weekdays (Int32.toNatClampNeg s_sources) p5 ∧ s_wide = upd s_wide (Int32.toNatClampNeg s_sources) p3)) from ?_)
          (first | (refine Or.inl ⟨?_, ?_, ?_, ?_, ?_, ?_, ?_, ?_⟩ <;> (first | omega | assumption | with_reducible rfl) <;> done) | (refine Or.inr ⟨?_, ?_, ?_, ?_, ?_, ?_, ?_, ?_⟩ <;> (first | omega | assumption | with_reducible rfl) <;> done))
        · skip
          have c43 := neI h40
          have t44 := t64 p5
          have l45 : (127 : Int64).toInt = 127 := by decide
          refine Sf_cb1 (s_X12_lies (Int32.toInt64 p5) 0 127 ) (fun r48_56 hp46 => ?_)
          have hp46 : ((r48_56.toInt = 0 ∨ r48_56.toInt = 1)) ∧ ((r48_56.toInt = 1 ∧ (0 : Int64).toInt ≤ (Int32.toInt64 p5).toInt ∧ (Int32.toInt64 p5).toInt ≤ (127 : Int64).toInt) ∨ (r48_56.toInt = 0 ∧ ((Int32.toInt64 p5).toInt < (0 : Int64).toInt ∨ (127 : Int64).toInt < (Int32.toInt64 p5).toInt))) := hp46
          obtain ⟨hq47, hq48⟩ := hp46
          have g49 := rgI r48_56
          refine Sf_ite (fun h50 => ?_) (fun h50 => ?_)
          · skip
            have c51 := eqI h50
            have l52 : ((-1) : Int32).toInt = -1 := by decide
            refine Sf_some (show (((-1 : Int32).toInt = -1 ∧ s_sources.toInt = s_sources.toInt ∧ ¬ (0 ≤ p2.toInt ∧ p2.toInt ≤ 1439 ∧ 0 ≤ p3.toInt ∧ p3.toInt ≤ 30 ∧ 0 ≤ p4.toInt ∧ p4.toInt ≤ 3 ∧ 0 ≤ p5.toInt ∧ p5.toInt ≤ 127 ∧ s_sources.toInt < 10) ∧ s_byStar = s_byStar ∧ s_minuteOf = s_minuteOf ∧ s_shape = s_shape ∧ s_weekdays = s_weekdays ∧ s_wide = s_wide) ∨ ((-1 : Int32).toInt = s_sources.toInt ∧ s_sources.toInt = s_sources.toInt + 1 ∧ (0 ≤ p2.toInt ∧ p2.toInt ≤ 1439 ∧ 0 ≤ p3.toInt ∧ p3.toInt ≤ 30 ∧ 0 ≤ p4.toInt ∧ p4.toInt ≤ 3 ∧ 0 ≤ p5.toInt ∧ p5.toInt ≤ 127 ∧ s_sources.toInt < 10) ∧ s_byStar = upd s_byStar (Int32.toNatClampNeg s_sources) (vp_nar .boolean p1) ∧ s_minuteOf = upd s_minuteOf (Int32.toNatClampNeg s_sources) p2 ∧ s_shape = upd s_shape (Int32.toNatClampNeg s_sources) p4 ∧ s_weekdays = upd s_weekdays (Int32.toNatClampNeg s_sources) p5 ∧ s_wide = upd s_wide (Int32.toNatClampNeg s_sources) p3)) from ?_)
            (first | (refine Or.inl ⟨?_, ?_, ?_, ?_, ?_, ?_, ?_, ?_⟩ <;> (first | omega | assumption | with_reducible rfl) <;> done) | (refine Or.inr ⟨?_, ?_, ?_, ?_, ?_, ?_, ?_, ?_⟩ <;> (first | omega | assumption | with_reducible rfl) <;> done))
          · skip
            have c53 := neI h50
            refine Sf_wrZ (by omega) (by omega) (fun g65_64 hw54 => ?_)
            refine Sf_wrI (by omega) (by omega) (fun g75_69 hw55 => ?_)
            refine Sf_wrI (by omega) (by omega) (fun g85_74 hw56 => ?_)
            refine Sf_wrI (by omega) (by omega) (fun g96_79 hw57 => ?_)
            refine Sf_wrI (by omega) (by omega) (fun g107_84 hw58 => ?_)
            refine Sf_nmI (fun v115_89 hv59 => ?_)
            have g60 := rgI (s_sources + 1)
            first | have e61 := adN s_sources 1 (1) (by decide) (by omega) (by omega) | skip
            have q62 := eqI hv59
            have g63 := rgI (v115_89 - 1)
            first | have e64 := sbN v115_89 1 (1) (by decide) (by omega) (by omega) | skip
            refine Sf_some (show (((v115_89 - 1).toInt = -1 ∧ v115_89.toInt = s_sources.toInt ∧ ¬ (0 ≤ p2.toInt ∧ p2.toInt ≤ 1439 ∧ 0 ≤ p3.toInt ∧ p3.toInt ≤ 30 ∧ 0 ≤ p4.toInt ∧ p4.toInt ≤ 3 ∧ 0 ≤ p5.toInt ∧ p5.toInt ≤ 127 ∧ s_sources.toInt < 10) ∧ g65_64 = s_byStar ∧ g75_69 = s_minuteOf ∧ g96_79 = s_shape ∧ g107_84 = s_weekdays ∧ g85_74 = s_wide) ∨ ((v115_89 - 1).toInt = s_sources.toInt ∧ v115_89.toInt = s_sources.toInt + 1 ∧ (0 ≤ p2.toInt ∧ p2.toInt ≤ 1439 ∧ 0 ≤ p3.toInt ∧ p3.toInt ≤ 30 ∧ 0 ≤ p4.toInt ∧ p4.toInt ≤ 3 ∧ 0 ≤ p5.toInt ∧ p5.toInt ≤ 127 ∧ s_sources.toInt < 10) ∧ g65_64 = upd s_byStar (Int32.toNatClampNeg s_sources) (vp_nar .boolean p1) ∧ g75_69 = upd s_minuteOf (Int32.toNatClampNeg s_sources) p2 ∧ g96_79 = upd s_shape (Int32.toNatClampNeg s_sources) p4 ∧ g107_84 = upd s_weekdays (Int32.toNatClampNeg s_sources) p5 ∧ g85_74 = upd s_wide (Int32.toNatClampNeg s_sources) p3)) from ?_)
            (first | (refine Or.inl ⟨?_, ?_, ?_, ?_, ?_, ?_, ?_, ?_⟩ <;> (first | omega | assumption | with_reducible rfl) <;> done) | (refine Or.inr ⟨?_, ?_, ?_, ?_, ?_, ?_, ?_, ?_⟩ <;> (first | omega | assumption | with_reducible rfl) <;> done))
set_option maxHeartbeats 4000000 in
set_option maxRecDepth 100000 in
theorem e_X11_seed (s_page_day : Int32) (s_sky_seed : Int32) (p1 : Int32)  : Sf (f_X11_seed s_page_day s_sky_seed p1) (fun (y : Int32 × Int32 × Int32) => (((y.1).toInt = 1 ∧ 0 ≤ p1.toInt ∧ p1.toInt ≤ 999 ∧ (y.2.2) = p1 ∧ (y.2.1).toInt = -1) ∨ ((y.1).toInt = 0 ∧ (p1.toInt < 0 ∨ 999 < p1.toInt) ∧ (y.2.2) = s_sky_seed ∧ (y.2.1) = s_page_day))) := by
  have g1 := rgI s_page_day
  have g2 := rgI s_sky_seed
  have g3 := rgI p1
  have hFU : (100000 : Int) ≤ (FU : Int) := Int.ofNat_le.mpr FU_ge
  rw [f_X11_seed]
  have l4 : (0 : Int32).toInt = 0 := by decide
  have l5 : (999 : Int32).toInt = 999 := by decide
  refine Sf_cb1 (s_X11_isWithin p1 0 999 ) (fun r5_1 hp6 => ?_)
  have hp6 : ((r5_1.toInt = 0 ∨ r5_1.toInt = 1)) ∧ ((r5_1.toInt = 1 ∧ (0 : Int32).toInt ≤ p1.toInt ∧ p1.toInt ≤ (999 : Int32).toInt) ∨ (r5_1.toInt = 0 ∧ (p1.toInt < (0 : Int32).toInt ∨ (999 : Int32).toInt < p1.toInt))) := hp6
  obtain ⟨hq7, hq8⟩ := hp6
  have g9 := rgI r5_1
  refine Sf_ite (fun h10 => ?_) (fun h10 => ?_)
  · skip
    have c11 := eqI h10
    refine Sf_some (show (((0 : Int32).toInt = 1 ∧ 0 ≤ p1.toInt ∧ p1.toInt ≤ 999 ∧ s_sky_seed = p1 ∧ s_page_day.toInt = -1) ∨ ((0 : Int32).toInt = 0 ∧ (p1.toInt < 0 ∨ 999 < p1.toInt) ∧ s_sky_seed = s_sky_seed ∧ s_page_day = s_page_day)) from ?_)
    (first | (refine Or.inl ⟨?_, ?_, ?_, ?_, ?_⟩ <;> (first | omega | assumption | with_reducible rfl) <;> done) | (refine Or.inr ⟨?_, ?_, ?_, ?_⟩ <;> (first | omega | assumption | with_reducible rfl) <;> done))
  · skip
    have c12 := neI h10
    refine Sf_cb1 (e_X4_forget s_page_day ) (fun o_day17_9 hp13 => ?_)
    have hp13 : (o_day17_9.toInt = -1) := hp13
    have g14 := rgI o_day17_9
    have l15 : (1 : Int32).toInt = 1 := by decide
    refine Sf_some (show (((1 : Int32).toInt = 1 ∧ 0 ≤ p1.toInt ∧ p1.toInt ≤ 999 ∧ p1 = p1 ∧ o_day17_9.toInt = -1) ∨ ((1 : Int32).toInt = 0 ∧ (p1.toInt < 0 ∨ 999 < p1.toInt) ∧ p1 = s_sky_seed ∧ o_day17_9 = s_page_day)) from ?_)
    (first | (refine Or.inl ⟨?_, ?_, ?_, ?_, ?_⟩ <;> (first | omega | assumption | with_reducible rfl) <;> done) | (refine Or.inr ⟨?_, ?_, ?_, ?_⟩ <;> (first | omega | assumption | with_reducible rfl) <;> done))
set_option maxHeartbeats 4000000 in
set_option maxRecDepth 100000 in
theorem e_X12_seed (s_seed : Int32) (p1 : Int32)  : Sf (f_X12_seed s_seed p1) (fun (y : Int32 × Int32) => (((y.1).toInt = 1 ∧ 0 ≤ p1.toInt ∧ p1.toInt ≤ 999 ∧ (y.2) = p1) ∨ ((y.1).toInt = 0 ∧ (p1.toInt < 0 ∨ 999 < p1.toInt) ∧ (y.2) = s_seed))) := by
  have g1 := rgI s_seed
  have g2 := rgI p1
  have hFU : (100000 : Int) ≤ (FU : Int) := Int.ofNat_le.mpr FU_ge
  rw [f_X12_seed]
  have t3 := t64 p1
  have l4 : (0 : Int64).toInt = 0 := by decide
  have l5 : (999 : Int64).toInt = 999 := by decide
  refine Sf_cb1 (s_X12_lies (Int32.toInt64 p1) 0 999 ) (fun r6_1 hp6 => ?_)
  have hp6 : ((r6_1.toInt = 0 ∨ r6_1.toInt = 1)) ∧ ((r6_1.toInt = 1 ∧ (0 : Int64).toInt ≤ (Int32.toInt64 p1).toInt ∧ (Int32.toInt64 p1).toInt ≤ (999 : Int64).toInt) ∨ (r6_1.toInt = 0 ∧ ((Int32.toInt64 p1).toInt < (0 : Int64).toInt ∨ (999 : Int64).toInt < (Int32.toInt64 p1).toInt))) := hp6
  obtain ⟨hq7, hq8⟩ := hp6
  have g9 := rgI r6_1
  refine Sf_ite (fun h10 => ?_) (fun h10 => ?_)
  · skip
    have l11 : (0 : Int32).toInt = 0 := by decide
    have c12 := eqI h10
    refine Sf_some (show (((0 : Int32).toInt = 1 ∧ 0 ≤ p1.toInt ∧ p1.toInt ≤ 999 ∧ s_seed = p1) ∨ ((0 : Int32).toInt = 0 ∧ (p1.toInt < 0 ∨ 999 < p1.toInt) ∧ s_seed = s_seed)) from ?_)
    (first | (refine Or.inl ⟨?_, ?_, ?_, ?_⟩ <;> (first | omega | assumption | with_reducible rfl) <;> done) | (refine Or.inr ⟨?_, ?_, ?_⟩ <;> (first | omega | assumption | with_reducible rfl) <;> done))
  · skip
    have l13 : (0 : Int32).toInt = 0 := by decide
    have c14 := neI h10
    have l15 : (1 : Int32).toInt = 1 := by decide
    refine Sf_some (show (((1 : Int32).toInt = 1 ∧ 0 ≤ p1.toInt ∧ p1.toInt ≤ 999 ∧ p1 = p1) ∨ ((1 : Int32).toInt = 0 ∧ (p1.toInt < 0 ∨ 999 < p1.toInt) ∧ p1 = s_seed)) from ?_)
    (first | (refine Or.inl ⟨?_, ?_, ?_, ?_⟩ <;> (first | omega | assumption | with_reducible rfl) <;> done) | (refine Or.inr ⟨?_, ?_, ?_⟩ <;> (first | omega | assumption | with_reducible rfl) <;> done))
set_option maxHeartbeats 4000000 in
set_option maxRecDepth 100000 in
theorem e_X3_add (s_many : Int32) (s_days : Nat → Int32) (s_minutes : Nat → Int32) (s_shapes : Nat → Int32) (p1 : Int32) (p2 : Int32) (p3 : Int32) (hp0 : 0 ≤ s_many.toInt) (hp1 : s_many.toInt ≤ 40) : Sf (f_X3_add s_many s_days s_minutes s_shapes p1 p2 p3) (fun (y : Int32 × Int32 × (Nat → Int32) × (Nat → Int32) × (Nat → Int32)) => (((y.1).toInt = -1 ∧ (y.2.1).toInt = s_many.toInt ∧ ¬ (s_many.toInt < 40 ∧ (s_many.toInt = 0 ∨ (s_days (Int32.toNatClampNeg (s_many - 1))).toInt ≤ p1.toInt)) ∧ (y.2.2.1) = s_days ∧ (y.2.2.2.1) = s_minutes ∧ (y.2.2.2.2) = s_shapes) ∨ ((y.1).toInt = s_many.toInt ∧ (y.2.1).toInt = s_many.toInt + 1 ∧ (s_many.toInt < 40 ∧ (s_many.toInt = 0 ∨ (s_days (Int32.toNatClampNeg (s_many - 1))).toInt ≤ p1.toInt)) ∧ (y.2.2.1) = upd s_days (Int32.toNatClampNeg s_many) p1 ∧ (y.2.2.2.1) = upd s_minutes (Int32.toNatClampNeg s_many) p2 ∧ (y.2.2.2.2) = upd s_shapes (Int32.toNatClampNeg s_many) p3))) := by
  have g1 := rgI s_many
  have g2 := rgI p1
  have g3 := rgI p2
  have g4 := rgI p3
  have hFU : (100000 : Int) ≤ (FU : Int) := Int.ofNat_le.mpr FU_ge
  rw [f_X3_add]
  refine Sf_ite (fun h5 => ?_) (fun h5 => ?_)
  · skip
    have l6 : (40 : Int32).toInt = 40 := by decide
    have c7 := leI h5
    have l8 : ((-1) : Int32).toInt = -1 := by decide
    refine Sf_some (show (((-1 : Int32).toInt = -1 ∧ s_many.toInt = s_many.toInt ∧ ¬ (s_many.toInt < 40 ∧ (s_many.toInt = 0 ∨ (s_days (Int32.toNatClampNeg (s_many - 1))).toInt ≤ p1.toInt)) ∧ s_days = s_days ∧ s_minutes = s_minutes ∧ s_shapes = s_shapes) ∨ ((-1 : Int32).toInt = s_many.toInt ∧ s_many.toInt = s_many.toInt + 1 ∧ (s_many.toInt < 40 ∧ (s_many.toInt = 0 ∨ (s_days (Int32.toNatClampNeg (s_many - 1))).toInt ≤ p1.toInt)) ∧ s_days = upd s_days (Int32.toNatClampNeg s_many) p1 ∧ s_minutes = upd s_minutes (Int32.toNatClampNeg s_many) p2 ∧ s_shapes = upd s_shapes (Int32.toNatClampNeg s_many) p3)) from ?_)
    (first | (refine Or.inl ⟨?_, ?_, ?_, ?_, ?_, ?_⟩ <;> (first | omega | assumption | with_reducible rfl) <;> done) | (refine Or.inr ⟨?_, ?_, ?_, ?_, ?_, ?_⟩ <;> (first | omega | assumption | with_reducible rfl) <;> done))
  · skip
    have l9 : (40 : Int32).toInt = 40 := by decide
    have c10 := nleI h5
    refine Sf_ite (fun h11 => ?_) (fun h11 => ?_)
    · skip
      have l12 : (0 : Int32).toInt = 0 := by decide
      have c13 := leI h11
      rw [f_X3_add_J33]
      refine Sf_wrI (by omega) (by omega) (fun g42_9 hw14 => ?_)
      refine Sf_wrI (by omega) (by omega) (fun g52_14 hw15 => ?_)
      refine Sf_wrI (by omega) (by omega) (fun g62_19 hw16 => ?_)
      refine Sf_nmI (fun v70_24 hv17 => ?_)
      have g18 := rgI (s_many + 1)
      first | have e19 := adN s_many 1 (1) (by decide) (by omega) (by omega) | skip
      have q20 := eqI hv17
      have g21 := rgI (v70_24 - 1)
      first | have e22 := sbN v70_24 1 (1) (by decide) (by omega) (by omega) | skip
      refine Sf_some (show (((v70_24 - 1).toInt = -1 ∧ v70_24.toInt = s_many.toInt ∧ ¬ (s_many.toInt < 40 ∧ (s_many.toInt = 0 ∨ (s_days (Int32.toNatClampNeg (s_many - 1))).toInt ≤ p1.toInt)) ∧ g42_9 = s_days ∧ g52_14 = s_minutes ∧ g62_19 = s_shapes) ∨ ((v70_24 - 1).toInt = s_many.toInt ∧ v70_24.toInt = s_many.toInt + 1 ∧ (s_many.toInt < 40 ∧ (s_many.toInt = 0 ∨ (s_days (Int32.toNatClampNeg (s_many - 1))).toInt ≤ p1.toInt)) ∧ g42_9 = upd s_days (Int32.toNatClampNeg s_many) p1 ∧ g52_14 = upd s_minutes (Int32.toNatClampNeg s_many) p2 ∧ g62_19 = upd s_shapes (Int32.toNatClampNeg s_many) p3)) from ?_)
      (first | (refine Or.inl ⟨?_, ?_, ?_, ?_, ?_, ?_⟩ <;> (first | omega | assumption | with_reducible rfl) <;> done) | (refine Or.inr ⟨?_, ?_, ?_, ?_, ?_, ?_⟩ <;> (first | omega | assumption | with_reducible rfl) <;> done))
    · skip
      have l23 : (0 : Int32).toInt = 0 := by decide
      have c24 := nleI h11
      have g25 := rgI (s_many - 1)
      first | have e26 := sbN s_many 1 (1) (by decide) (by omega) (by omega) | skip
      refine Sf_rdI (by omega) (by omega) (fun v27_36 hv27 => ?_)
      have g28 := rgI v27_36
      have hmev27_36 := eqI hv27
      refine Sf_ite (fun h29 => ?_) (fun h29 => ?_)
      · skip
        have c30 := leI h29
        rw [f_X3_add_J33]
        refine Sf_wrI (by omega) (by omega) (fun g42_9 hw31 => ?_)
        refine Sf_wrI (by omega) (by omega) (fun g52_14 hw32 => ?_)
        refine Sf_wrI (by omega) (by omega) (fun g62_19 hw33 => ?_)
        refine Sf_nmI (fun v70_24 hv34 => ?_)
        have g35 := rgI (s_many + 1)
        first | have e36 := adN s_many 1 (1) (by decide) (by omega) (by omega) | skip
        have q37 := eqI hv34
        have g38 := rgI (v70_24 - 1)
        first | have e39 := sbN v70_24 1 (1) (by decide) (by omega) (by omega) | skip
        refine Sf_some (show (((v70_24 - 1).toInt = -1 ∧ v70_24.toInt = s_many.toInt ∧ ¬ (s_many.toInt < 40 ∧ (s_many.toInt = 0 ∨ (s_days (Int32.toNatClampNeg (s_many - 1))).toInt ≤ p1.toInt)) ∧ g42_9 = s_days ∧ g52_14 = s_minutes ∧ g62_19 = s_shapes) ∨ ((v70_24 - 1).toInt = s_many.toInt ∧ v70_24.toInt = s_many.toInt + 1 ∧ (s_many.toInt < 40 ∧ (s_many.toInt = 0 ∨ (s_days (Int32.toNatClampNeg (s_many - 1))).toInt ≤ p1.toInt)) ∧ g42_9 = upd s_days (Int32.toNatClampNeg s_many) p1 ∧ g52_14 = upd s_minutes (Int32.toNatClampNeg s_many) p2 ∧ g62_19 = upd s_shapes (Int32.toNatClampNeg s_many) p3)) from ?_)
        (first | (refine Or.inl ⟨?_, ?_, ?_, ?_, ?_, ?_⟩ <;> (first | omega | assumption | with_reducible rfl) <;> done) | (refine Or.inr ⟨?_, ?_, ?_, ?_, ?_, ?_⟩ <;> (first | omega | assumption | with_reducible rfl) <;> done))
      · skip
        have c40 := nleI h29
        have l41 : ((-1) : Int32).toInt = -1 := by decide
        refine Sf_some (show (((-1 : Int32).toInt = -1 ∧ s_many.toInt = s_many.toInt ∧ ¬ (s_many.toInt < 40 ∧ (s_many.toInt = 0 ∨ (s_days (Int32.toNatClampNeg (s_many - 1))).toInt ≤ p1.toInt)) ∧ s_days = s_days ∧ s_minutes = s_minutes ∧ s_shapes = s_shapes) ∨ ((-1 : Int32).toInt = s_many.toInt ∧ s_many.toInt = s_many.toInt + 1 ∧ (s_many.toInt < 40 ∧ (s_many.toInt = 0 ∨ (s_days (Int32.toNatClampNeg (s_many - 1))).toInt ≤ p1.toInt)) ∧ s_days = upd s_days (Int32.toNatClampNeg s_many) p1 ∧ s_minutes = upd s_minutes (Int32.toNatClampNeg s_many) p2 ∧ s_shapes = upd s_shapes (Int32.toNatClampNeg s_many) p3)) from ?_)
        (first | (refine Or.inl ⟨?_, ?_, ?_, ?_, ?_, ?_⟩ <;> (first | omega | assumption | with_reducible rfl) <;> done) | (refine Or.inr ⟨?_, ?_, ?_, ?_, ?_, ?_⟩ <;> (first | omega | assumption | with_reducible rfl) <;> done))
set_option maxHeartbeats 4000000 in
set_option maxRecDepth 100000 in
theorem e_X11_note (s_notes_many : Int32) (s_notes_days : Nat → Int32) (s_notes_minutes : Nat → Int32) (s_notes_shapes : Nat → Int32) (p1 : Int32) (p2 : Int32) (p3 : Int32) (hp0 : 0 ≤ s_notes_many.toInt) (hp1 : s_notes_many.toInt ≤ 40) : Sf (f_X11_note s_notes_many s_notes_days s_notes_minutes s_notes_shapes p1 p2 p3) (fun (y : Int32 × Int32 × (Nat → Int32) × (Nat → Int32) × (Nat → Int32)) => (((y.1).toInt = -1 ∧ (y.2.1).toInt = s_notes_many.toInt ∧ ¬ (0 ≤ p1.toInt ∧ p1.toInt ≤ 399 ∧ 0 ≤ p2.toInt ∧ p2.toInt ≤ 1439 ∧ 0 ≤ p3.toInt ∧ p3.toInt ≤ 3 ∧ s_notes_many.toInt < 40 ∧ (s_notes_many.toInt = 0 ∨ (s_notes_days (Int32.toNatClampNeg (s_notes_many - 1))).toInt ≤ p1.toInt)) ∧ (y.2.2.1) = s_notes_days ∧ (y.2.2.2.1) = s_notes_minutes ∧ (y.2.2.2.2) = s_notes_shapes) ∨ ((y.1).toInt = s_notes_many.toInt ∧ (y.2.1).toInt = s_notes_many.toInt + 1 ∧ (0 ≤ p1.toInt ∧ p1.toInt ≤ 399 ∧ 0 ≤ p2.toInt ∧ p2.toInt ≤ 1439 ∧ 0 ≤ p3.toInt ∧ p3.toInt ≤ 3 ∧ s_notes_many.toInt < 40 ∧ (s_notes_many.toInt = 0 ∨ (s_notes_days (Int32.toNatClampNeg (s_notes_many - 1))).toInt ≤ p1.toInt)) ∧ (y.2.2.1) = upd s_notes_days (Int32.toNatClampNeg s_notes_many) p1 ∧ (y.2.2.2.1) = upd s_notes_minutes (Int32.toNatClampNeg s_notes_many) p2 ∧ (y.2.2.2.2) = upd s_notes_shapes (Int32.toNatClampNeg s_notes_many) p3))) := by
  have g1 := rgI s_notes_many
  have g2 := rgI p1
  have g3 := rgI p2
  have g4 := rgI p3
  have hFU : (100000 : Int) ≤ (FU : Int) := Int.ofNat_le.mpr FU_ge
  rw [f_X11_note]
  refine Sf_cb1 (s_X11_isDay p1 ) (fun r1_1 hp5 => ?_)
  have hp5 : ((r1_1.toInt = 0 ∨ r1_1.toInt = 1)) ∧ ((r1_1.toInt = 1 ∧ 0 ≤ p1.toInt ∧ p1.toInt ≤ 399) ∨ (r1_1.toInt = 0 ∧ (p1.toInt < 0 ∨ 399 < p1.toInt))) := hp5
  obtain ⟨hq6, hq7⟩ := hp5
  have g8 := rgI r1_1
  refine Sf_ite (fun h9 => ?_) (fun h9 => ?_)
  · skip
    have l10 : (0 : Int32).toInt = 0 := by decide
    have c11 := eqI h9
    rw [f_X11_note_J26]
    refine Sf_ite (fun h12 => ?_) (fun h12 => ?_)
    · skip
      have c13 := eqI h12
      have l14 : ((-1) : Int32).toInt = -1 := by decide
      refine Sf_some (show (((-1 : Int32).toInt = -1 ∧ s_notes_many.toInt = s_notes_many.toInt ∧ ¬ (0 ≤ p1.toInt ∧ p1.toInt ≤ 399 ∧ 0 ≤ p2.toInt ∧ p2.toInt ≤ 1439 ∧ 0 ≤ p3.toInt ∧ p3.toInt ≤ 3 ∧ s_notes_many.toInt < 40 ∧ (s_notes_many.toInt = 0 ∨ (s_notes_days (Int32.toNatClampNeg (s_notes_many - 1))).toInt ≤ p1.toInt)) ∧ s_notes_days = s_notes_days ∧ s_notes_minutes = s_notes_minutes ∧ s_notes_shapes = s_notes_shapes) ∨ ((-1 : Int32).toInt = s_notes_many.toInt ∧ s_notes_many.toInt = s_notes_many.toInt + 1 ∧ (0 ≤ p1.toInt ∧ p1.toInt ≤ 399 ∧ 0 ≤ p2.toInt ∧ p2.toInt ≤ 1439 ∧ 0 ≤ p3.toInt ∧ p3.toInt ≤ 3 ∧ s_notes_many.toInt < 40 ∧ (s_notes_many.toInt = 0 ∨ (s_notes_days (Int32.toNatClampNeg (s_notes_many - 1))).toInt ≤ p1.toInt)) ∧ s_notes_days = upd s_notes_days (Int32.toNatClampNeg s_notes_many) p1 ∧ s_notes_minutes = upd s_notes_minutes (Int32.toNatClampNeg s_notes_many) p2 ∧ s_notes_shapes = upd s_notes_shapes (Int32.toNatClampNeg s_notes_many) p3)) from ?_)
      ((first | (refine Or.inl ⟨?_, ?_, ?_, ?_, ?_, ?_⟩ <;> (first | omega | assumption | with_reducible rfl) <;> done) | (rcases hp_ with ⟨c0, c1, c2, c3, c4, c5⟩ | ⟨c0, c1, c2, c3, c4, c5⟩; exact Or.inl (by refine ⟨?_, ?_, ?_, ?_, ?_, ?_⟩ <;> (first | omega | assumption | with_reducible rfl)); exact Or.inr (by refine ⟨?_, ?_, ?_, ?_, ?_, ?_⟩ <;> (first | omega | assumption | with_reducible rfl)))))
    · skip
      have c15 := neI h12
      refine Sf_cb5 (e_X3_add s_notes_many s_notes_days s_notes_minutes s_notes_shapes p1 p2 p3 (by omega) (by omega)) (fun r40_16 o_many40_17 o_days40_18 o_minutes40_19 o_shapes40_20 hp16 => ?_)
      have hp16 : ((r40_16.toInt = -1 ∧ o_many40_17.toInt = s_notes_many.toInt ∧ ¬ (s_notes_many.toInt < 40 ∧ (s_notes_many.toInt = 0 ∨ (s_notes_days (Int32.toNatClampNeg (s_notes_many - 1))).toInt ≤ p1.toInt)) ∧ o_days40_18 = s_notes_days ∧ o_minutes40_19 = s_notes_minutes ∧ o_shapes40_20 = s_notes_shapes) ∨ (r40_16.toInt = s_notes_many.toInt ∧ o_many40_17.toInt = s_notes_many.toInt + 1 ∧ (s_notes_many.toInt < 40 ∧ (s_notes_many.toInt = 0 ∨ (s_notes_days (Int32.toNatClampNeg (s_notes_many - 1))).toInt ≤ p1.toInt)) ∧ o_days40_18 = upd s_notes_days (Int32.toNatClampNeg s_notes_many) p1 ∧ o_minutes40_19 = upd s_notes_minutes (Int32.toNatClampNeg s_notes_many) p2 ∧ o_shapes40_20 = upd s_notes_shapes (Int32.toNatClampNeg s_notes_many) p3)) := hp16
      have hp_ := hp16
      have g17 := rgI r40_16
      have g18 := rgI o_many40_17
      refine Sf_some (show ((r40_16.toInt = -1 ∧ o_many40_17.toInt = s_notes_many.toInt ∧ ¬ (0 ≤ p1.toInt ∧ p1.toInt ≤ 399 ∧ 0 ≤ p2.toInt ∧ p2.toInt ≤ 1439 ∧ 0 ≤ p3.toInt ∧ p3.toInt ≤ 3 ∧ s_notes_many.toInt < 40 ∧ (s_notes_many.toInt = 0 ∨ (s_notes_days (Int32.toNatClampNeg (s_notes_many - 1))).toInt ≤ p1.toInt)) ∧ o_days40_18 = s_notes_days ∧ o_minutes40_19 = s_notes_minutes ∧ o_shapes40_20 = s_notes_shapes) ∨ (r40_16.toInt = s_notes_many.toInt ∧ o_many40_17.toInt = s_notes_many.toInt + 1 ∧ (0 ≤ p1.toInt ∧ p1.toInt ≤ 399 ∧ 0 ≤ p2.toInt ∧ p2.toInt ≤ 1439 ∧ 0 ≤ p3.toInt ∧ p3.toInt ≤ 3 ∧ s_notes_many.toInt < 40 ∧ (s_notes_many.toInt = 0 ∨ (s_notes_days (Int32.toNatClampNeg (s_notes_many - 1))).toInt ≤ p1.toInt)) ∧ o_days40_18 = upd s_notes_days (Int32.toNatClampNeg s_notes_many) p1 ∧ o_minutes40_19 = upd s_notes_minutes (Int32.toNatClampNeg s_notes_many) p2 ∧ o_shapes40_20 = upd s_notes_shapes (Int32.toNatClampNeg s_notes_many) p3)) from ?_)
      ((first | (refine Or.inl ⟨?_, ?_, ?_, ?_, ?_, ?_⟩ <;> (first | omega | assumption | with_reducible rfl) <;> done) | (rcases hp_ with ⟨c0, c1, c2, c3, c4, c5⟩ | ⟨c0, c1, c2, c3, c4, c5⟩; exact Or.inl (by refine ⟨?_, ?_, ?_, ?_, ?_, ?_⟩ <;> (first | omega | assumption | with_reducible rfl)); exact Or.inr (by refine ⟨?_, ?_, ?_, ?_, ?_, ?_⟩ <;> (first | omega | assumption | with_reducible rfl)))))
  · skip
    have l19 : (0 : Int32).toInt = 0 := by decide
    have c20 := neI h9
    refine Sf_cb1 (s_X11_isMinute p2 ) (fun r8_33 hp21 => ?_)
    have hp21 : ((r8_33.toInt = 0 ∨ r8_33.toInt = 1)) ∧ ((r8_33.toInt = 1 ∧ 0 ≤ p2.toInt ∧ p2.toInt ≤ 1439) ∨ (r8_33.toInt = 0 ∧ (p2.toInt < 0 ∨ 1439 < p2.toInt))) := hp21
    obtain ⟨hq22, hq23⟩ := hp21
    have g24 := rgI r8_33
    refine Sf_ite (fun h25 => ?_) (fun h25 => ?_)
    · skip
      have c26 := eqI h25
      rw [f_X11_note_J26]
      refine Sf_ite (fun h27 => ?_) (fun h27 => ?_)
      · skip
        have c28 := eqI h27
        have l29 : ((-1) : Int32).toInt = -1 := by decide
        refine Sf_some (show (((-1 : Int32).toInt = -1 ∧ s_notes_many.toInt = s_notes_many.toInt ∧ ¬ (0 ≤ p1.toInt ∧ p1.toInt ≤ 399 ∧ 0 ≤ p2.toInt ∧ p2.toInt ≤ 1439 ∧ 0 ≤ p3.toInt ∧ p3.toInt ≤ 3 ∧ s_notes_many.toInt < 40 ∧ (s_notes_many.toInt = 0 ∨ (s_notes_days (Int32.toNatClampNeg (s_notes_many - 1))).toInt ≤ p1.toInt)) ∧ s_notes_days = s_notes_days ∧ s_notes_minutes = s_notes_minutes ∧ s_notes_shapes = s_notes_shapes) ∨ ((-1 : Int32).toInt = s_notes_many.toInt ∧ s_notes_many.toInt = s_notes_many.toInt + 1 ∧ (0 ≤ p1.toInt ∧ p1.toInt ≤ 399 ∧ 0 ≤ p2.toInt ∧ p2.toInt ≤ 1439 ∧ 0 ≤ p3.toInt ∧ p3.toInt ≤ 3 ∧ s_notes_many.toInt < 40 ∧ (s_notes_many.toInt = 0 ∨ (s_notes_days (Int32.toNatClampNeg (s_notes_many - 1))).toInt ≤ p1.toInt)) ∧ s_notes_days = upd s_notes_days (Int32.toNatClampNeg s_notes_many) p1 ∧ s_notes_minutes = upd s_notes_minutes (Int32.toNatClampNeg s_notes_many) p2 ∧ s_notes_shapes = upd s_notes_shapes (Int32.toNatClampNeg s_notes_many) p3)) from ?_)
        ((first | (refine Or.inl ⟨?_, ?_, ?_, ?_, ?_, ?_⟩ <;> (first | omega | assumption | with_reducible rfl) <;> done) | (rcases hp_ with ⟨c0, c1, c2, c3, c4, c5⟩ | ⟨c0, c1, c2, c3, c4, c5⟩; exact Or.inl (by refine ⟨?_, ?_, ?_, ?_, ?_, ?_⟩ <;> (first | omega | assumption | with_reducible rfl)); exact Or.inr (by refine ⟨?_, ?_, ?_, ?_, ?_, ?_⟩ <;> (first | omega | assumption | with_reducible rfl)))))
      · skip
        have c30 := neI h27
        refine Sf_cb5 (e_X3_add s_notes_many s_notes_days s_notes_minutes s_notes_shapes p1 p2 p3 (by omega) (by omega)) (fun r40_16 o_many40_17 o_days40_18 o_minutes40_19 o_shapes40_20 hp31 => ?_)
        have hp31 : ((r40_16.toInt = -1 ∧ o_many40_17.toInt = s_notes_many.toInt ∧ ¬ (s_notes_many.toInt < 40 ∧ (s_notes_many.toInt = 0 ∨ (s_notes_days (Int32.toNatClampNeg (s_notes_many - 1))).toInt ≤ p1.toInt)) ∧ o_days40_18 = s_notes_days ∧ o_minutes40_19 = s_notes_minutes ∧ o_shapes40_20 = s_notes_shapes) ∨ (r40_16.toInt = s_notes_many.toInt ∧ o_many40_17.toInt = s_notes_many.toInt + 1 ∧ (s_notes_many.toInt < 40 ∧ (s_notes_many.toInt = 0 ∨ (s_notes_days (Int32.toNatClampNeg (s_notes_many - 1))).toInt ≤ p1.toInt)) ∧ o_days40_18 = upd s_notes_days (Int32.toNatClampNeg s_notes_many) p1 ∧ o_minutes40_19 = upd s_notes_minutes (Int32.toNatClampNeg s_notes_many) p2 ∧ o_shapes40_20 = upd s_notes_shapes (Int32.toNatClampNeg s_notes_many) p3)) := hp31
        have hp_ := hp31
        have g32 := rgI r40_16
        have g33 := rgI o_many40_17
        refine Sf_some (show ((r40_16.toInt = -1 ∧ o_many40_17.toInt = s_notes_many.toInt ∧ ¬ (0 ≤ p1.toInt ∧ p1.toInt ≤ 399 ∧ 0 ≤ p2.toInt ∧ p2.toInt ≤ 1439 ∧ 0 ≤ p3.toInt ∧ p3.toInt ≤ 3 ∧ s_notes_many.toInt < 40 ∧ (s_notes_many.toInt = 0 ∨ (s_notes_days (Int32.toNatClampNeg (s_notes_many - 1))).toInt ≤ p1.toInt)) ∧ o_days40_18 = s_notes_days ∧ o_minutes40_19 = s_notes_minutes ∧ o_shapes40_20 = s_notes_shapes) ∨ (r40_16.toInt = s_notes_many.toInt ∧ o_many40_17.toInt = s_notes_many.toInt + 1 ∧ (0 ≤ p1.toInt ∧ p1.toInt ≤ 399 ∧ 0 ≤ p2.toInt ∧ p2.toInt ≤ 1439 ∧ 0 ≤ p3.toInt ∧ p3.toInt ≤ 3 ∧ s_notes_many.toInt < 40 ∧ (s_notes_many.toInt = 0 ∨ (s_notes_days (Int32.toNatClampNeg (s_notes_many - 1))).toInt ≤ p1.toInt)) ∧ o_days40_18 = upd s_notes_days (Int32.toNatClampNeg s_notes_many) p1 ∧ o_minutes40_19 = upd s_notes_minutes (Int32.toNatClampNeg s_notes_many) p2 ∧ o_shapes40_20 = upd s_notes_shapes (Int32.toNatClampNeg s_notes_many) p3)) from ?_)
        ((first | (refine Or.inl ⟨?_, ?_, ?_, ?_, ?_, ?_⟩ <;> (first | omega | assumption | with_reducible rfl) <;> done) | (rcases hp_ with ⟨c0, c1, c2, c3, c4, c5⟩ | ⟨c0, c1, c2, c3, c4, c5⟩; exact Or.inl (by refine ⟨?_, ?_, ?_, ?_, ?_, ?_⟩ <;> (first | omega | assumption | with_reducible rfl)); exact Or.inr (by refine ⟨?_, ?_, ?_, ?_, ?_, ?_⟩ <;> (first | omega | assumption | with_reducible rfl)))))
    · skip
      have c34 := neI h25
      refine Sf_cb1 (s_X11_isShape p3 ) (fun r15_41 hp35 => ?_)
      have hp35 : ((r15_41.toInt = 0 ∨ r15_41.toInt = 1)) ∧ ((r15_41.toInt = 1 ∧ 0 ≤ p3.toInt ∧ p3.toInt ≤ 3) ∨ (r15_41.toInt = 0 ∧ (p3.toInt < 0 ∨ 3 < p3.toInt))) := hp35
      obtain ⟨hq36, hq37⟩ := hp35
      have g38 := rgI r15_41
      refine Sf_ite (fun h39 => ?_) (fun h39 => ?_)
      · skip
        have c40 := eqI h39
        rw [f_X11_note_J26]
        refine Sf_ite (fun h41 => ?_) (fun h41 => ?_)
        · skip
          have c42 := eqI h41
          have l43 : ((-1) : Int32).toInt = -1 := by decide
          refine Sf_some (show (((-1 : Int32).toInt = -1 ∧ s_notes_many.toInt = s_notes_many.toInt ∧ ¬ (0 ≤ p1.toInt ∧ p1.toInt ≤ 399 ∧ 0 ≤ p2.toInt ∧ p2.toInt ≤ 1439 ∧ 0 ≤ p3.toInt ∧ p3.toInt ≤ 3 ∧ s_notes_many.toInt < 40 ∧ (s_notes_many.toInt = 0 ∨ (s_notes_days (Int32.toNatClampNeg (s_notes_many - 1))).toInt ≤ p1.toInt)) ∧ s_notes_days = s_notes_days ∧ s_notes_minutes = s_notes_minutes ∧ s_notes_shapes = s_notes_shapes) ∨ ((-1 : Int32).toInt = s_notes_many.toInt ∧ s_notes_many.toInt = s_notes_many.toInt + 1 ∧ (0 ≤ p1.toInt ∧ p1.toInt ≤ 399 ∧ 0 ≤ p2.toInt ∧ p2.toInt ≤ 1439 ∧ 0 ≤ p3.toInt ∧ p3.toInt ≤ 3 ∧ s_notes_many.toInt < 40 ∧ (s_notes_many.toInt = 0 ∨ (s_notes_days (Int32.toNatClampNeg (s_notes_many - 1))).toInt ≤ p1.toInt)) ∧ s_notes_days = upd s_notes_days (Int32.toNatClampNeg s_notes_many) p1 ∧ s_notes_minutes = upd s_notes_minutes (Int32.toNatClampNeg s_notes_many) p2 ∧ s_notes_shapes = upd s_notes_shapes (Int32.toNatClampNeg s_notes_many) p3)) from ?_)
          ((first | (refine Or.inl ⟨?_, ?_, ?_, ?_, ?_, ?_⟩ <;> (first | omega | assumption | with_reducible rfl) <;> done) | (rcases hp_ with ⟨c0, c1, c2, c3, c4, c5⟩ | ⟨c0, c1, c2, c3, c4, c5⟩; exact Or.inl (by refine ⟨?_, ?_, ?_, ?_, ?_, ?_⟩ <;> (first | omega | assumption | with_reducible rfl)); exact Or.inr (by refine ⟨?_, ?_, ?_, ?_, ?_, ?_⟩ <;> (first | omega | assumption | with_reducible rfl)))))
        · skip
          have c44 := neI h41
          refine Sf_cb5 (e_X3_add s_notes_many s_notes_days s_notes_minutes s_notes_shapes p1 p2 p3 (by omega) (by omega)) (fun r40_16 o_many40_17 o_days40_18 o_minutes40_19 o_shapes40_20 hp45 => ?_)
          have hp45 : ((r40_16.toInt = -1 ∧ o_many40_17.toInt = s_notes_many.toInt ∧ ¬ (s_notes_many.toInt < 40 ∧ (s_notes_many.toInt = 0 ∨ (s_notes_days (Int32.toNatClampNeg (s_notes_many - 1))).toInt ≤ p1.toInt)) ∧ o_days40_18 = s_notes_days ∧ o_minutes40_19 = s_notes_minutes ∧ o_shapes40_20 = s_notes_shapes) ∨ (r40_16.toInt = s_notes_many.toInt ∧ o_many40_17.toInt = s_notes_many.toInt + 1 ∧ (s_notes_many.toInt < 40 ∧ (s_notes_many.toInt = 0 ∨ (s_notes_days (Int32.toNatClampNeg (s_notes_many - 1))).toInt ≤ p1.toInt)) ∧ o_days40_18 = upd s_notes_days (Int32.toNatClampNeg s_notes_many) p1 ∧ o_minutes40_19 = upd s_notes_minutes (Int32.toNatClampNeg s_notes_many) p2 ∧ o_shapes40_20 = upd s_notes_shapes (Int32.toNatClampNeg s_notes_many) p3)) := hp45
          have hp_ := hp45
          have g46 := rgI r40_16
          have g47 := rgI o_many40_17
          refine Sf_some (show ((r40_16.toInt = -1 ∧ o_many40_17.toInt = s_notes_many.toInt ∧ ¬ (0 ≤ p1.toInt ∧ p1.toInt ≤ 399 ∧ 0 ≤ p2.toInt ∧ p2.toInt ≤ 1439 ∧ 0 ≤ p3.toInt ∧ p3.toInt ≤ 3 ∧ s_notes_many.toInt < 40 ∧ (s_notes_many.toInt = 0 ∨ (s_notes_days (Int32.toNatClampNeg (s_notes_many - 1))).toInt ≤ p1.toInt)) ∧ o_days40_18 = s_notes_days ∧ o_minutes40_19 = s_notes_minutes ∧ o_shapes40_20 = s_notes_shapes) ∨ (r40_16.toInt = s_notes_many.toInt ∧ o_many40_17.toInt = s_notes_many.toInt + 1 ∧ (0 ≤ p1.toInt ∧ p1.toInt ≤ 399 ∧ 0 ≤ p2.toInt ∧ p2.toInt ≤ 1439 ∧ 0 ≤ p3.toInt ∧ p3.toInt ≤ 3 ∧ s_notes_many.toInt < 40 ∧ (s_notes_many.toInt = 0 ∨ (s_notes_days (Int32.toNatClampNeg (s_notes_many - 1))).toInt ≤ p1.toInt)) ∧ o_days40_18 = upd s_notes_days (Int32.toNatClampNeg s_notes_many) p1 ∧ o_minutes40_19 = upd s_notes_minutes (Int32.toNatClampNeg s_notes_many) p2 ∧ o_shapes40_20 = upd s_notes_shapes (Int32.toNatClampNeg s_notes_many) p3)) from ?_)
          ((first | (refine Or.inl ⟨?_, ?_, ?_, ?_, ?_, ?_⟩ <;> (first | omega | assumption | with_reducible rfl) <;> done) | (rcases hp_ with ⟨c0, c1, c2, c3, c4, c5⟩ | ⟨c0, c1, c2, c3, c4, c5⟩; exact Or.inl (by refine ⟨?_, ?_, ?_, ?_, ?_, ?_⟩ <;> (first | omega | assumption | with_reducible rfl)); exact Or.inr (by refine ⟨?_, ?_, ?_, ?_, ?_, ?_⟩ <;> (first | omega | assumption | with_reducible rfl)))))
      · skip
        have c48 := neI h39
        rw [f_X11_note_J26]
        refine Sf_ite (fun h49 => ?_) (fun h49 => ?_)
        · skip
          have l50 : (1 : Int32).toInt = 1 := by decide
          have c51 := eqI h49
          have l52 : ((-1) : Int32).toInt = -1 := by decide
          refine Sf_some (show (((-1 : Int32).toInt = -1 ∧ s_notes_many.toInt = s_notes_many.toInt ∧ ¬ (0 ≤ p1.toInt ∧ p1.toInt ≤ 399 ∧ 0 ≤ p2.toInt ∧ p2.toInt ≤ 1439 ∧ 0 ≤ p3.toInt ∧ p3.toInt ≤ 3 ∧ s_notes_many.toInt < 40 ∧ (s_notes_many.toInt = 0 ∨ (s_notes_days (Int32.toNatClampNeg (s_notes_many - 1))).toInt ≤ p1.toInt)) ∧ s_notes_days = s_notes_days ∧ s_notes_minutes = s_notes_minutes ∧ s_notes_shapes = s_notes_shapes) ∨ ((-1 : Int32).toInt = s_notes_many.toInt ∧ s_notes_many.toInt = s_notes_many.toInt + 1 ∧ (0 ≤ p1.toInt ∧ p1.toInt ≤ 399 ∧ 0 ≤ p2.toInt ∧ p2.toInt ≤ 1439 ∧ 0 ≤ p3.toInt ∧ p3.toInt ≤ 3 ∧ s_notes_many.toInt < 40 ∧ (s_notes_many.toInt = 0 ∨ (s_notes_days (Int32.toNatClampNeg (s_notes_many - 1))).toInt ≤ p1.toInt)) ∧ s_notes_days = upd s_notes_days (Int32.toNatClampNeg s_notes_many) p1 ∧ s_notes_minutes = upd s_notes_minutes (Int32.toNatClampNeg s_notes_many) p2 ∧ s_notes_shapes = upd s_notes_shapes (Int32.toNatClampNeg s_notes_many) p3)) from ?_)
          ((first | (refine Or.inl ⟨?_, ?_, ?_, ?_, ?_, ?_⟩ <;> (first | omega | assumption | with_reducible rfl) <;> done) | (rcases hp_ with ⟨c0, c1, c2, c3, c4, c5⟩ | ⟨c0, c1, c2, c3, c4, c5⟩; exact Or.inl (by refine ⟨?_, ?_, ?_, ?_, ?_, ?_⟩ <;> (first | omega | assumption | with_reducible rfl)); exact Or.inr (by refine ⟨?_, ?_, ?_, ?_, ?_, ?_⟩ <;> (first | omega | assumption | with_reducible rfl)))))
        · skip
          have l53 : (1 : Int32).toInt = 1 := by decide
          have c54 := neI h49
          refine Sf_cb5 (e_X3_add s_notes_many s_notes_days s_notes_minutes s_notes_shapes p1 p2 p3 (by omega) (by omega)) (fun r40_16 o_many40_17 o_days40_18 o_minutes40_19 o_shapes40_20 hp55 => ?_)
          have hp55 : ((r40_16.toInt = -1 ∧ o_many40_17.toInt = s_notes_many.toInt ∧ ¬ (s_notes_many.toInt < 40 ∧ (s_notes_many.toInt = 0 ∨ (s_notes_days (Int32.toNatClampNeg (s_notes_many - 1))).toInt ≤ p1.toInt)) ∧ o_days40_18 = s_notes_days ∧ o_minutes40_19 = s_notes_minutes ∧ o_shapes40_20 = s_notes_shapes) ∨ (r40_16.toInt = s_notes_many.toInt ∧ o_many40_17.toInt = s_notes_many.toInt + 1 ∧ (s_notes_many.toInt < 40 ∧ (s_notes_many.toInt = 0 ∨ (s_notes_days (Int32.toNatClampNeg (s_notes_many - 1))).toInt ≤ p1.toInt)) ∧ o_days40_18 = upd s_notes_days (Int32.toNatClampNeg s_notes_many) p1 ∧ o_minutes40_19 = upd s_notes_minutes (Int32.toNatClampNeg s_notes_many) p2 ∧ o_shapes40_20 = upd s_notes_shapes (Int32.toNatClampNeg s_notes_many) p3)) := hp55
          have hp_ := hp55
          have g56 := rgI r40_16
          have g57 := rgI o_many40_17
          refine Sf_some (show ((r40_16.toInt = -1 ∧ o_many40_17.toInt = s_notes_many.toInt ∧ ¬ (0 ≤ p1.toInt ∧ p1.toInt ≤ 399 ∧ 0 ≤ p2.toInt ∧ p2.toInt ≤ 1439 ∧ 0 ≤ p3.toInt ∧ p3.toInt ≤ 3 ∧ s_notes_many.toInt < 40 ∧ (s_notes_many.toInt = 0 ∨ (s_notes_days (Int32.toNatClampNeg (s_notes_many - 1))).toInt ≤ p1.toInt)) ∧ o_days40_18 = s_notes_days ∧ o_minutes40_19 = s_notes_minutes ∧ o_shapes40_20 = s_notes_shapes) ∨ (r40_16.toInt = s_notes_many.toInt ∧ o_many40_17.toInt = s_notes_many.toInt + 1 ∧ (0 ≤ p1.toInt ∧ p1.toInt ≤ 399 ∧ 0 ≤ p2.toInt ∧ p2.toInt ≤ 1439 ∧ 0 ≤ p3.toInt ∧ p3.toInt ≤ 3 ∧ s_notes_many.toInt < 40 ∧ (s_notes_many.toInt = 0 ∨ (s_notes_days (Int32.toNatClampNeg (s_notes_many - 1))).toInt ≤ p1.toInt)) ∧ o_days40_18 = upd s_notes_days (Int32.toNatClampNeg s_notes_many) p1 ∧ o_minutes40_19 = upd s_notes_minutes (Int32.toNatClampNeg s_notes_many) p2 ∧ o_shapes40_20 = upd s_notes_shapes (Int32.toNatClampNeg s_notes_many) p3)) from ?_)
          ((first | (refine Or.inl ⟨?_, ?_, ?_, ?_, ?_, ?_⟩ <;> (first | omega | assumption | with_reducible rfl) <;> done) | (rcases hp_ with ⟨c0, c1, c2, c3, c4, c5⟩ | ⟨c0, c1, c2, c3, c4, c5⟩; exact Or.inl (by refine ⟨?_, ?_, ?_, ?_, ?_, ?_⟩ <;> (first | omega | assumption | with_reducible rfl)); exact Or.inr (by refine ⟨?_, ?_, ?_, ?_, ?_, ?_⟩ <;> (first | omega | assumption | with_reducible rfl)))))
set_option maxHeartbeats 4000000 in
set_option maxRecDepth 100000 in
theorem e_X12_note (s_notes : Int32) (s_noteDay : Nat → Int32) (s_noteMinute : Nat → Int32) (s_noteShape : Nat → Int32) (p1 : Int32) (p2 : Int32) (p3 : Int32) (hp0 : 0 ≤ s_notes.toInt) (hp1 : s_notes.toInt ≤ 40) : Sf (f_X12_note s_notes s_noteDay s_noteMinute s_noteShape p1 p2 p3) (fun (y : Int32 × Int32 × (Nat → Int32) × (Nat → Int32) × (Nat → Int32)) => (((y.1).toInt = -1 ∧ (y.2.1).toInt = s_notes.toInt ∧ ¬ (0 ≤ p1.toInt ∧ p1.toInt ≤ 399 ∧ 0 ≤ p2.toInt ∧ p2.toInt ≤ 1439 ∧ 0 ≤ p3.toInt ∧ p3.toInt ≤ 3 ∧ s_notes.toInt < 40 ∧ (s_notes.toInt = 0 ∨ (s_noteDay (Int32.toNatClampNeg (s_notes - 1))).toInt ≤ p1.toInt)) ∧ (y.2.2.1) = s_noteDay ∧ (y.2.2.2.1) = s_noteMinute ∧ (y.2.2.2.2) = s_noteShape) ∨ ((y.1).toInt = s_notes.toInt ∧ (y.2.1).toInt = s_notes.toInt + 1 ∧ (0 ≤ p1.toInt ∧ p1.toInt ≤ 399 ∧ 0 ≤ p2.toInt ∧ p2.toInt ≤ 1439 ∧ 0 ≤ p3.toInt ∧ p3.toInt ≤ 3 ∧ s_notes.toInt < 40 ∧ (s_notes.toInt = 0 ∨ (s_noteDay (Int32.toNatClampNeg (s_notes - 1))).toInt ≤ p1.toInt)) ∧ (y.2.2.1) = upd s_noteDay (Int32.toNatClampNeg s_notes) p1 ∧ (y.2.2.2.1) = upd s_noteMinute (Int32.toNatClampNeg s_notes) p2 ∧ (y.2.2.2.2) = upd s_noteShape (Int32.toNatClampNeg s_notes) p3))) := by
  have g1 := rgI s_notes
  have g2 := rgI p1
  have g3 := rgI p2
  have g4 := rgI p3
  have hFU : (100000 : Int) ≤ (FU : Int) := Int.ofNat_le.mpr FU_ge
  rw [f_X12_note]
  refine Sf_ite (fun h5 => ?_) (fun h5 => ?_)
  · skip
    have l6 : (40 : Int32).toInt = 40 := by decide
    have c7 := eqI h5
    have l8 : ((-1) : Int32).toInt = -1 := by decide
    refine Sf_some (show (((-1 : Int32).toInt = -1 ∧ s_notes.toInt = s_notes.toInt ∧ ¬ (0 ≤ p1.toInt ∧ p1.toInt ≤ 399 ∧ 0 ≤ p2.toInt ∧ p2.toInt ≤ 1439 ∧ 0 ≤ p3.toInt ∧ p3.toInt ≤ 3 ∧ s_notes.toInt < 40 ∧ (s_notes.toInt = 0 ∨ (s_noteDay (Int32.toNatClampNeg (s_notes - 1))).toInt ≤ p1.toInt)) ∧ s_noteDay = s_noteDay ∧ s_noteMinute = s_noteMinute ∧ s_noteShape = s_noteShape) ∨ ((-1 : Int32).toInt = s_notes.toInt ∧ s_notes.toInt = s_notes.toInt + 1 ∧ (0 ≤ p1.toInt ∧ p1.toInt ≤ 399 ∧ 0 ≤ p2.toInt ∧ p2.toInt ≤ 1439 ∧ 0 ≤ p3.toInt ∧ p3.toInt ≤ 3 ∧ s_notes.toInt < 40 ∧ (s_notes.toInt = 0 ∨ (s_noteDay (Int32.toNatClampNeg (s_notes - 1))).toInt ≤ p1.toInt)) ∧ s_noteDay = upd s_noteDay (Int32.toNatClampNeg s_notes) p1 ∧ s_noteMinute = upd s_noteMinute (Int32.toNatClampNeg s_notes) p2 ∧ s_noteShape = upd s_noteShape (Int32.toNatClampNeg s_notes) p3)) from ?_)
    (first | (refine Or.inl ⟨?_, ?_, ?_, ?_, ?_, ?_⟩ <;> (first | omega | assumption | with_reducible rfl) <;> done) | (refine Or.inr ⟨?_, ?_, ?_, ?_, ?_, ?_⟩ <;> (first | omega | assumption | with_reducible rfl) <;> done))
  · skip
    have l9 : (40 : Int32).toInt = 40 := by decide
    have c10 := neI h5
    refine Sf_cb1 (s_X12_isDay p1 ) (fun r10_9 hp11 => ?_)
    have hp11 : ((r10_9.toInt = 0 ∨ r10_9.toInt = 1)) ∧ ((r10_9.toInt = 1 ∧ 0 ≤ p1.toInt ∧ p1.toInt ≤ 399) ∨ (r10_9.toInt = 0 ∧ (p1.toInt < 0 ∨ 399 < p1.toInt))) := hp11
    obtain ⟨hq12, hq13⟩ := hp11
    have g14 := rgI r10_9
    refine Sf_ite (fun h15 => ?_) (fun h15 => ?_)
    · skip
      have l16 : (0 : Int32).toInt = 0 := by decide
      have c17 := eqI h15
      have l18 : ((-1) : Int32).toInt = -1 := by decide
      refine Sf_some (show (((-1 : Int32).toInt = -1 ∧ s_notes.toInt = s_notes.toInt ∧ ¬ (0 ≤ p1.toInt ∧ p1.toInt ≤ 399 ∧ 0 ≤ p2.toInt ∧ p2.toInt ≤ 1439 ∧ 0 ≤ p3.toInt ∧ p3.toInt ≤ 3 ∧ s_notes.toInt < 40 ∧ (s_notes.toInt = 0 ∨ (s_noteDay (Int32.toNatClampNeg (s_notes - 1))).toInt ≤ p1.toInt)) ∧ s_noteDay = s_noteDay ∧ s_noteMinute = s_noteMinute ∧ s_noteShape = s_noteShape) ∨ ((-1 : Int32).toInt = s_notes.toInt ∧ s_notes.toInt = s_notes.toInt + 1 ∧ (0 ≤ p1.toInt ∧ p1.toInt ≤ 399 ∧ 0 ≤ p2.toInt ∧ p2.toInt ≤ 1439 ∧ 0 ≤ p3.toInt ∧ p3.toInt ≤ 3 ∧ s_notes.toInt < 40 ∧ (s_notes.toInt = 0 ∨ (s_noteDay (Int32.toNatClampNeg (s_notes - 1))).toInt ≤ p1.toInt)) ∧ s_noteDay = upd s_noteDay (Int32.toNatClampNeg s_notes) p1 ∧ s_noteMinute = upd s_noteMinute (Int32.toNatClampNeg s_notes) p2 ∧ s_noteShape = upd s_noteShape (Int32.toNatClampNeg s_notes) p3)) from ?_)
      (first | (refine Or.inl ⟨?_, ?_, ?_, ?_, ?_, ?_⟩ <;> (first | omega | assumption | with_reducible rfl) <;> done) | (refine Or.inr ⟨?_, ?_, ?_, ?_, ?_, ?_⟩ <;> (first | omega | assumption | with_reducible rfl) <;> done))
    · skip
      have l19 : (0 : Int32).toInt = 0 := by decide
      have c20 := neI h15
      refine Sf_cb1 (s_X12_isMinute p2 ) (fun r17_22 hp21 => ?_)
      have hp21 : ((r17_22.toInt = 0 ∨ r17_22.toInt = 1)) ∧ ((r17_22.toInt = 1 ∧ 0 ≤ p2.toInt ∧ p2.toInt ≤ 1439) ∨ (r17_22.toInt = 0 ∧ (p2.toInt < 0 ∨ 1439 < p2.toInt))) := hp21
      obtain ⟨hq22, hq23⟩ := hp21
      have g24 := rgI r17_22
      refine Sf_ite (fun h25 => ?_) (fun h25 => ?_)
      · skip
        have c26 := eqI h25
        have l27 : ((-1) : Int32).toInt = -1 := by decide
        refine Sf_some (show (((-1 : Int32).toInt = -1 ∧ s_notes.toInt = s_notes.toInt ∧ ¬ (0 ≤ p1.toInt ∧ p1.toInt ≤ 399 ∧ 0 ≤ p2.toInt ∧ p2.toInt ≤ 1439 ∧ 0 ≤ p3.toInt ∧ p3.toInt ≤ 3 ∧ s_notes.toInt < 40 ∧ (s_notes.toInt = 0 ∨ (s_noteDay (Int32.toNatClampNeg (s_notes - 1))).toInt ≤ p1.toInt)) ∧ s_noteDay = s_noteDay ∧ s_noteMinute = s_noteMinute ∧ s_noteShape = s_noteShape) ∨ ((-1 : Int32).toInt = s_notes.toInt ∧ s_notes.toInt = s_notes.toInt + 1 ∧ (0 ≤ p1.toInt ∧ p1.toInt ≤ 399 ∧ 0 ≤ p2.toInt ∧ p2.toInt ≤ 1439 ∧ 0 ≤ p3.toInt ∧ p3.toInt ≤ 3 ∧ s_notes.toInt < 40 ∧ (s_notes.toInt = 0 ∨ (s_noteDay (Int32.toNatClampNeg (s_notes - 1))).toInt ≤ p1.toInt)) ∧ s_noteDay = upd s_noteDay (Int32.toNatClampNeg s_notes) p1 ∧ s_noteMinute = upd s_noteMinute (Int32.toNatClampNeg s_notes) p2 ∧ s_noteShape = upd s_noteShape (Int32.toNatClampNeg s_notes) p3)) from ?_)
        (first | (refine Or.inl ⟨?_, ?_, ?_, ?_, ?_, ?_⟩ <;> (first | omega | assumption | with_reducible rfl) <;> done) | (refine Or.inr ⟨?_, ?_, ?_, ?_, ?_, ?_⟩ <;> (first | omega | assumption | with_reducible rfl) <;> done))
      · skip
        have c28 := neI h25
        have t29 := t64 p3
        have l30 : (0 : Int64).toInt = 0 := by decide
        have l31 : (3 : Int64).toInt = 3 := by decide
        refine Sf_cb1 (s_X12_lies (Int32.toInt64 p3) 0 3 ) (fun r29_35 hp32 => ?_)
        have hp32 : ((r29_35.toInt = 0 ∨ r29_35.toInt = 1)) ∧ ((r29_35.toInt = 1 ∧ (0 : Int64).toInt ≤ (Int32.toInt64 p3).toInt ∧ (Int32.toInt64 p3).toInt ≤ (3 : Int64).toInt) ∨ (r29_35.toInt = 0 ∧ ((Int32.toInt64 p3).toInt < (0 : Int64).toInt ∨ (3 : Int64).toInt < (Int32.toInt64 p3).toInt))) := hp32
        obtain ⟨hq33, hq34⟩ := hp32
        have g35 := rgI r29_35
        refine Sf_ite (fun h36 => ?_) (fun h36 => ?_)
        · skip
          have c37 := eqI h36
          have l38 : ((-1) : Int32).toInt = -1 := by decide
          refine Sf_some (show (((-1 : Int32).toInt = -1 ∧ s_notes.toInt = s_notes.toInt ∧ ¬ (0 ≤ p1.toInt ∧ p1.toInt ≤ 399 ∧ 0 ≤ p2.toInt ∧ p2.toInt ≤ 1439 ∧ 0 ≤ p3.toInt ∧ p3.toInt ≤ 3 ∧ s_notes.toInt < 40 ∧ (s_notes.toInt = 0 ∨ (s_noteDay (Int32.toNatClampNeg (s_notes - 1))).toInt ≤ p1.toInt)) ∧ s_noteDay = s_noteDay ∧ s_noteMinute = s_noteMinute ∧ s_noteShape = s_noteShape) ∨ ((-1 : Int32).toInt = s_notes.toInt ∧ s_notes.toInt = s_notes.toInt + 1 ∧ (0 ≤ p1.toInt ∧ p1.toInt ≤ 399 ∧ 0 ≤ p2.toInt ∧ p2.toInt ≤ 1439 ∧ 0 ≤ p3.toInt ∧ p3.toInt ≤ 3 ∧ s_notes.toInt < 40 ∧ (s_notes.toInt = 0 ∨ (s_noteDay (Int32.toNatClampNeg (s_notes - 1))).toInt ≤ p1.toInt)) ∧ s_noteDay = upd s_noteDay (Int32.toNatClampNeg s_notes) p1 ∧ s_noteMinute = upd s_noteMinute (Int32.toNatClampNeg s_notes) p2 ∧ s_noteShape = upd s_noteShape (Int32.toNatClampNeg s_notes) p3)) from ?_)
          (first | (refine Or.inl ⟨?_, ?_, ?_, ?_, ?_, ?_⟩ <;> (first | omega | assumption | with_reducible rfl) <;> done) | (refine Or.inr ⟨?_, ?_, ?_, ?_, ?_, ?_⟩ <;> (first | omega | assumption | with_reducible rfl) <;> done))
        · skip
          have c39 := neI h36
          refine Sf_ite (fun h40 => ?_) (fun h40 => ?_)
          · skip
            have c41 := leI h40
            rw [f_X12_note_J59]
            refine Sf_wrI (by omega) (by omega) (fun g68_48 hw42 => ?_)
            refine Sf_wrI (by omega) (by omega) (fun g78_53 hw43 => ?_)
            refine Sf_wrI (by omega) (by omega) (fun g88_58 hw44 => ?_)
            refine Sf_nmI (fun v96_63 hv45 => ?_)
            have g46 := rgI (s_notes + 1)
            first | have e47 := adN s_notes 1 (1) (by decide) (by omega) (by omega) | skip
            have q48 := eqI hv45
            have g49 := rgI (v96_63 - 1)
            first | have e50 := sbN v96_63 1 (1) (by decide) (by omega) (by omega) | skip
            refine Sf_some (show (((v96_63 - 1).toInt = -1 ∧ v96_63.toInt = s_notes.toInt ∧ ¬ (0 ≤ p1.toInt ∧ p1.toInt ≤ 399 ∧ 0 ≤ p2.toInt ∧ p2.toInt ≤ 1439 ∧ 0 ≤ p3.toInt ∧ p3.toInt ≤ 3 ∧ s_notes.toInt < 40 ∧ (s_notes.toInt = 0 ∨ (s_noteDay (Int32.toNatClampNeg (s_notes - 1))).toInt ≤ p1.toInt)) ∧ g68_48 = s_noteDay ∧ g78_53 = s_noteMinute ∧ g88_58 = s_noteShape) ∨ ((v96_63 - 1).toInt = s_notes.toInt ∧ v96_63.toInt = s_notes.toInt + 1 ∧ (0 ≤ p1.toInt ∧ p1.toInt ≤ 399 ∧ 0 ≤ p2.toInt ∧ p2.toInt ≤ 1439 ∧ 0 ≤ p3.toInt ∧ p3.toInt ≤ 3 ∧ s_notes.toInt < 40 ∧ (s_notes.toInt = 0 ∨ (s_noteDay (Int32.toNatClampNeg (s_notes - 1))).toInt ≤ p1.toInt)) ∧ g68_48 = upd s_noteDay (Int32.toNatClampNeg s_notes) p1 ∧ g78_53 = upd s_noteMinute (Int32.toNatClampNeg s_notes) p2 ∧ g88_58 = upd s_noteShape (Int32.toNatClampNeg s_notes) p3)) from ?_)
            (first | (refine Or.inl ⟨?_, ?_, ?_, ?_, ?_, ?_⟩ <;> (first | omega | assumption | with_reducible rfl) <;> done) | (refine Or.inr ⟨?_, ?_, ?_, ?_, ?_, ?_⟩ <;> (first | omega | assumption | with_reducible rfl) <;> done))
          · skip
            have c51 := nleI h40
            have g52 := rgI (s_notes - 1)
            first | have e53 := sbN s_notes 1 (1) (by decide) (by omega) (by omega) | skip
            refine Sf_rdI (by omega) (by omega) (fun v53_75 hv54 => ?_)
            have g55 := rgI v53_75
            have hmev53_75 := eqI hv54
            refine Sf_ite (fun h56 => ?_) (fun h56 => ?_)
            · skip
              have c57 := leI h56
              rw [f_X12_note_J59]
              refine Sf_wrI (by omega) (by omega) (fun g68_48 hw58 => ?_)
              refine Sf_wrI (by omega) (by omega) (fun g78_53 hw59 => ?_)
              refine Sf_wrI (by omega) (by omega) (fun g88_58 hw60 => ?_)
              refine Sf_nmI (fun v96_63 hv61 => ?_)
              have g62 := rgI (s_notes + 1)
              first | have e63 := adN s_notes 1 (1) (by decide) (by omega) (by omega) | skip
              have q64 := eqI hv61
              have g65 := rgI (v96_63 - 1)
              first | have e66 := sbN v96_63 1 (1) (by decide) (by omega) (by omega) | skip
              refine Sf_some (show (((v96_63 - 1).toInt = -1 ∧ v96_63.toInt = s_notes.toInt ∧ ¬ (0 ≤ p1.toInt ∧ p1.toInt ≤ 399 ∧ 0 ≤ p2.toInt ∧ p2.toInt ≤ 1439 ∧ 0 ≤ p3.toInt ∧ p3.toInt ≤ 3 ∧ s_notes.toInt < 40 ∧ (s_notes.toInt = 0 ∨ (s_noteDay (Int32.toNatClampNeg (s_notes - 1))).toInt ≤ p1.toInt)) ∧ g68_48 = s_noteDay ∧ g78_53 = s_noteMinute ∧ g88_58 = s_noteShape) ∨ ((v96_63 - 1).toInt = s_notes.toInt ∧ v96_63.toInt = s_notes.toInt + 1 ∧ (0 ≤ p1.toInt ∧ p1.toInt ≤ 399 ∧ 0 ≤ p2.toInt ∧ p2.toInt ≤ 1439 ∧ 0 ≤ p3.toInt ∧ p3.toInt ≤ 3 ∧ s_notes.toInt < 40 ∧ (s_notes.toInt = 0 ∨ (s_noteDay (Int32.toNatClampNeg (s_notes - 1))).toInt ≤ p1.toInt)) ∧ g68_48 = upd s_noteDay (Int32.toNatClampNeg s_notes) p1 ∧ g78_53 = upd s_noteMinute (Int32.toNatClampNeg s_notes) p2 ∧ g88_58 = upd s_noteShape (Int32.toNatClampNeg s_notes) p3)) from ?_)
              (first | (refine Or.inl ⟨?_, ?_, ?_, ?_, ?_, ?_⟩ <;> (first | omega | assumption | with_reducible rfl) <;> done) | (refine Or.inr ⟨?_, ?_, ?_, ?_, ?_, ?_⟩ <;> (first | omega | assumption | with_reducible rfl) <;> done))
            · skip
              have c67 := nleI h56
              have l68 : ((-1) : Int32).toInt = -1 := by decide
              refine Sf_some (show (((-1 : Int32).toInt = -1 ∧ s_notes.toInt = s_notes.toInt ∧ ¬ (0 ≤ p1.toInt ∧ p1.toInt ≤ 399 ∧ 0 ≤ p2.toInt ∧ p2.toInt ≤ 1439 ∧ 0 ≤ p3.toInt ∧ p3.toInt ≤ 3 ∧ s_notes.toInt < 40 ∧ (s_notes.toInt = 0 ∨ (s_noteDay (Int32.toNatClampNeg (s_notes - 1))).toInt ≤ p1.toInt)) ∧ s_noteDay = s_noteDay ∧ s_noteMinute = s_noteMinute ∧ s_noteShape = s_noteShape) ∨ ((-1 : Int32).toInt = s_notes.toInt ∧ s_notes.toInt = s_notes.toInt + 1 ∧ (0 ≤ p1.toInt ∧ p1.toInt ≤ 399 ∧ 0 ≤ p2.toInt ∧ p2.toInt ≤ 1439 ∧ 0 ≤ p3.toInt ∧ p3.toInt ≤ 3 ∧ s_notes.toInt < 40 ∧ (s_notes.toInt = 0 ∨ (s_noteDay (Int32.toNatClampNeg (s_notes - 1))).toInt ≤ p1.toInt)) ∧ s_noteDay = upd s_noteDay (Int32.toNatClampNeg s_notes) p1 ∧ s_noteMinute = upd s_noteMinute (Int32.toNatClampNeg s_notes) p2 ∧ s_noteShape = upd s_noteShape (Int32.toNatClampNeg s_notes) p3)) from ?_)
              (first | (refine Or.inl ⟨?_, ?_, ?_, ?_, ?_, ?_⟩ <;> (first | omega | assumption | with_reducible rfl) <;> done) | (refine Or.inr ⟨?_, ?_, ?_, ?_, ?_, ?_⟩ <;> (first | omega | assumption | with_reducible rfl) <;> done))
set_option maxHeartbeats 4000000 in
set_option maxRecDepth 100000 in
theorem e_X0_add (s_many : Int32) (s_times : Nat → Int32) (p1 : Int32) (hp0 : 0 ≤ s_many.toInt) (hp1 : s_many.toInt ≤ 40) : Sf (f_X0_add s_many s_times p1) (fun (y : Int32 × Int32 × (Nat → Int32)) => (((y.1).toInt = -1 ∧ (y.2.1).toInt = s_many.toInt ∧ ¬ (s_many.toInt < 40 ∧ (s_many.toInt = 0 ∨ (s_times (Int32.toNatClampNeg (s_many - 1))).toInt < p1.toInt)) ∧ (y.2.2) = s_times) ∨ ((y.1).toInt = s_many.toInt ∧ (y.2.1).toInt = s_many.toInt + 1 ∧ (s_many.toInt < 40 ∧ (s_many.toInt = 0 ∨ (s_times (Int32.toNatClampNeg (s_many - 1))).toInt < p1.toInt)) ∧ (y.2.2) = upd s_times (Int32.toNatClampNeg s_many) p1))) := by
  have g1 := rgI s_many
  have g2 := rgI p1
  have hFU : (100000 : Int) ≤ (FU : Int) := Int.ofNat_le.mpr FU_ge
  rw [f_X0_add]
  refine Sf_ite (fun h3 => ?_) (fun h3 => ?_)
  · skip
    have l4 : (40 : Int32).toInt = 40 := by decide
    have c5 := leI h3
    have l6 : ((-1) : Int32).toInt = -1 := by decide
    refine Sf_some (show (((-1 : Int32).toInt = -1 ∧ s_many.toInt = s_many.toInt ∧ ¬ (s_many.toInt < 40 ∧ (s_many.toInt = 0 ∨ (s_times (Int32.toNatClampNeg (s_many - 1))).toInt < p1.toInt)) ∧ s_times = s_times) ∨ ((-1 : Int32).toInt = s_many.toInt ∧ s_many.toInt = s_many.toInt + 1 ∧ (s_many.toInt < 40 ∧ (s_many.toInt = 0 ∨ (s_times (Int32.toNatClampNeg (s_many - 1))).toInt < p1.toInt)) ∧ s_times = upd s_times (Int32.toNatClampNeg s_many) p1)) from ?_)
    (first | (refine Or.inl ⟨?_, ?_, ?_, ?_⟩ <;> (first | omega | assumption | with_reducible rfl) <;> done) | (refine Or.inr ⟨?_, ?_, ?_, ?_⟩ <;> (first | omega | assumption | with_reducible rfl) <;> done))
  · skip
    have l7 : (40 : Int32).toInt = 40 := by decide
    have c8 := nleI h3
    refine Sf_ite (fun h9 => ?_) (fun h9 => ?_)
    · skip
      have l10 : (0 : Int32).toInt = 0 := by decide
      have c11 := leI h9
      rw [f_X0_add_J33]
      refine Sf_wrI (by omega) (by omega) (fun g42_7 hw12 => ?_)
      refine Sf_nmI (fun v50_12 hv13 => ?_)
      have g14 := rgI (s_many + 1)
      first | have e15 := adN s_many 1 (1) (by decide) (by omega) (by omega) | skip
      have q16 := eqI hv13
      have g17 := rgI (v50_12 - 1)
      first | have e18 := sbN v50_12 1 (1) (by decide) (by omega) (by omega) | skip
      refine Sf_some (show (((v50_12 - 1).toInt = -1 ∧ v50_12.toInt = s_many.toInt ∧ ¬ (s_many.toInt < 40 ∧ (s_many.toInt = 0 ∨ (s_times (Int32.toNatClampNeg (s_many - 1))).toInt < p1.toInt)) ∧ g42_7 = s_times) ∨ ((v50_12 - 1).toInt = s_many.toInt ∧ v50_12.toInt = s_many.toInt + 1 ∧ (s_many.toInt < 40 ∧ (s_many.toInt = 0 ∨ (s_times (Int32.toNatClampNeg (s_many - 1))).toInt < p1.toInt)) ∧ g42_7 = upd s_times (Int32.toNatClampNeg s_many) p1)) from ?_)
      (first | (refine Or.inl ⟨?_, ?_, ?_, ?_⟩ <;> (first | omega | assumption | with_reducible rfl) <;> done) | (refine Or.inr ⟨?_, ?_, ?_, ?_⟩ <;> (first | omega | assumption | with_reducible rfl) <;> done))
    · skip
      have l19 : (0 : Int32).toInt = 0 := by decide
      have c20 := nleI h9
      have g21 := rgI (s_many - 1)
      first | have e22 := sbN s_many 1 (1) (by decide) (by omega) (by omega) | skip
      refine Sf_rdI (by omega) (by omega) (fun v27_22 hv23 => ?_)
      have g24 := rgI v27_22
      have hmev27_22 := eqI hv23
      refine Sf_ite (fun h25 => ?_) (fun h25 => ?_)
      · skip
        have c26 := ltI h25
        rw [f_X0_add_J33]
        refine Sf_wrI (by omega) (by omega) (fun g42_7 hw27 => ?_)
        refine Sf_nmI (fun v50_12 hv28 => ?_)
        have g29 := rgI (s_many + 1)
        first | have e30 := adN s_many 1 (1) (by decide) (by omega) (by omega) | skip
        have q31 := eqI hv28
        have g32 := rgI (v50_12 - 1)
        first | have e33 := sbN v50_12 1 (1) (by decide) (by omega) (by omega) | skip
        refine Sf_some (show (((v50_12 - 1).toInt = -1 ∧ v50_12.toInt = s_many.toInt ∧ ¬ (s_many.toInt < 40 ∧ (s_many.toInt = 0 ∨ (s_times (Int32.toNatClampNeg (s_many - 1))).toInt < p1.toInt)) ∧ g42_7 = s_times) ∨ ((v50_12 - 1).toInt = s_many.toInt ∧ v50_12.toInt = s_many.toInt + 1 ∧ (s_many.toInt < 40 ∧ (s_many.toInt = 0 ∨ (s_times (Int32.toNatClampNeg (s_many - 1))).toInt < p1.toInt)) ∧ g42_7 = upd s_times (Int32.toNatClampNeg s_many) p1)) from ?_)
        (first | (refine Or.inl ⟨?_, ?_, ?_, ?_⟩ <;> (first | omega | assumption | with_reducible rfl) <;> done) | (refine Or.inr ⟨?_, ?_, ?_, ?_⟩ <;> (first | omega | assumption | with_reducible rfl) <;> done))
      · skip
        have c34 := nltI h25
        have l35 : ((-1) : Int32).toInt = -1 := by decide
        refine Sf_some (show (((-1 : Int32).toInt = -1 ∧ s_many.toInt = s_many.toInt ∧ ¬ (s_many.toInt < 40 ∧ (s_many.toInt = 0 ∨ (s_times (Int32.toNatClampNeg (s_many - 1))).toInt < p1.toInt)) ∧ s_times = s_times) ∨ ((-1 : Int32).toInt = s_many.toInt ∧ s_many.toInt = s_many.toInt + 1 ∧ (s_many.toInt < 40 ∧ (s_many.toInt = 0 ∨ (s_times (Int32.toNatClampNeg (s_many - 1))).toInt < p1.toInt)) ∧ s_times = upd s_times (Int32.toNatClampNeg s_many) p1)) from ?_)
        (first | (refine Or.inl ⟨?_, ?_, ?_, ?_⟩ <;> (first | omega | assumption | with_reducible rfl) <;> done) | (refine Or.inr ⟨?_, ?_, ?_, ?_⟩ <;> (first | omega | assumption | with_reducible rfl) <;> done))
set_option maxHeartbeats 4000000 in
set_option maxRecDepth 100000 in
theorem e_X11_blip (s_blips_many : Int32) (s_blips_times : Nat → Int32) (p1 : Int32) (hp0 : 0 ≤ s_blips_many.toInt) (hp1 : s_blips_many.toInt ≤ 40) : Sf (f_X11_blip s_blips_many s_blips_times p1) (fun (y : Int32 × Int32 × (Nat → Int32)) => (((y.1).toInt = -1 ∧ (y.2.1).toInt = s_blips_many.toInt ∧ ¬ (0 ≤ p1.toInt ∧ p1.toInt ≤ 1000000000 ∧ s_blips_many.toInt < 40 ∧ (s_blips_many.toInt = 0 ∨ (s_blips_times (Int32.toNatClampNeg (s_blips_many - 1))).toInt < p1.toInt)) ∧ (y.2.2) = s_blips_times) ∨ ((y.1).toInt = s_blips_many.toInt ∧ (y.2.1).toInt = s_blips_many.toInt + 1 ∧ (0 ≤ p1.toInt ∧ p1.toInt ≤ 1000000000 ∧ s_blips_many.toInt < 40 ∧ (s_blips_many.toInt = 0 ∨ (s_blips_times (Int32.toNatClampNeg (s_blips_many - 1))).toInt < p1.toInt)) ∧ (y.2.2) = upd s_blips_times (Int32.toNatClampNeg s_blips_many) p1))) := by
  have g1 := rgI s_blips_many
  have g2 := rgI p1
  have hFU : (100000 : Int) ≤ (FU : Int) := Int.ofNat_le.mpr FU_ge
  rw [f_X11_blip]
  have l3 : (0 : Int32).toInt = 0 := by decide
  have l4 : (1000000000 : Int32).toInt = 1000000000 := by decide
  refine Sf_cb1 (s_X11_isWithin p1 0 1000000000 ) (fun r4_1 hp5 => ?_)
  have hp5 : ((r4_1.toInt = 0 ∨ r4_1.toInt = 1)) ∧ ((r4_1.toInt = 1 ∧ (0 : Int32).toInt ≤ p1.toInt ∧ p1.toInt ≤ (1000000000 : Int32).toInt) ∨ (r4_1.toInt = 0 ∧ (p1.toInt < (0 : Int32).toInt ∨ (1000000000 : Int32).toInt < p1.toInt))) := hp5
  obtain ⟨hq6, hq7⟩ := hp5
  have g8 := rgI r4_1
  refine Sf_ite (fun h9 => ?_) (fun h9 => ?_)
  · skip
    have c10 := eqI h9
    have l11 : ((-1) : Int32).toInt = -1 := by decide
    refine Sf_some (show (((-1 : Int32).toInt = -1 ∧ s_blips_many.toInt = s_blips_many.toInt ∧ ¬ (0 ≤ p1.toInt ∧ p1.toInt ≤ 1000000000 ∧ s_blips_many.toInt < 40 ∧ (s_blips_many.toInt = 0 ∨ (s_blips_times (Int32.toNatClampNeg (s_blips_many - 1))).toInt < p1.toInt)) ∧ s_blips_times = s_blips_times) ∨ ((-1 : Int32).toInt = s_blips_many.toInt ∧ s_blips_many.toInt = s_blips_many.toInt + 1 ∧ (0 ≤ p1.toInt ∧ p1.toInt ≤ 1000000000 ∧ s_blips_many.toInt < 40 ∧ (s_blips_many.toInt = 0 ∨ (s_blips_times (Int32.toNatClampNeg (s_blips_many - 1))).toInt < p1.toInt)) ∧ s_blips_times = upd s_blips_times (Int32.toNatClampNeg s_blips_many) p1)) from ?_)
    ((first | (refine Or.inl ⟨?_, ?_, ?_, ?_⟩ <;> (first | omega | assumption | with_reducible rfl) <;> done) | (rcases hp_ with ⟨c0, c1, c2, c3⟩ | ⟨c0, c1, c2, c3⟩; exact Or.inl (by refine ⟨?_, ?_, ?_, ?_⟩ <;> (first | omega | assumption | with_reducible rfl)); exact Or.inr (by refine ⟨?_, ?_, ?_, ?_⟩ <;> (first | omega | assumption | with_reducible rfl)))))
  · skip
    have c12 := neI h9
    refine Sf_cb3 (e_X0_add s_blips_many s_blips_times p1 (by omega) (by omega)) (fun r15_12 o_many15_13 o_times15_14 hp13 => ?_)
    have hp13 : ((r15_12.toInt = -1 ∧ o_many15_13.toInt = s_blips_many.toInt ∧ ¬ (s_blips_many.toInt < 40 ∧ (s_blips_many.toInt = 0 ∨ (s_blips_times (Int32.toNatClampNeg (s_blips_many - 1))).toInt < p1.toInt)) ∧ o_times15_14 = s_blips_times) ∨ (r15_12.toInt = s_blips_many.toInt ∧ o_many15_13.toInt = s_blips_many.toInt + 1 ∧ (s_blips_many.toInt < 40 ∧ (s_blips_many.toInt = 0 ∨ (s_blips_times (Int32.toNatClampNeg (s_blips_many - 1))).toInt < p1.toInt)) ∧ o_times15_14 = upd s_blips_times (Int32.toNatClampNeg s_blips_many) p1)) := hp13
    have hp_ := hp13
    have g14 := rgI r15_12
    have g15 := rgI o_many15_13
    refine Sf_some (show ((r15_12.toInt = -1 ∧ o_many15_13.toInt = s_blips_many.toInt ∧ ¬ (0 ≤ p1.toInt ∧ p1.toInt ≤ 1000000000 ∧ s_blips_many.toInt < 40 ∧ (s_blips_many.toInt = 0 ∨ (s_blips_times (Int32.toNatClampNeg (s_blips_many - 1))).toInt < p1.toInt)) ∧ o_times15_14 = s_blips_times) ∨ (r15_12.toInt = s_blips_many.toInt ∧ o_many15_13.toInt = s_blips_many.toInt + 1 ∧ (0 ≤ p1.toInt ∧ p1.toInt ≤ 1000000000 ∧ s_blips_many.toInt < 40 ∧ (s_blips_many.toInt = 0 ∨ (s_blips_times (Int32.toNatClampNeg (s_blips_many - 1))).toInt < p1.toInt)) ∧ o_times15_14 = upd s_blips_times (Int32.toNatClampNeg s_blips_many) p1)) from ?_)
    ((first | (refine Or.inl ⟨?_, ?_, ?_, ?_⟩ <;> (first | omega | assumption | with_reducible rfl) <;> done) | (rcases hp_ with ⟨c0, c1, c2, c3⟩ | ⟨c0, c1, c2, c3⟩; exact Or.inl (by refine ⟨?_, ?_, ?_, ?_⟩ <;> (first | omega | assumption | with_reducible rfl)); exact Or.inr (by refine ⟨?_, ?_, ?_, ?_⟩ <;> (first | omega | assumption | with_reducible rfl)))))
set_option maxHeartbeats 4000000 in
set_option maxRecDepth 100000 in
theorem e_X12_blip (s_blips : Int32) (s_time : Nat → Int32) (p1 : Int32) (hp0 : 0 ≤ s_blips.toInt) (hp1 : s_blips.toInt ≤ 40) : Sf (f_X12_blip s_blips s_time p1) (fun (y : Int32 × Int32 × (Nat → Int32)) => (((y.1).toInt = -1 ∧ (y.2.1).toInt = s_blips.toInt ∧ ¬ (0 ≤ p1.toInt ∧ p1.toInt ≤ 1000000000 ∧ s_blips.toInt < 40 ∧ (s_blips.toInt = 0 ∨ (s_time (Int32.toNatClampNeg (s_blips - 1))).toInt < p1.toInt)) ∧ (y.2.2) = s_time) ∨ ((y.1).toInt = s_blips.toInt ∧ (y.2.1).toInt = s_blips.toInt + 1 ∧ (0 ≤ p1.toInt ∧ p1.toInt ≤ 1000000000 ∧ s_blips.toInt < 40 ∧ (s_blips.toInt = 0 ∨ (s_time (Int32.toNatClampNeg (s_blips - 1))).toInt < p1.toInt)) ∧ (y.2.2) = upd s_time (Int32.toNatClampNeg s_blips) p1))) := by
  have g1 := rgI s_blips
  have g2 := rgI p1
  have hFU : (100000 : Int) ≤ (FU : Int) := Int.ofNat_le.mpr FU_ge
  rw [f_X12_blip]
  refine Sf_ite (fun h3 => ?_) (fun h3 => ?_)
  · skip
    have l4 : (40 : Int32).toInt = 40 := by decide
    have c5 := eqI h3
    have l6 : ((-1) : Int32).toInt = -1 := by decide
    refine Sf_some (show (((-1 : Int32).toInt = -1 ∧ s_blips.toInt = s_blips.toInt ∧ ¬ (0 ≤ p1.toInt ∧ p1.toInt ≤ 1000000000 ∧ s_blips.toInt < 40 ∧ (s_blips.toInt = 0 ∨ (s_time (Int32.toNatClampNeg (s_blips - 1))).toInt < p1.toInt)) ∧ s_time = s_time) ∨ ((-1 : Int32).toInt = s_blips.toInt ∧ s_blips.toInt = s_blips.toInt + 1 ∧ (0 ≤ p1.toInt ∧ p1.toInt ≤ 1000000000 ∧ s_blips.toInt < 40 ∧ (s_blips.toInt = 0 ∨ (s_time (Int32.toNatClampNeg (s_blips - 1))).toInt < p1.toInt)) ∧ s_time = upd s_time (Int32.toNatClampNeg s_blips) p1)) from ?_)
    (first | (refine Or.inl ⟨?_, ?_, ?_, ?_⟩ <;> (first | omega | assumption | with_reducible rfl) <;> done) | (refine Or.inr ⟨?_, ?_, ?_, ?_⟩ <;> (first | omega | assumption | with_reducible rfl) <;> done))
  · skip
    have l7 : (40 : Int32).toInt = 40 := by decide
    have c8 := neI h3
    have t9 := t64 p1
    have l10 : (0 : Int64).toInt = 0 := by decide
    have l11 : (1000000000 : Int64).toInt = 1000000000 := by decide
    refine Sf_cb1 (s_X12_lies (Int32.toInt64 p1) 0 1000000000 ) (fun r15_7 hp12 => ?_)
    have hp12 : ((r15_7.toInt = 0 ∨ r15_7.toInt = 1)) ∧ ((r15_7.toInt = 1 ∧ (0 : Int64).toInt ≤ (Int32.toInt64 p1).toInt ∧ (Int32.toInt64 p1).toInt ≤ (1000000000 : Int64).toInt) ∨ (r15_7.toInt = 0 ∧ ((Int32.toInt64 p1).toInt < (0 : Int64).toInt ∨ (1000000000 : Int64).toInt < (Int32.toInt64 p1).toInt))) := hp12
    obtain ⟨hq13, hq14⟩ := hp12
    have g15 := rgI r15_7
    refine Sf_ite (fun h16 => ?_) (fun h16 => ?_)
    · skip
      have l17 : (0 : Int32).toInt = 0 := by decide
      have c18 := eqI h16
      have l19 : ((-1) : Int32).toInt = -1 := by decide
      refine Sf_some (show (((-1 : Int32).toInt = -1 ∧ s_blips.toInt = s_blips.toInt ∧ ¬ (0 ≤ p1.toInt ∧ p1.toInt ≤ 1000000000 ∧ s_blips.toInt < 40 ∧ (s_blips.toInt = 0 ∨ (s_time (Int32.toNatClampNeg (s_blips - 1))).toInt < p1.toInt)) ∧ s_time = s_time) ∨ ((-1 : Int32).toInt = s_blips.toInt ∧ s_blips.toInt = s_blips.toInt + 1 ∧ (0 ≤ p1.toInt ∧ p1.toInt ≤ 1000000000 ∧ s_blips.toInt < 40 ∧ (s_blips.toInt = 0 ∨ (s_time (Int32.toNatClampNeg (s_blips - 1))).toInt < p1.toInt)) ∧ s_time = upd s_time (Int32.toNatClampNeg s_blips) p1)) from ?_)
      (first | (refine Or.inl ⟨?_, ?_, ?_, ?_⟩ <;> (first | omega | assumption | with_reducible rfl) <;> done) | (refine Or.inr ⟨?_, ?_, ?_, ?_⟩ <;> (first | omega | assumption | with_reducible rfl) <;> done))
    · skip
      have l20 : (0 : Int32).toInt = 0 := by decide
      have c21 := neI h16
      refine Sf_ite (fun h22 => ?_) (fun h22 => ?_)
      · skip
        have c23 := leI h22
        rw [f_X12_blip_J45]
        refine Sf_wrI (by omega) (by omega) (fun g54_18 hw24 => ?_)
        refine Sf_nmI (fun v62_23 hv25 => ?_)
        have g26 := rgI (s_blips + 1)
        first | have e27 := adN s_blips 1 (1) (by decide) (by omega) (by omega) | skip
        have q28 := eqI hv25
        have g29 := rgI (v62_23 - 1)
        first | have e30 := sbN v62_23 1 (1) (by decide) (by omega) (by omega) | skip
        refine Sf_some (show (((v62_23 - 1).toInt = -1 ∧ v62_23.toInt = s_blips.toInt ∧ ¬ (0 ≤ p1.toInt ∧ p1.toInt ≤ 1000000000 ∧ s_blips.toInt < 40 ∧ (s_blips.toInt = 0 ∨ (s_time (Int32.toNatClampNeg (s_blips - 1))).toInt < p1.toInt)) ∧ g54_18 = s_time) ∨ ((v62_23 - 1).toInt = s_blips.toInt ∧ v62_23.toInt = s_blips.toInt + 1 ∧ (0 ≤ p1.toInt ∧ p1.toInt ≤ 1000000000 ∧ s_blips.toInt < 40 ∧ (s_blips.toInt = 0 ∨ (s_time (Int32.toNatClampNeg (s_blips - 1))).toInt < p1.toInt)) ∧ g54_18 = upd s_time (Int32.toNatClampNeg s_blips) p1)) from ?_)
        (first | (refine Or.inl ⟨?_, ?_, ?_, ?_⟩ <;> (first | omega | assumption | with_reducible rfl) <;> done) | (refine Or.inr ⟨?_, ?_, ?_, ?_⟩ <;> (first | omega | assumption | with_reducible rfl) <;> done))
      · skip
        have c31 := nleI h22
        have g32 := rgI (s_blips - 1)
        first | have e33 := sbN s_blips 1 (1) (by decide) (by omega) (by omega) | skip
        refine Sf_rdI (by omega) (by omega) (fun v39_33 hv34 => ?_)
        have g35 := rgI v39_33
        have hmev39_33 := eqI hv34
        refine Sf_ite (fun h36 => ?_) (fun h36 => ?_)
        · skip
          have c37 := ltI h36
          rw [f_X12_blip_J45]
          refine Sf_wrI (by omega) (by omega) (fun g54_18 hw38 => ?_)
          refine Sf_nmI (fun v62_23 hv39 => ?_)
          have g40 := rgI (s_blips + 1)
          first | have e41 := adN s_blips 1 (1) (by decide) (by omega) (by omega) | skip
          have q42 := eqI hv39
          have g43 := rgI (v62_23 - 1)
          first | have e44 := sbN v62_23 1 (1) (by decide) (by omega) (by omega) | skip
          refine Sf_some (show (((v62_23 - 1).toInt = -1 ∧ v62_23.toInt = s_blips.toInt ∧ ¬ (0 ≤ p1.toInt ∧ p1.toInt ≤ 1000000000 ∧ s_blips.toInt < 40 ∧ (s_blips.toInt = 0 ∨ (s_time (Int32.toNatClampNeg (s_blips - 1))).toInt < p1.toInt)) ∧ g54_18 = s_time) ∨ ((v62_23 - 1).toInt = s_blips.toInt ∧ v62_23.toInt = s_blips.toInt + 1 ∧ (0 ≤ p1.toInt ∧ p1.toInt ≤ 1000000000 ∧ s_blips.toInt < 40 ∧ (s_blips.toInt = 0 ∨ (s_time (Int32.toNatClampNeg (s_blips - 1))).toInt < p1.toInt)) ∧ g54_18 = upd s_time (Int32.toNatClampNeg s_blips) p1)) from ?_)
          (first | (refine Or.inl ⟨?_, ?_, ?_, ?_⟩ <;> (first | omega | assumption | with_reducible rfl) <;> done) | (refine Or.inr ⟨?_, ?_, ?_, ?_⟩ <;> (first | omega | assumption | with_reducible rfl) <;> done))
        · skip
          have c45 := nltI h36
          have l46 : ((-1) : Int32).toInt = -1 := by decide
          refine Sf_some (show (((-1 : Int32).toInt = -1 ∧ s_blips.toInt = s_blips.toInt ∧ ¬ (0 ≤ p1.toInt ∧ p1.toInt ≤ 1000000000 ∧ s_blips.toInt < 40 ∧ (s_blips.toInt = 0 ∨ (s_time (Int32.toNatClampNeg (s_blips - 1))).toInt < p1.toInt)) ∧ s_time = s_time) ∨ ((-1 : Int32).toInt = s_blips.toInt ∧ s_blips.toInt = s_blips.toInt + 1 ∧ (0 ≤ p1.toInt ∧ p1.toInt ≤ 1000000000 ∧ s_blips.toInt < 40 ∧ (s_blips.toInt = 0 ∨ (s_time (Int32.toNatClampNeg (s_blips - 1))).toInt < p1.toInt)) ∧ s_time = upd s_time (Int32.toNatClampNeg s_blips) p1)) from ?_)
          (first | (refine Or.inl ⟨?_, ?_, ?_, ?_⟩ <;> (first | omega | assumption | with_reducible rfl) <;> done) | (refine Or.inr ⟨?_, ?_, ?_, ?_⟩ <;> (first | omega | assumption | with_reducible rfl) <;> done))
set_option maxHeartbeats 4000000 in
set_option maxRecDepth 100000 in
theorem e_X2_add (s_many : Int32) (s_days : Nat → Int32) (s_shifts : Nat → Int32) (p1 : Int32) (p2 : Int32) (hp0 : 0 ≤ s_many.toInt) (hp1 : s_many.toInt ≤ 30) : Sf (f_X2_add s_many s_days s_shifts p1 p2) (fun (y : Int32 × Int32 × (Nat → Int32) × (Nat → Int32)) => (((y.1).toInt = -1 ∧ (y.2.1).toInt = s_many.toInt ∧ ¬ (s_many.toInt < 30) ∧ (y.2.2.1) = s_days ∧ (y.2.2.2) = s_shifts) ∨ ((y.1).toInt = s_many.toInt ∧ (y.2.1).toInt = s_many.toInt + 1 ∧ (s_many.toInt < 30) ∧ (y.2.2.1) = upd s_days (Int32.toNatClampNeg s_many) p1 ∧ (y.2.2.2) = upd s_shifts (Int32.toNatClampNeg s_many) p2))) := by
  have g1 := rgI s_many
  have g2 := rgI p1
  have g3 := rgI p2
  have hFU : (100000 : Int) ≤ (FU : Int) := Int.ofNat_le.mpr FU_ge
  rw [f_X2_add]
  refine Sf_ite (fun h4 => ?_) (fun h4 => ?_)
  · skip
    have l5 : (30 : Int32).toInt = 30 := by decide
    have c6 := ltI h4
    refine Sf_wrI (by omega) (by omega) (fun g20_4 hw7 => ?_)
    refine Sf_wrI (by omega) (by omega) (fun g30_9 hw8 => ?_)
    refine Sf_nmI (fun v38_14 hv9 => ?_)
    have g10 := rgI (s_many + 1)
    first | have e11 := adN s_many 1 (1) (by decide) (by omega) (by omega) | skip
    have q12 := eqI hv9
    have g13 := rgI (v38_14 - 1)
    first | have e14 := sbN v38_14 1 (1) (by decide) (by omega) (by omega) | skip
    refine Sf_some (show (((v38_14 - 1).toInt = -1 ∧ v38_14.toInt = s_many.toInt ∧ ¬ (s_many.toInt < 30) ∧ g20_4 = s_days ∧ g30_9 = s_shifts) ∨ ((v38_14 - 1).toInt = s_many.toInt ∧ v38_14.toInt = s_many.toInt + 1 ∧ (s_many.toInt < 30) ∧ g20_4 = upd s_days (Int32.toNatClampNeg s_many) p1 ∧ g30_9 = upd s_shifts (Int32.toNatClampNeg s_many) p2)) from ?_)
    (first | (refine Or.inl ⟨?_, ?_, ?_, ?_, ?_⟩ <;> (first | omega | assumption | with_reducible rfl) <;> done) | (refine Or.inr ⟨?_, ?_, ?_, ?_, ?_⟩ <;> (first | omega | assumption | with_reducible rfl) <;> done))
  · skip
    have l15 : (30 : Int32).toInt = 30 := by decide
    have c16 := nltI h4
    have l17 : ((-1) : Int32).toInt = -1 := by decide
    refine Sf_some (show (((-1 : Int32).toInt = -1 ∧ s_many.toInt = s_many.toInt ∧ ¬ (s_many.toInt < 30) ∧ s_days = s_days ∧ s_shifts = s_shifts) ∨ ((-1 : Int32).toInt = s_many.toInt ∧ s_many.toInt = s_many.toInt + 1 ∧ (s_many.toInt < 30) ∧ s_days = upd s_days (Int32.toNatClampNeg s_many) p1 ∧ s_shifts = upd s_shifts (Int32.toNatClampNeg s_many) p2)) from ?_)
    (first | (refine Or.inl ⟨?_, ?_, ?_, ?_, ?_⟩ <;> (first | omega | assumption | with_reducible rfl) <;> done) | (refine Or.inr ⟨?_, ?_, ?_, ?_, ?_⟩ <;> (first | omega | assumption | with_reducible rfl) <;> done))
set_option maxHeartbeats 4000000 in
set_option maxRecDepth 100000 in
theorem e_X11_night (s_nights_many : Int32) (s_nights_days : Nat → Int32) (s_nights_shifts : Nat → Int32) (p1 : Int32) (p2 : Int32) (hp0 : 0 ≤ s_nights_many.toInt) (hp1 : s_nights_many.toInt ≤ 30) : Sf (f_X11_night s_nights_many s_nights_days s_nights_shifts p1 p2) (fun (y : Int32 × Int32 × (Nat → Int32) × (Nat → Int32)) => (((y.1).toInt = -1 ∧ (y.2.1).toInt = s_nights_many.toInt ∧ ¬ (0 ≤ p1.toInt ∧ p1.toInt ≤ 399 ∧ -100000 ≤ p2.toInt ∧ p2.toInt ≤ 100000 ∧ s_nights_many.toInt < 30) ∧ (y.2.2.1) = s_nights_days ∧ (y.2.2.2) = s_nights_shifts) ∨ ((y.1).toInt = s_nights_many.toInt ∧ (y.2.1).toInt = s_nights_many.toInt + 1 ∧ (0 ≤ p1.toInt ∧ p1.toInt ≤ 399 ∧ -100000 ≤ p2.toInt ∧ p2.toInt ≤ 100000 ∧ s_nights_many.toInt < 30) ∧ (y.2.2.1) = upd s_nights_days (Int32.toNatClampNeg s_nights_many) p1 ∧ (y.2.2.2) = upd s_nights_shifts (Int32.toNatClampNeg s_nights_many) p2))) := by
  have g1 := rgI s_nights_many
  have g2 := rgI p1
  have g3 := rgI p2
  have hFU : (100000 : Int) ≤ (FU : Int) := Int.ofNat_le.mpr FU_ge
  rw [f_X11_night]
  refine Sf_cb1 (s_X11_isDay p1 ) (fun r1_1 hp4 => ?_)
  have hp4 : ((r1_1.toInt = 0 ∨ r1_1.toInt = 1)) ∧ ((r1_1.toInt = 1 ∧ 0 ≤ p1.toInt ∧ p1.toInt ≤ 399) ∨ (r1_1.toInt = 0 ∧ (p1.toInt < 0 ∨ 399 < p1.toInt))) := hp4
  obtain ⟨hq5, hq6⟩ := hp4
  have g7 := rgI r1_1
  refine Sf_ite (fun h8 => ?_) (fun h8 => ?_)
  · skip
    have l9 : (0 : Int32).toInt = 0 := by decide
    have c10 := eqI h8
    have l11 : ((-1) : Int32).toInt = -1 := by decide
    refine Sf_some (show (((-1 : Int32).toInt = -1 ∧ s_nights_many.toInt = s_nights_many.toInt ∧ ¬ (0 ≤ p1.toInt ∧ p1.toInt ≤ 399 ∧ -100000 ≤ p2.toInt ∧ p2.toInt ≤ 100000 ∧ s_nights_many.toInt < 30) ∧ s_nights_days = s_nights_days ∧ s_nights_shifts = s_nights_shifts) ∨ ((-1 : Int32).toInt = s_nights_many.toInt ∧ s_nights_many.toInt = s_nights_many.toInt + 1 ∧ (0 ≤ p1.toInt ∧ p1.toInt ≤ 399 ∧ -100000 ≤ p2.toInt ∧ p2.toInt ≤ 100000 ∧ s_nights_many.toInt < 30) ∧ s_nights_days = upd s_nights_days (Int32.toNatClampNeg s_nights_many) p1 ∧ s_nights_shifts = upd s_nights_shifts (Int32.toNatClampNeg s_nights_many) p2)) from ?_)
    ((first | (refine Or.inl ⟨?_, ?_, ?_, ?_, ?_⟩ <;> (first | omega | assumption | with_reducible rfl) <;> done) | (rcases hp_ with ⟨c0, c1, c2, c3, c4⟩ | ⟨c0, c1, c2, c3, c4⟩; exact Or.inl (by refine ⟨?_, ?_, ?_, ?_, ?_⟩ <;> (first | omega | assumption | with_reducible rfl)); exact Or.inr (by refine ⟨?_, ?_, ?_, ?_, ?_⟩ <;> (first | omega | assumption | with_reducible rfl)))))
  · skip
    have l12 : (0 : Int32).toInt = 0 := by decide
    have c13 := neI h8
    have l14 : ((-100000) : Int32).toInt = -100000 := by decide
    have l15 : (100000 : Int32).toInt = 100000 := by decide
    refine Sf_cb1 (s_X11_isWithin p2 (-100000) 100000 ) (fun r12_13 hp16 => ?_)
    have hp16 : ((r12_13.toInt = 0 ∨ r12_13.toInt = 1)) ∧ ((r12_13.toInt = 1 ∧ (-100000 : Int32).toInt ≤ p2.toInt ∧ p2.toInt ≤ (100000 : Int32).toInt) ∨ (r12_13.toInt = 0 ∧ (p2.toInt < (-100000 : Int32).toInt ∨ (100000 : Int32).toInt < p2.toInt))) := hp16
    obtain ⟨hq17, hq18⟩ := hp16
    have g19 := rgI r12_13
    refine Sf_ite (fun h20 => ?_) (fun h20 => ?_)
    · skip
      have c21 := eqI h20
      have l22 : ((-1) : Int32).toInt = -1 := by decide
      refine Sf_some (show (((-1 : Int32).toInt = -1 ∧ s_nights_many.toInt = s_nights_many.toInt ∧ ¬ (0 ≤ p1.toInt ∧ p1.toInt ≤ 399 ∧ -100000 ≤ p2.toInt ∧ p2.toInt ≤ 100000 ∧ s_nights_many.toInt < 30) ∧ s_nights_days = s_nights_days ∧ s_nights_shifts = s_nights_shifts) ∨ ((-1 : Int32).toInt = s_nights_many.toInt ∧ s_nights_many.toInt = s_nights_many.toInt + 1 ∧ (0 ≤ p1.toInt ∧ p1.toInt ≤ 399 ∧ -100000 ≤ p2.toInt ∧ p2.toInt ≤ 100000 ∧ s_nights_many.toInt < 30) ∧ s_nights_days = upd s_nights_days (Int32.toNatClampNeg s_nights_many) p1 ∧ s_nights_shifts = upd s_nights_shifts (Int32.toNatClampNeg s_nights_many) p2)) from ?_)
      ((first | (refine Or.inl ⟨?_, ?_, ?_, ?_, ?_⟩ <;> (first | omega | assumption | with_reducible rfl) <;> done) | (rcases hp_ with ⟨c0, c1, c2, c3, c4⟩ | ⟨c0, c1, c2, c3, c4⟩; exact Or.inl (by refine ⟨?_, ?_, ?_, ?_, ?_⟩ <;> (first | omega | assumption | with_reducible rfl)); exact Or.inr (by refine ⟨?_, ?_, ?_, ?_, ?_⟩ <;> (first | omega | assumption | with_reducible rfl)))))
    · skip
      have c23 := neI h20
      refine Sf_cb4 (e_X2_add s_nights_many s_nights_days s_nights_shifts p1 p2 (by omega) (by omega)) (fun r24_25 o_many24_26 o_days24_27 o_shifts24_28 hp24 => ?_)
      have hp24 : ((r24_25.toInt = -1 ∧ o_many24_26.toInt = s_nights_many.toInt ∧ ¬ (s_nights_many.toInt < 30) ∧ o_days24_27 = s_nights_days ∧ o_shifts24_28 = s_nights_shifts) ∨ (r24_25.toInt = s_nights_many.toInt ∧ o_many24_26.toInt = s_nights_many.toInt + 1 ∧ (s_nights_many.toInt < 30) ∧ o_days24_27 = upd s_nights_days (Int32.toNatClampNeg s_nights_many) p1 ∧ o_shifts24_28 = upd s_nights_shifts (Int32.toNatClampNeg s_nights_many) p2)) := hp24
      have hp_ := hp24
      have g25 := rgI r24_25
      have g26 := rgI o_many24_26
      refine Sf_some (show ((r24_25.toInt = -1 ∧ o_many24_26.toInt = s_nights_many.toInt ∧ ¬ (0 ≤ p1.toInt ∧ p1.toInt ≤ 399 ∧ -100000 ≤ p2.toInt ∧ p2.toInt ≤ 100000 ∧ s_nights_many.toInt < 30) ∧ o_days24_27 = s_nights_days ∧ o_shifts24_28 = s_nights_shifts) ∨ (r24_25.toInt = s_nights_many.toInt ∧ o_many24_26.toInt = s_nights_many.toInt + 1 ∧ (0 ≤ p1.toInt ∧ p1.toInt ≤ 399 ∧ -100000 ≤ p2.toInt ∧ p2.toInt ≤ 100000 ∧ s_nights_many.toInt < 30) ∧ o_days24_27 = upd s_nights_days (Int32.toNatClampNeg s_nights_many) p1 ∧ o_shifts24_28 = upd s_nights_shifts (Int32.toNatClampNeg s_nights_many) p2)) from ?_)
      ((first | (refine Or.inl ⟨?_, ?_, ?_, ?_, ?_⟩ <;> (first | omega | assumption | with_reducible rfl) <;> done) | (rcases hp_ with ⟨c0, c1, c2, c3, c4⟩ | ⟨c0, c1, c2, c3, c4⟩; exact Or.inl (by refine ⟨?_, ?_, ?_, ?_, ?_⟩ <;> (first | omega | assumption | with_reducible rfl)); exact Or.inr (by refine ⟨?_, ?_, ?_, ?_, ?_⟩ <;> (first | omega | assumption | with_reducible rfl)))))
set_option maxHeartbeats 4000000 in
set_option maxRecDepth 100000 in
theorem e_X12_night (s_nights : Int32) (s_found : Nat → Int32) (s_nightDay : Nat → Int32) (p1 : Int32) (p2 : Int32) (hp0 : 0 ≤ s_nights.toInt) (hp1 : s_nights.toInt ≤ 30) : Sf (f_X12_night s_nights s_found s_nightDay p1 p2) (fun (y : Int32 × Int32 × (Nat → Int32) × (Nat → Int32)) => (((y.1).toInt = -1 ∧ (y.2.1).toInt = s_nights.toInt ∧ ¬ (0 ≤ p1.toInt ∧ p1.toInt ≤ 399 ∧ -100000 ≤ p2.toInt ∧ p2.toInt ≤ 100000 ∧ s_nights.toInt < 30) ∧ (y.2.2.2) = s_nightDay ∧ (y.2.2.1) = s_found) ∨ ((y.1).toInt = s_nights.toInt ∧ (y.2.1).toInt = s_nights.toInt + 1 ∧ (0 ≤ p1.toInt ∧ p1.toInt ≤ 399 ∧ -100000 ≤ p2.toInt ∧ p2.toInt ≤ 100000 ∧ s_nights.toInt < 30) ∧ (y.2.2.2) = upd s_nightDay (Int32.toNatClampNeg s_nights) p1 ∧ (y.2.2.1) = upd s_found (Int32.toNatClampNeg s_nights) p2))) := by
  have g1 := rgI s_nights
  have g2 := rgI p1
  have g3 := rgI p2
  have hFU : (100000 : Int) ≤ (FU : Int) := Int.ofNat_le.mpr FU_ge
  rw [f_X12_night]
  refine Sf_ite (fun h4 => ?_) (fun h4 => ?_)
  · skip
    have l5 : (30 : Int32).toInt = 30 := by decide
    have c6 := eqI h4
    have l7 : ((-1) : Int32).toInt = -1 := by decide
    refine Sf_some (show (((-1 : Int32).toInt = -1 ∧ s_nights.toInt = s_nights.toInt ∧ ¬ (0 ≤ p1.toInt ∧ p1.toInt ≤ 399 ∧ -100000 ≤ p2.toInt ∧ p2.toInt ≤ 100000 ∧ s_nights.toInt < 30) ∧ s_nightDay = s_nightDay ∧ s_found = s_found) ∨ ((-1 : Int32).toInt = s_nights.toInt ∧ s_nights.toInt = s_nights.toInt + 1 ∧ (0 ≤ p1.toInt ∧ p1.toInt ≤ 399 ∧ -100000 ≤ p2.toInt ∧ p2.toInt ≤ 100000 ∧ s_nights.toInt < 30) ∧ s_nightDay = upd s_nightDay (Int32.toNatClampNeg s_nights) p1 ∧ s_found = upd s_found (Int32.toNatClampNeg s_nights) p2)) from ?_)
    (first | (refine Or.inl ⟨?_, ?_, ?_, ?_, ?_⟩ <;> (first | omega | assumption | with_reducible rfl) <;> done) | (refine Or.inr ⟨?_, ?_, ?_, ?_, ?_⟩ <;> (first | omega | assumption | with_reducible rfl) <;> done))
  · skip
    have l8 : (30 : Int32).toInt = 30 := by decide
    have c9 := neI h4
    refine Sf_cb1 (s_X12_isDay p1 ) (fun r10_8 hp10 => ?_)
    have hp10 : ((r10_8.toInt = 0 ∨ r10_8.toInt = 1)) ∧ ((r10_8.toInt = 1 ∧ 0 ≤ p1.toInt ∧ p1.toInt ≤ 399) ∨ (r10_8.toInt = 0 ∧ (p1.toInt < 0 ∨ 399 < p1.toInt))) := hp10
    obtain ⟨hq11, hq12⟩ := hp10
    have g13 := rgI r10_8
    refine Sf_ite (fun h14 => ?_) (fun h14 => ?_)
    · skip
      have l15 : (0 : Int32).toInt = 0 := by decide
      have c16 := eqI h14
      have l17 : ((-1) : Int32).toInt = -1 := by decide
      refine Sf_some (show (((-1 : Int32).toInt = -1 ∧ s_nights.toInt = s_nights.toInt ∧ ¬ (0 ≤ p1.toInt ∧ p1.toInt ≤ 399 ∧ -100000 ≤ p2.toInt ∧ p2.toInt ≤ 100000 ∧ s_nights.toInt < 30) ∧ s_nightDay = s_nightDay ∧ s_found = s_found) ∨ ((-1 : Int32).toInt = s_nights.toInt ∧ s_nights.toInt = s_nights.toInt + 1 ∧ (0 ≤ p1.toInt ∧ p1.toInt ≤ 399 ∧ -100000 ≤ p2.toInt ∧ p2.toInt ≤ 100000 ∧ s_nights.toInt < 30) ∧ s_nightDay = upd s_nightDay (Int32.toNatClampNeg s_nights) p1 ∧ s_found = upd s_found (Int32.toNatClampNeg s_nights) p2)) from ?_)
      (first | (refine Or.inl ⟨?_, ?_, ?_, ?_, ?_⟩ <;> (first | omega | assumption | with_reducible rfl) <;> done) | (refine Or.inr ⟨?_, ?_, ?_, ?_, ?_⟩ <;> (first | omega | assumption | with_reducible rfl) <;> done))
    · skip
      have l18 : (0 : Int32).toInt = 0 := by decide
      have c19 := neI h14
      have t20 := t64 p2
      have l21 : (-100000 : Int64).toInt = -100000 := by decide
      have l22 : (100000 : Int64).toInt = 100000 := by decide
      refine Sf_cb1 (s_X12_lies (Int32.toInt64 p2) (-100000) 100000 ) (fun r24_20 hp23 => ?_)
      have hp23 : ((r24_20.toInt = 0 ∨ r24_20.toInt = 1)) ∧ ((r24_20.toInt = 1 ∧ (-100000 : Int64).toInt ≤ (Int32.toInt64 p2).toInt ∧ (Int32.toInt64 p2).toInt ≤ (100000 : Int64).toInt) ∨ (r24_20.toInt = 0 ∧ ((Int32.toInt64 p2).toInt < (-100000 : Int64).toInt ∨ (100000 : Int64).toInt < (Int32.toInt64 p2).toInt))) := hp23
      obtain ⟨hq24, hq25⟩ := hp23
      have g26 := rgI r24_20
      refine Sf_ite (fun h27 => ?_) (fun h27 => ?_)
      · skip
        have c28 := eqI h27
        have l29 : ((-1) : Int32).toInt = -1 := by decide
        refine Sf_some (show (((-1 : Int32).toInt = -1 ∧ s_nights.toInt = s_nights.toInt ∧ ¬ (0 ≤ p1.toInt ∧ p1.toInt ≤ 399 ∧ -100000 ≤ p2.toInt ∧ p2.toInt ≤ 100000 ∧ s_nights.toInt < 30) ∧ s_nightDay = s_nightDay ∧ s_found = s_found) ∨ ((-1 : Int32).toInt = s_nights.toInt ∧ s_nights.toInt = s_nights.toInt + 1 ∧ (0 ≤ p1.toInt ∧ p1.toInt ≤ 399 ∧ -100000 ≤ p2.toInt ∧ p2.toInt ≤ 100000 ∧ s_nights.toInt < 30) ∧ s_nightDay = upd s_nightDay (Int32.toNatClampNeg s_nights) p1 ∧ s_found = upd s_found (Int32.toNatClampNeg s_nights) p2)) from ?_)
        (first | (refine Or.inl ⟨?_, ?_, ?_, ?_, ?_⟩ <;> (first | omega | assumption | with_reducible rfl) <;> done) | (refine Or.inr ⟨?_, ?_, ?_, ?_, ?_⟩ <;> (first | omega | assumption | with_reducible rfl) <;> done))
      · skip
        have c30 := neI h27
        refine Sf_wrI (by omega) (by omega) (fun g41_28 hw31 => ?_)
        refine Sf_wrI (by omega) (by omega) (fun g51_33 hw32 => ?_)
        refine Sf_nmI (fun v59_38 hv33 => ?_)
        have g34 := rgI (s_nights + 1)
        first | have e35 := adN s_nights 1 (1) (by decide) (by omega) (by omega) | skip
        have q36 := eqI hv33
        have g37 := rgI (v59_38 - 1)
        first | have e38 := sbN v59_38 1 (1) (by decide) (by omega) (by omega) | skip
        refine Sf_some (show (((v59_38 - 1).toInt = -1 ∧ v59_38.toInt = s_nights.toInt ∧ ¬ (0 ≤ p1.toInt ∧ p1.toInt ≤ 399 ∧ -100000 ≤ p2.toInt ∧ p2.toInt ≤ 100000 ∧ s_nights.toInt < 30) ∧ g41_28 = s_nightDay ∧ g51_33 = s_found) ∨ ((v59_38 - 1).toInt = s_nights.toInt ∧ v59_38.toInt = s_nights.toInt + 1 ∧ (0 ≤ p1.toInt ∧ p1.toInt ≤ 399 ∧ -100000 ≤ p2.toInt ∧ p2.toInt ≤ 100000 ∧ s_nights.toInt < 30) ∧ g41_28 = upd s_nightDay (Int32.toNatClampNeg s_nights) p1 ∧ g51_33 = upd s_found (Int32.toNatClampNeg s_nights) p2)) from ?_)
        (first | (refine Or.inl ⟨?_, ?_, ?_, ?_, ?_⟩ <;> (first | omega | assumption | with_reducible rfl) <;> done) | (refine Or.inr ⟨?_, ?_, ?_, ?_, ?_⟩ <;> (first | omega | assumption | with_reducible rfl) <;> done))
set_option maxHeartbeats 4000000 in
set_option maxRecDepth 100000 in
theorem e_X11_there (s_lots_tens : Nat → Int32) (p1 : Int32) (p2 : Int32)  : Sf (f_X11_there s_lots_tens p1 p2) (fun (y : Int32 × (Nat → Int32)) => (((y.1).toInt = 0 ∧ ¬ (0 ≤ p1.toInt ∧ p1.toInt ≤ 39 ∧ 0 ≤ p2.toInt ∧ p2.toInt ≤ 10) ∧ (y.2) = s_lots_tens) ∨ ((y.1).toInt = 1 ∧ (0 ≤ p1.toInt ∧ p1.toInt ≤ 39 ∧ 0 ≤ p2.toInt ∧ p2.toInt ≤ 10) ∧ (y.2) = upd s_lots_tens (Int32.toNatClampNeg p1) p2))) := by
  have g1 := rgI p1
  have g2 := rgI p2
  have hFU : (100000 : Int) ≤ (FU : Int) := Int.ofNat_le.mpr FU_ge
  rw [f_X11_there]
  have l3 : (0 : Int32).toInt = 0 := by decide
  have l4 : (39 : Int32).toInt = 39 := by decide
  refine Sf_cb1 (s_X11_isWithin p1 0 39 ) (fun r4_1 hp5 => ?_)
  have hp5 : ((r4_1.toInt = 0 ∨ r4_1.toInt = 1)) ∧ ((r4_1.toInt = 1 ∧ (0 : Int32).toInt ≤ p1.toInt ∧ p1.toInt ≤ (39 : Int32).toInt) ∨ (r4_1.toInt = 0 ∧ (p1.toInt < (0 : Int32).toInt ∨ (39 : Int32).toInt < p1.toInt))) := hp5
  obtain ⟨hq6, hq7⟩ := hp5
  have g8 := rgI r4_1
  refine Sf_ite (fun h9 => ?_) (fun h9 => ?_)
  · skip
    have c10 := eqI h9
    refine Sf_some (show (((0 : Int32).toInt = 0 ∧ ¬ (0 ≤ p1.toInt ∧ p1.toInt ≤ 39 ∧ 0 ≤ p2.toInt ∧ p2.toInt ≤ 10) ∧ s_lots_tens = s_lots_tens) ∨ ((0 : Int32).toInt = 1 ∧ (0 ≤ p1.toInt ∧ p1.toInt ≤ 39 ∧ 0 ≤ p2.toInt ∧ p2.toInt ≤ 10) ∧ s_lots_tens = upd s_lots_tens (Int32.toNatClampNeg p1) p2)) from ?_)
    (first | (refine Or.inl ⟨?_, ?_, ?_⟩ <;> (first | omega | assumption | with_reducible rfl) <;> done) | (refine Or.inr ⟨?_, ?_, ?_⟩ <;> (first | omega | assumption | with_reducible rfl) <;> done))
  · skip
    have c11 := neI h9
    have l12 : (10 : Int32).toInt = 10 := by decide
    refine Sf_cb1 (s_X11_isWithin p2 0 10 ) (fun r14_11 hp13 => ?_)
    have hp13 : ((r14_11.toInt = 0 ∨ r14_11.toInt = 1)) ∧ ((r14_11.toInt = 1 ∧ (0 : Int32).toInt ≤ p2.toInt ∧ p2.toInt ≤ (10 : Int32).toInt) ∨ (r14_11.toInt = 0 ∧ (p2.toInt < (0 : Int32).toInt ∨ (10 : Int32).toInt < p2.toInt))) := hp13
    obtain ⟨hq14, hq15⟩ := hp13
    have g16 := rgI r14_11
    refine Sf_ite (fun h17 => ?_) (fun h17 => ?_)
    · skip
      have c18 := eqI h17
      refine Sf_some (show (((0 : Int32).toInt = 0 ∧ ¬ (0 ≤ p1.toInt ∧ p1.toInt ≤ 39 ∧ 0 ≤ p2.toInt ∧ p2.toInt ≤ 10) ∧ s_lots_tens = s_lots_tens) ∨ ((0 : Int32).toInt = 1 ∧ (0 ≤ p1.toInt ∧ p1.toInt ≤ 39 ∧ 0 ≤ p2.toInt ∧ p2.toInt ≤ 10) ∧ s_lots_tens = upd s_lots_tens (Int32.toNatClampNeg p1) p2)) from ?_)
      (first | (refine Or.inl ⟨?_, ?_, ?_⟩ <;> (first | omega | assumption | with_reducible rfl) <;> done) | (refine Or.inr ⟨?_, ?_, ?_⟩ <;> (first | omega | assumption | with_reducible rfl) <;> done))
    · skip
      have c19 := neI h17
      refine Sf_wrI (by omega) (by omega) (fun g31_19 hw20 => ?_)
      have l21 : (1 : Int32).toInt = 1 := by decide
      refine Sf_some (show (((1 : Int32).toInt = 0 ∧ ¬ (0 ≤ p1.toInt ∧ p1.toInt ≤ 39 ∧ 0 ≤ p2.toInt ∧ p2.toInt ≤ 10) ∧ g31_19 = s_lots_tens) ∨ ((1 : Int32).toInt = 1 ∧ (0 ≤ p1.toInt ∧ p1.toInt ≤ 39 ∧ 0 ≤ p2.toInt ∧ p2.toInt ≤ 10) ∧ g31_19 = upd s_lots_tens (Int32.toNatClampNeg p1) p2)) from ?_)
      (first | (refine Or.inl ⟨?_, ?_, ?_⟩ <;> (first | omega | assumption | with_reducible rfl) <;> done) | (refine Or.inr ⟨?_, ?_, ?_⟩ <;> (first | omega | assumption | with_reducible rfl) <;> done))
set_option maxHeartbeats 4000000 in
set_option maxRecDepth 100000 in
theorem e_X12_there (s_ten : Nat → Int32) (p1 : Int32) (p2 : Int32)  : Sf (f_X12_there s_ten p1 p2) (fun (y : Int32 × (Nat → Int32)) => (((y.1).toInt = 0 ∧ ¬ (0 ≤ p1.toInt ∧ p1.toInt ≤ 39 ∧ 0 ≤ p2.toInt ∧ p2.toInt ≤ 10) ∧ (y.2) = s_ten) ∨ ((y.1).toInt = 1 ∧ (0 ≤ p1.toInt ∧ p1.toInt ≤ 39 ∧ 0 ≤ p2.toInt ∧ p2.toInt ≤ 10) ∧ (y.2) = upd s_ten (Int32.toNatClampNeg p1) p2))) := by
  have g1 := rgI p1
  have g2 := rgI p2
  have hFU : (100000 : Int) ≤ (FU : Int) := Int.ofNat_le.mpr FU_ge
  rw [f_X12_there]
  have t3 := t64 p1
  have l4 : (0 : Int64).toInt = 0 := by decide
  have l5 : (39 : Int64).toInt = 39 := by decide
  refine Sf_cb1 (s_X12_lies (Int32.toInt64 p1) 0 39 ) (fun r6_1 hp6 => ?_)
  have hp6 : ((r6_1.toInt = 0 ∨ r6_1.toInt = 1)) ∧ ((r6_1.toInt = 1 ∧ (0 : Int64).toInt ≤ (Int32.toInt64 p1).toInt ∧ (Int32.toInt64 p1).toInt ≤ (39 : Int64).toInt) ∨ (r6_1.toInt = 0 ∧ ((Int32.toInt64 p1).toInt < (0 : Int64).toInt ∨ (39 : Int64).toInt < (Int32.toInt64 p1).toInt))) := hp6
  obtain ⟨hq7, hq8⟩ := hp6
  have g9 := rgI r6_1
  refine Sf_ite (fun h10 => ?_) (fun h10 => ?_)
  · skip
    have l11 : (0 : Int32).toInt = 0 := by decide
    have c12 := eqI h10
    refine Sf_some (show (((0 : Int32).toInt = 0 ∧ ¬ (0 ≤ p1.toInt ∧ p1.toInt ≤ 39 ∧ 0 ≤ p2.toInt ∧ p2.toInt ≤ 10) ∧ s_ten = s_ten) ∨ ((0 : Int32).toInt = 1 ∧ (0 ≤ p1.toInt ∧ p1.toInt ≤ 39 ∧ 0 ≤ p2.toInt ∧ p2.toInt ≤ 10) ∧ s_ten = upd s_ten (Int32.toNatClampNeg p1) p2)) from ?_)
    (first | (refine Or.inl ⟨?_, ?_, ?_⟩ <;> (first | omega | assumption | with_reducible rfl) <;> done) | (refine Or.inr ⟨?_, ?_, ?_⟩ <;> (first | omega | assumption | with_reducible rfl) <;> done))
  · skip
    have l13 : (0 : Int32).toInt = 0 := by decide
    have c14 := neI h10
    have t15 := t64 p2
    have l16 : (10 : Int64).toInt = 10 := by decide
    refine Sf_cb1 (s_X12_lies (Int32.toInt64 p2) 0 10 ) (fun r18_11 hp17 => ?_)
    have hp17 : ((r18_11.toInt = 0 ∨ r18_11.toInt = 1)) ∧ ((r18_11.toInt = 1 ∧ (0 : Int64).toInt ≤ (Int32.toInt64 p2).toInt ∧ (Int32.toInt64 p2).toInt ≤ (10 : Int64).toInt) ∨ (r18_11.toInt = 0 ∧ ((Int32.toInt64 p2).toInt < (0 : Int64).toInt ∨ (10 : Int64).toInt < (Int32.toInt64 p2).toInt))) := hp17
    obtain ⟨hq18, hq19⟩ := hp17
    have g20 := rgI r18_11
    refine Sf_ite (fun h21 => ?_) (fun h21 => ?_)
    · skip
      have c22 := eqI h21
      refine Sf_some (show (((0 : Int32).toInt = 0 ∧ ¬ (0 ≤ p1.toInt ∧ p1.toInt ≤ 39 ∧ 0 ≤ p2.toInt ∧ p2.toInt ≤ 10) ∧ s_ten = s_ten) ∨ ((0 : Int32).toInt = 1 ∧ (0 ≤ p1.toInt ∧ p1.toInt ≤ 39 ∧ 0 ≤ p2.toInt ∧ p2.toInt ≤ 10) ∧ s_ten = upd s_ten (Int32.toNatClampNeg p1) p2)) from ?_)
      (first | (refine Or.inl ⟨?_, ?_, ?_⟩ <;> (first | omega | assumption | with_reducible rfl) <;> done) | (refine Or.inr ⟨?_, ?_, ?_⟩ <;> (first | omega | assumption | with_reducible rfl) <;> done))
    · skip
      have c23 := neI h21
      refine Sf_wrI (by omega) (by omega) (fun g32_19 hw24 => ?_)
      have l25 : (1 : Int32).toInt = 1 := by decide
      refine Sf_some (show (((1 : Int32).toInt = 0 ∧ ¬ (0 ≤ p1.toInt ∧ p1.toInt ≤ 39 ∧ 0 ≤ p2.toInt ∧ p2.toInt ≤ 10) ∧ g32_19 = s_ten) ∨ ((1 : Int32).toInt = 1 ∧ (0 ≤ p1.toInt ∧ p1.toInt ≤ 39 ∧ 0 ≤ p2.toInt ∧ p2.toInt ≤ 10) ∧ g32_19 = upd s_ten (Int32.toNatClampNeg p1) p2)) from ?_)
      (first | (refine Or.inl ⟨?_, ?_, ?_⟩ <;> (first | omega | assumption | with_reducible rfl) <;> done) | (refine Or.inr ⟨?_, ?_, ?_⟩ <;> (first | omega | assumption | with_reducible rfl) <;> done))
set_option maxHeartbeats 4000000 in
set_option maxRecDepth 100000 in
theorem e_X7_sourceAt (G : kG) (s_many : Int32) (p1 : Int32) (hp0 : 0 ≤ s_many.toInt) (hp1 : s_many.toInt ≤ 10) : Sf (f_X7_sourceAt G s_many p1) (fun (y : Option Nat) => ((0 ≤ p1.toInt ∧ p1.toInt < s_many.toInt ∧ y = some (Int32.toNatClampNeg p1)) ∨ (y = none ∧ (p1.toInt < 0 ∨ s_many.toInt ≤ p1.toInt)))) := by
  have g1 := rgI s_many
  have g2 := rgI p1
  have hFU : (100000 : Int) ≤ (FU : Int) := Int.ofNat_le.mpr FU_ge
  rw [f_X7_sourceAt]
  have l3 : (0 : Int32).toInt = 0 := by decide
  have g4 := rgI (s_many - 1)
  first | have e5 := sbN s_many 1 (1) (by decide) (by omega) (by omega) | skip
  refine Sf_cb1 (s_X11_isWithin p1 0 (s_many - 1) ) (fun r8_1 hp6 => ?_)
  have hp6 : ((r8_1.toInt = 0 ∨ r8_1.toInt = 1)) ∧ ((r8_1.toInt = 1 ∧ (0 : Int32).toInt ≤ p1.toInt ∧ p1.toInt ≤ (s_many - 1).toInt) ∨ (r8_1.toInt = 0 ∧ (p1.toInt < (0 : Int32).toInt ∨ (s_many - 1).toInt < p1.toInt))) := hp6
  obtain ⟨hq7, hq8⟩ := hp6
  have g9 := rgI r8_1
  refine Sf_ite (fun h10 => ?_) (fun h10 => ?_)
  · skip
    have c11 := eqI h10
    refine Sf_some (show ((0 ≤ p1.toInt ∧ p1.toInt < s_many.toInt ∧ none = some (Int32.toNatClampNeg p1)) ∨ (none = none ∧ (p1.toInt < 0 ∨ s_many.toInt ≤ p1.toInt))) from ?_)
    (first | (refine Or.inl ⟨?_, ?_, ?_⟩ <;> (first | omega | assumption | with_reducible rfl) <;> done) | (refine Or.inr ⟨?_, ?_⟩ <;> (first | omega | assumption | with_reducible rfl) <;> done))
  · skip
    have c12 := neI h10
    refine Sf_gdN (by omega) (by omega) ?_
    refine Sf_some (show ((0 ≤ p1.toInt ∧ p1.toInt < s_many.toInt ∧ (some (Int32.toNatClampNeg p1)) = some (Int32.toNatClampNeg p1)) ∨ ((some (Int32.toNatClampNeg p1)) = none ∧ (p1.toInt < 0 ∨ s_many.toInt ≤ p1.toInt))) from ?_)
    (first | (refine Or.inl ⟨?_, ?_, ?_⟩ <;> (first | omega | assumption | with_reducible rfl) <;> done) | (refine Or.inr ⟨?_, ?_⟩ <;> (first | omega | assumption | with_reducible rfl) <;> done))
set_option maxHeartbeats 4000000 in
set_option maxRecDepth 100000 in
theorem e_X11_tapeHas (s_tape_length : Int32) (p1 : Int32) (p2 : Int32)  : Sf (f_X11_tapeHas s_tape_length p1 p2) (fun (y : Int32) => ((y.toInt = 0 ∨ y.toInt = 1)) ∧ ((y.toInt = 1 ∧ 1 ≤ p1.toInt ∧ p1.toInt ≤ p2.toInt ∧ p1.toInt ≤ s_tape_length.toInt) ∨ (y.toInt = 0 ∧ ¬ (1 ≤ p1.toInt ∧ p1.toInt ≤ p2.toInt ∧ p1.toInt ≤ s_tape_length.toInt)))) := by
  have g1 := rgI s_tape_length
  have g2 := rgI p1
  have g3 := rgI p2
  have hFU : (100000 : Int) ≤ (FU : Int) := Int.ofNat_le.mpr FU_ge
  rw [f_X11_tapeHas]
  have l4 : (1 : Int32).toInt = 1 := by decide
  refine Sf_cb1 (s_X11_isWithin p1 1 p2 ) (fun r3_1 hp5 => ?_)
  have hp5 : ((r3_1.toInt = 0 ∨ r3_1.toInt = 1)) ∧ ((r3_1.toInt = 1 ∧ (1 : Int32).toInt ≤ p1.toInt ∧ p1.toInt ≤ p2.toInt) ∨ (r3_1.toInt = 0 ∧ (p1.toInt < (1 : Int32).toInt ∨ p2.toInt < p1.toInt))) := hp5
  obtain ⟨hq6, hq7⟩ := hp5
  have g8 := rgI r3_1
  refine Sf_ite (fun h9 => ?_) (fun h9 => ?_)
  · skip
    have l10 : (0 : Int32).toInt = 0 := by decide
    have c11 := eqI h9
    refine Sf_some (show (((0 : Int32).toInt = 0 ∨ (0 : Int32).toInt = 1)) ∧ (((0 : Int32).toInt = 1 ∧ 1 ≤ p1.toInt ∧ p1.toInt ≤ p2.toInt ∧ p1.toInt ≤ s_tape_length.toInt) ∨ ((0 : Int32).toInt = 0 ∧ ¬ (1 ≤ p1.toInt ∧ p1.toInt ≤ p2.toInt ∧ p1.toInt ≤ s_tape_length.toInt))) from ?_)
    refine ⟨?_, ?_⟩ <;> (omega)
  · skip
    have l12 : (0 : Int32).toInt = 0 := by decide
    have c13 := neI h9
    refine Sf_ite (fun h14 => ?_) (fun h14 => ?_)
    · skip
      have c15 := ltI h14
      refine Sf_some (show (((0 : Int32).toInt = 0 ∨ (0 : Int32).toInt = 1)) ∧ (((0 : Int32).toInt = 1 ∧ 1 ≤ p1.toInt ∧ p1.toInt ≤ p2.toInt ∧ p1.toInt ≤ s_tape_length.toInt) ∨ ((0 : Int32).toInt = 0 ∧ ¬ (1 ≤ p1.toInt ∧ p1.toInt ≤ p2.toInt ∧ p1.toInt ≤ s_tape_length.toInt))) from ?_)
      refine ⟨?_, ?_⟩ <;> (omega)
    · skip
      have c16 := nltI h14
      refine Sf_some (show (((1 : Int32).toInt = 0 ∨ (1 : Int32).toInt = 1)) ∧ (((1 : Int32).toInt = 1 ∧ 1 ≤ p1.toInt ∧ p1.toInt ≤ p2.toInt ∧ p1.toInt ≤ s_tape_length.toInt) ∨ ((1 : Int32).toInt = 0 ∧ ¬ (1 ≤ p1.toInt ∧ p1.toInt ≤ p2.toInt ∧ p1.toInt ≤ s_tape_length.toInt))) from ?_)
      refine ⟨?_, ?_⟩ <;> (omega)
set_option maxHeartbeats 4000000 in
set_option maxRecDepth 100000 in
theorem e_X12_canRead (s_taped : Int32) (p1 : Int32) (p2 : Int32)  : Sf (f_X12_canRead s_taped p1 p2) (fun (y : Int32) => ((y.toInt = 0 ∨ y.toInt = 1)) ∧ ((y.toInt = 1 ∧ 1 ≤ p1.toInt ∧ p1.toInt ≤ p2.toInt ∧ p1.toInt ≤ s_taped.toInt) ∨ (y.toInt = 0 ∧ ¬ (1 ≤ p1.toInt ∧ p1.toInt ≤ p2.toInt ∧ p1.toInt ≤ s_taped.toInt)))) := by
  have g1 := rgI s_taped
  have g2 := rgI p1
  have g3 := rgI p2
  have hFU : (100000 : Int) ≤ (FU : Int) := Int.ofNat_le.mpr FU_ge
  rw [f_X12_canRead]
  have t4 := t64 p1
  have l5 : (1 : Int64).toInt = 1 := by decide
  have t6 := t64 p2
  refine Sf_cb1 (s_X12_lies (Int32.toInt64 p1) 1 (Int32.toInt64 p2) ) (fun r5_1 hp7 => ?_)
  have hp7 : ((r5_1.toInt = 0 ∨ r5_1.toInt = 1)) ∧ ((r5_1.toInt = 1 ∧ (1 : Int64).toInt ≤ (Int32.toInt64 p1).toInt ∧ (Int32.toInt64 p1).toInt ≤ (Int32.toInt64 p2).toInt) ∨ (r5_1.toInt = 0 ∧ ((Int32.toInt64 p1).toInt < (1 : Int64).toInt ∨ (Int32.toInt64 p2).toInt < (Int32.toInt64 p1).toInt))) := hp7
  obtain ⟨hq8, hq9⟩ := hp7
  have g10 := rgI r5_1
  refine Sf_ite (fun h11 => ?_) (fun h11 => ?_)
  · skip
    have l12 : (0 : Int32).toInt = 0 := by decide
    have c13 := eqI h11
    refine Sf_some (show (((0 : Int32).toInt = 0 ∨ (0 : Int32).toInt = 1)) ∧ (((0 : Int32).toInt = 1 ∧ 1 ≤ p1.toInt ∧ p1.toInt ≤ p2.toInt ∧ p1.toInt ≤ s_taped.toInt) ∨ ((0 : Int32).toInt = 0 ∧ ¬ (1 ≤ p1.toInt ∧ p1.toInt ≤ p2.toInt ∧ p1.toInt ≤ s_taped.toInt))) from ?_)
    refine ⟨?_, ?_⟩ <;> (omega)
  · skip
    have l14 : (0 : Int32).toInt = 0 := by decide
    have c15 := neI h11
    refine Sf_ite (fun h16 => ?_) (fun h16 => ?_)
    · skip
      have c17 := ltI h16
      refine Sf_some (show (((0 : Int32).toInt = 0 ∨ (0 : Int32).toInt = 1)) ∧ (((0 : Int32).toInt = 1 ∧ 1 ≤ p1.toInt ∧ p1.toInt ≤ p2.toInt ∧ p1.toInt ≤ s_taped.toInt) ∨ ((0 : Int32).toInt = 0 ∧ ¬ (1 ≤ p1.toInt ∧ p1.toInt ≤ p2.toInt ∧ p1.toInt ≤ s_taped.toInt))) from ?_)
      refine ⟨?_, ?_⟩ <;> (omega)
    · skip
      have c18 := nltI h16
      have l19 : (1 : Int32).toInt = 1 := by decide
      refine Sf_some (show (((1 : Int32).toInt = 0 ∨ (1 : Int32).toInt = 1)) ∧ (((1 : Int32).toInt = 1 ∧ 1 ≤ p1.toInt ∧ p1.toInt ≤ p2.toInt ∧ p1.toInt ≤ s_taped.toInt) ∨ ((1 : Int32).toInt = 0 ∧ ¬ (1 ≤ p1.toInt ∧ p1.toInt ≤ p2.toInt ∧ p1.toInt ≤ s_taped.toInt))) from ?_)
      refine ⟨?_, ?_⟩ <;> (omega)
set_option maxHeartbeats 4000000 in
set_option maxRecDepth 100000 in
theorem e_X12_isSource (s_sources : Int32) (p1 : Int32) (hp0 : 0 ≤ s_sources.toInt) (hp1 : s_sources.toInt ≤ 10) : Sf (f_X12_isSource s_sources p1) (fun (y : Int32) => ((y.toInt = 0 ∨ y.toInt = 1)) ∧ ((y.toInt = 1 ∧ 0 ≤ p1.toInt ∧ p1.toInt < s_sources.toInt) ∨ (y.toInt = 0 ∧ (p1.toInt < 0 ∨ s_sources.toInt ≤ p1.toInt)))) := by
  have g1 := rgI s_sources
  have g2 := rgI p1
  have hFU : (100000 : Int) ≤ (FU : Int) := Int.ofNat_le.mpr FU_ge
  rw [f_X12_isSource]
  have t3 := t64 p1
  have l4 : (0 : Int64).toInt = 0 := by decide
  have g5 := rgI (s_sources - 1)
  first | have e6 := sbN s_sources 1 (1) (by decide) (by omega) (by omega) | skip
  have t7 := t64 (s_sources - 1)
  refine Sf_cb1 (s_X12_lies (Int32.toInt64 p1) 0 (Int32.toInt64 (s_sources - 1)) ) (fun r10_1 hp8 => ?_)
  have hp8 : ((r10_1.toInt = 0 ∨ r10_1.toInt = 1)) ∧ ((r10_1.toInt = 1 ∧ (0 : Int64).toInt ≤ (Int32.toInt64 p1).toInt ∧ (Int32.toInt64 p1).toInt ≤ (Int32.toInt64 (s_sources - 1)).toInt) ∨ (r10_1.toInt = 0 ∧ ((Int32.toInt64 p1).toInt < (0 : Int64).toInt ∨ (Int32.toInt64 (s_sources - 1)).toInt < (Int32.toInt64 p1).toInt))) := hp8
  obtain ⟨hq9, hq10⟩ := hp8
  have g11 := rgI r10_1
  refine Sf_bo (by omega) ?_
  refine Sf_some (show ((r10_1.toInt = 0 ∨ r10_1.toInt = 1)) ∧ ((r10_1.toInt = 1 ∧ 0 ≤ p1.toInt ∧ p1.toInt < s_sources.toInt) ∨ (r10_1.toInt = 0 ∧ (p1.toInt < 0 ∨ s_sources.toInt ≤ p1.toInt))) from ?_)
  refine ⟨?_, ?_⟩ <;> (omega)
set_option maxHeartbeats 4000000 in
set_option maxRecDepth 100000 in
theorem e_X11_law (G : kG) (s_page_day : Int32) (s_scribe_length : Int32) (s_scribe_at : Int32) (s_scribe_used : Int32) (s_scribe_fault : Int32) (s_sky_many : Int32) (s_tape_length : Int32) (s_scribe_code : Nat → Int32) (s_scribe_middles : Nat → Int32) (s_scribe_starts : Nat → Int32) (s_tape_bytes : Nat → Int32) (p1 : Int32) (p2 : Int32) (hp0 : 0 ≤ s_sky_many.toInt) (hp1 : s_sky_many.toInt ≤ 10) (hp2 : 0 ≤ s_tape_length.toInt) (hp3 : s_tape_length.toInt ≤ 200) (hp4 : ∀ j, 0 ≤ (s_scribe_middles j).toInt ∧ (s_scribe_middles j).toInt ≤ 120) (hp5 : ∀ j, 0 ≤ (s_scribe_starts j).toInt ∧ (s_scribe_starts j).toInt ≤ 120) (hp6 : ∀ i : Nat, (i : Int) < s_sky_many.toInt → ∃ s, G.1 i = some s) : Sf (f_X11_law G s_page_day s_scribe_length s_scribe_at s_scribe_used s_scribe_fault s_sky_many s_tape_length s_scribe_code s_scribe_middles s_scribe_starts s_tape_bytes p1 p2) (fun (y : Int32 × Int32 × Int32 × Int32 × Int32 × Int32 × Int32 × (Nat → Int32) × (Nat → Int32) × (Nat → Int32) × Option (Nat × kTv)) => (((y.2.2.2.2.2.2.1).toInt = 0 ∧ (0 ≤ p1.toInt ∧ p1.toInt < s_sky_many.toInt ∧ 1 ≤ p2.toInt ∧ p2.toInt ≤ 120 ∧ p2.toInt ≤ s_tape_length.toInt)) ∨ ((y.1).toInt = -1 ∧ (y.2.2.2.2.2.2.1).toInt = s_tape_length.toInt ∧ (y.2.2.2.2.2.2.2.2.2.2) = none ∧ ¬ (0 ≤ p1.toInt ∧ p1.toInt < s_sky_many.toInt ∧ 1 ≤ p2.toInt ∧ p2.toInt ≤ 120 ∧ p2.toInt ≤ s_tape_length.toInt) ∧ (y.2.1) = s_page_day))) := by
  have g1 := rgI s_page_day
  have g2 := rgI s_scribe_length
  have g3 := rgI s_scribe_at
  have g4 := rgI s_scribe_used
  have g5 := rgI s_scribe_fault
  have g6 := rgI s_sky_many
  have g7 := rgI s_tape_length
  have g8 := rgI p1
  have g9 := rgI p2
  have hFU : (100000 : Int) ≤ (FU : Int) := Int.ofNat_le.mpr FU_ge
  rw [f_X11_law]
  refine Sf_cb1 (e_X7_sourceAt G s_sky_many p1 (by omega) (by omega)) (fun r5_1 hp10 => ?_)
  have hp10 : ((0 ≤ p1.toInt ∧ p1.toInt < s_sky_many.toInt ∧ r5_1 = some (Int32.toNatClampNeg p1)) ∨ (r5_1 = none ∧ (p1.toInt < 0 ∨ s_sky_many.toInt ≤ p1.toInt))) := hp10
  refine Sf_oS (fun z16 hz17 => by exact src_lt hp10 (by omega) z16 hz17) (fun hn11 => ?_) (fun i12 s_12 hr13 hi14 hg15 => ?_)
  · skip
    have hno := src_none (p := p1) (m := s_sky_many) hn11 (by assumption) hp6
    have l18 : ((-1) : Int32).toInt = -1 := by decide
    refine Sf_some (show ((s_tape_length.toInt = 0 ∧ (0 ≤ p1.toInt ∧ p1.toInt < s_sky_many.toInt ∧ 1 ≤ p2.toInt ∧ p2.toInt ≤ 120 ∧ p2.toInt ≤ s_tape_length.toInt)) ∨ ((-1 : Int32).toInt = -1 ∧ s_tape_length.toInt = s_tape_length.toInt ∧ none = none ∧ ¬ (0 ≤ p1.toInt ∧ p1.toInt < s_sky_many.toInt ∧ 1 ≤ p2.toInt ∧ p2.toInt ≤ 120 ∧ p2.toInt ≤ s_tape_length.toInt) ∧ s_page_day = s_page_day)) from ?_)
    (first | (refine Or.inl ⟨?_, ?_⟩ <;> (first | omega | assumption | with_reducible rfl) <;> done) | (refine Or.inr ⟨?_, ?_, ?_, ?_, ?_⟩ <;> (first | omega | assumption | with_reducible rfl) <;> done))
  · skip
    subst hr13
    obtain ⟨hsm0, hsm1, hsm2⟩ := src_some (p := p1) (m := s_sky_many) (i := i12) (by assumption)
    have l19 : (120 : Int32).toInt = 120 := by decide
    refine Sf_cb1 (e_X11_tapeHas s_tape_length p2 120 ) (fun r17_32 hp20 => ?_)
    have hp20 : ((r17_32.toInt = 0 ∨ r17_32.toInt = 1)) ∧ ((r17_32.toInt = 1 ∧ 1 ≤ p2.toInt ∧ p2.toInt ≤ (120 : Int32).toInt ∧ p2.toInt ≤ s_tape_length.toInt) ∨ (r17_32.toInt = 0 ∧ ¬ (1 ≤ p2.toInt ∧ p2.toInt ≤ (120 : Int32).toInt ∧ p2.toInt ≤ s_tape_length.toInt))) := hp20
    obtain ⟨hq21, hq22⟩ := hp20
    have g23 := rgI r17_32
    refine Sf_ite (fun h24 => ?_) (fun h24 => ?_)
    · skip
      have l25 : (0 : Int32).toInt = 0 := by decide
      have c26 := eqI h24
      have l27 : ((-1) : Int32).toInt = -1 := by decide
      refine Sf_some (show ((s_tape_length.toInt = 0 ∧ (0 ≤ p1.toInt ∧ p1.toInt < s_sky_many.toInt ∧ 1 ≤ p2.toInt ∧ p2.toInt ≤ 120 ∧ p2.toInt ≤ s_tape_length.toInt)) ∨ ((-1 : Int32).toInt = -1 ∧ s_tape_length.toInt = s_tape_length.toInt ∧ none = none ∧ ¬ (0 ≤ p1.toInt ∧ p1.toInt < s_sky_many.toInt ∧ 1 ≤ p2.toInt ∧ p2.toInt ≤ 120 ∧ p2.toInt ≤ s_tape_length.toInt) ∧ s_page_day = s_page_day)) from ?_)
      (first | (refine Or.inl ⟨?_, ?_⟩ <;> (first | omega | assumption | with_reducible rfl) <;> done) | (refine Or.inr ⟨?_, ?_, ?_, ?_, ?_⟩ <;> (first | omega | assumption | with_reducible rfl) <;> done))
    · skip
      have l28 : (0 : Int32).toInt = 0 := by decide
      have c29 := neI h24
      have l30 : (104 : Int32).toInt = 104 := by decide
      refine Sf_cb8 (s_X6_writeClauses 200 s_scribe_length s_scribe_at s_scribe_used s_scribe_fault s_tape_bytes s_scribe_code s_scribe_middles s_scribe_starts p2 104 (by omega) (by omega) (by omega) (by assumption) (by assumption) (by omega)) (fun o_length39_45 o_at39_46 o_used39_47 o_fault39_48 o_code39_49 o_middles39_50 o_starts39_51 nt39_52 hp31 => ?_)
      have hp31 : (∀ j, 0 ≤ (o_middles39_50 j).toInt ∧ (o_middles39_50 j).toInt ≤ 120) ∧ (∀ j, 0 ≤ (o_starts39_51 j).toInt ∧ (o_starts39_51 j).toInt ≤ 120) ∧ (∀ v, nt39_52 = some v → tOK v) := hp31
      obtain ⟨hq32, hq33, hq34⟩ := hp31
      have g35 := rgI o_length39_45
      have g36 := rgI o_at39_46
      have g37 := rgI o_used39_47
      have g38 := rgI o_fault39_48
      refine Sf_oN (fun hn39 => ?_) (fun v_65 hn40 => ?_)
      · skip
        refine Sf_cb1 (s_X9_clear s_tape_length ) (fun o_length48_69 hp41 => ?_)
        have hp41 : (o_length48_69.toInt = 0) := hp41
        have g42 := rgI o_length48_69
        refine Sf_cb1 (s_X6_faultCode o_at39_46 o_fault39_48 ) (fun r60_79 hp43 => ?_)
        have g44 := rgI r60_79
        refine Sf_some (show ((o_length48_69.toInt = 0 ∧ (0 ≤ p1.toInt ∧ p1.toInt < s_sky_many.toInt ∧ 1 ≤ p2.toInt ∧ p2.toInt ≤ 120 ∧ p2.toInt ≤ s_tape_length.toInt)) ∨ (r60_79.toInt = -1 ∧ o_length48_69.toInt = s_tape_length.toInt ∧ none = none ∧ ¬ (0 ≤ p1.toInt ∧ p1.toInt < s_sky_many.toInt ∧ 1 ≤ p2.toInt ∧ p2.toInt ≤ 120 ∧ p2.toInt ≤ s_tape_length.toInt) ∧ s_page_day = s_page_day)) from ?_)
        (first | (refine Or.inl ⟨?_, ?_⟩ <;> (first | omega | assumption | with_reducible rfl) <;> done) | (refine Or.inr ⟨?_, ?_, ?_, ?_, ?_⟩ <;> (first | omega | assumption | with_reducible rfl) <;> done))
      · skip
        refine Sf_cb1 (s_X9_clear s_tape_length ) (fun o_length48_102 hp45 => ?_)
        have hp45 : (o_length48_102.toInt = 0) := hp45
        have g46 := rgI o_length48_102
        refine Sf_cb1 (e_X4_forget s_page_day ) (fun o_day68_112 hp47 => ?_)
        have hp47 : (o_day68_112.toInt = -1) := hp47
        have g48 := rgI o_day68_112
        refine Sf_some (show ((o_length48_102.toInt = 0 ∧ (0 ≤ p1.toInt ∧ p1.toInt < s_sky_many.toInt ∧ 1 ≤ p2.toInt ∧ p2.toInt ≤ 120 ∧ p2.toInt ≤ s_tape_length.toInt)) ∨ ((v_65.1).toInt = -1 ∧ o_length48_102.toInt = s_tape_length.toInt ∧ (some (i12, v_65)) = none ∧ ¬ (0 ≤ p1.toInt ∧ p1.toInt < s_sky_many.toInt ∧ 1 ≤ p2.toInt ∧ p2.toInt ≤ 120 ∧ p2.toInt ≤ s_tape_length.toInt) ∧ o_day68_112 = s_page_day)) from ?_)
        (first | (refine Or.inl ⟨?_, ?_⟩ <;> (first | omega | assumption | with_reducible rfl) <;> done) | (refine Or.inr ⟨?_, ?_, ?_, ?_, ?_⟩ <;> (first | omega | assumption | with_reducible rfl) <;> done))
set_option maxHeartbeats 4000000 in
set_option maxRecDepth 100000 in
theorem e_X11_way (G : kG) (s_page_readers : Int32) (s_scribe_length : Int32) (s_scribe_at : Int32) (s_scribe_used : Int32) (s_scribe_fault : Int32) (s_tape_length : Int32) (s_scribe_code : Nat → Int32) (s_scribe_middles : Nat → Int32) (s_scribe_starts : Nat → Int32) (s_tape_bytes : Nat → Int32) (p1 : Int32) (p2 : Int32) (hp0 : 0 ≤ s_tape_length.toInt) (hp1 : s_tape_length.toInt ≤ 200) (hp2 : ∀ j, 0 ≤ (s_scribe_middles j).toInt ∧ (s_scribe_middles j).toInt ≤ 120) (hp3 : ∀ j, 0 ≤ (s_scribe_starts j).toInt ∧ (s_scribe_starts j).toInt ≤ 120) : Sf (f_X11_way G s_page_readers s_scribe_length s_scribe_at s_scribe_used s_scribe_fault s_tape_length s_scribe_code s_scribe_middles s_scribe_starts s_tape_bytes p1 p2) (fun (y : Int32 × Int32 × Int32 × Int32 × Int32 × Int32 × Int32 × (Nat → Int32) × (Nat → Int32) × (Nat → Int32) × Option (Nat × kTv)) => (((y.2.2.2.2.2.2.1).toInt = 0 ∧ (0 ≤ p1.toInt ∧ p1.toInt ≤ 3 ∧ 1 ≤ p2.toInt ∧ p2.toInt ≤ 120 ∧ p2.toInt ≤ s_tape_length.toInt)) ∨ ((y.1).toInt = -1 ∧ (y.2.2.2.2.2.2.1).toInt = s_tape_length.toInt ∧ (y.2.2.2.2.2.2.2.2.2.2) = none ∧ ¬ (0 ≤ p1.toInt ∧ p1.toInt ≤ 3 ∧ 1 ≤ p2.toInt ∧ p2.toInt ≤ 120 ∧ p2.toInt ≤ s_tape_length.toInt) ∧ (y.2.1) = s_page_readers))) := by
  have g1 := rgI s_page_readers
  have g2 := rgI s_scribe_length
  have g3 := rgI s_scribe_at
  have g4 := rgI s_scribe_used
  have g5 := rgI s_scribe_fault
  have g6 := rgI s_tape_length
  have g7 := rgI p1
  have g8 := rgI p2
  have hFU : (100000 : Int) ≤ (FU : Int) := Int.ofNat_le.mpr FU_ge
  rw [f_X11_way]
  refine Sf_cb1 (s_X11_isReader p1 ) (fun r1_1 hp9 => ?_)
  have hp9 : ((r1_1.toInt = 0 ∨ r1_1.toInt = 1)) ∧ ((r1_1.toInt = 1 ∧ 0 ≤ p1.toInt ∧ p1.toInt ≤ 3) ∨ (r1_1.toInt = 0 ∧ (p1.toInt < 0 ∨ 3 < p1.toInt))) := hp9
  obtain ⟨hq10, hq11⟩ := hp9
  have g12 := rgI r1_1
  refine Sf_ite (fun h13 => ?_) (fun h13 => ?_)
  · skip
    have l14 : (0 : Int32).toInt = 0 := by decide
    have c15 := eqI h13
    have l16 : ((-1) : Int32).toInt = -1 := by decide
    refine Sf_some (show ((s_tape_length.toInt = 0 ∧ (0 ≤ p1.toInt ∧ p1.toInt ≤ 3 ∧ 1 ≤ p2.toInt ∧ p2.toInt ≤ 120 ∧ p2.toInt ≤ s_tape_length.toInt)) ∨ ((-1 : Int32).toInt = -1 ∧ s_tape_length.toInt = s_tape_length.toInt ∧ none = none ∧ ¬ (0 ≤ p1.toInt ∧ p1.toInt ≤ 3 ∧ 1 ≤ p2.toInt ∧ p2.toInt ≤ 120 ∧ p2.toInt ≤ s_tape_length.toInt) ∧ s_page_readers = s_page_readers)) from ?_)
    (first | (refine Or.inl ⟨?_, ?_⟩ <;> (first | omega | assumption | with_reducible rfl) <;> done) | (refine Or.inr ⟨?_, ?_, ?_, ?_, ?_⟩ <;> (first | omega | assumption | with_reducible rfl) <;> done))
  · skip
    have l17 : (0 : Int32).toInt = 0 := by decide
    have c18 := neI h13
    have l19 : (120 : Int32).toInt = 120 := by decide
    refine Sf_cb1 (e_X11_tapeHas s_tape_length p2 120 ) (fun r11_25 hp20 => ?_)
    have hp20 : ((r11_25.toInt = 0 ∨ r11_25.toInt = 1)) ∧ ((r11_25.toInt = 1 ∧ 1 ≤ p2.toInt ∧ p2.toInt ≤ (120 : Int32).toInt ∧ p2.toInt ≤ s_tape_length.toInt) ∨ (r11_25.toInt = 0 ∧ ¬ (1 ≤ p2.toInt ∧ p2.toInt ≤ (120 : Int32).toInt ∧ p2.toInt ≤ s_tape_length.toInt))) := hp20
    obtain ⟨hq21, hq22⟩ := hp20
    have g23 := rgI r11_25
    refine Sf_ite (fun h24 => ?_) (fun h24 => ?_)
    · skip
      have c25 := eqI h24
      have l26 : ((-1) : Int32).toInt = -1 := by decide
      refine Sf_some (show ((s_tape_length.toInt = 0 ∧ (0 ≤ p1.toInt ∧ p1.toInt ≤ 3 ∧ 1 ≤ p2.toInt ∧ p2.toInt ≤ 120 ∧ p2.toInt ≤ s_tape_length.toInt)) ∨ ((-1 : Int32).toInt = -1 ∧ s_tape_length.toInt = s_tape_length.toInt ∧ none = none ∧ ¬ (0 ≤ p1.toInt ∧ p1.toInt ≤ 3 ∧ 1 ≤ p2.toInt ∧ p2.toInt ≤ 120 ∧ p2.toInt ≤ s_tape_length.toInt) ∧ s_page_readers = s_page_readers)) from ?_)
      (first | (refine Or.inl ⟨?_, ?_⟩ <;> (first | omega | assumption | with_reducible rfl) <;> done) | (refine Or.inr ⟨?_, ?_, ?_, ?_, ?_⟩ <;> (first | omega | assumption | with_reducible rfl) <;> done))
    · skip
      have c27 := neI h24
      have l28 : (107 : Int32).toInt = 107 := by decide
      refine Sf_cb8 (s_X6_writeClauses 200 s_scribe_length s_scribe_at s_scribe_used s_scribe_fault s_tape_bytes s_scribe_code s_scribe_middles s_scribe_starts p2 107 (by omega) (by omega) (by omega) (by assumption) (by assumption) (by omega)) (fun o_length33_38 o_at33_39 o_used33_40 o_fault33_41 o_code33_42 o_middles33_43 o_starts33_44 nt33_45 hp29 => ?_)
      have hp29 : (∀ j, 0 ≤ (o_middles33_43 j).toInt ∧ (o_middles33_43 j).toInt ≤ 120) ∧ (∀ j, 0 ≤ (o_starts33_44 j).toInt ∧ (o_starts33_44 j).toInt ≤ 120) ∧ (∀ v, nt33_45 = some v → tOK v) := hp29
      obtain ⟨hq30, hq31, hq32⟩ := hp29
      have g33 := rgI o_length33_38
      have g34 := rgI o_at33_39
      have g35 := rgI o_used33_40
      have g36 := rgI o_fault33_41
      refine Sf_oN (fun hn37 => ?_) (fun v_58 hn38 => ?_)
      · skip
        refine Sf_cb1 (s_X9_clear s_tape_length ) (fun o_length41_62 hp39 => ?_)
        have hp39 : (o_length41_62.toInt = 0) := hp39
        have g40 := rgI o_length41_62
        refine Sf_cb1 (s_X6_faultCode o_at33_39 o_fault33_41 ) (fun r52_72 hp41 => ?_)
        have g42 := rgI r52_72
        refine Sf_some (show ((o_length41_62.toInt = 0 ∧ (0 ≤ p1.toInt ∧ p1.toInt ≤ 3 ∧ 1 ≤ p2.toInt ∧ p2.toInt ≤ 120 ∧ p2.toInt ≤ s_tape_length.toInt)) ∨ (r52_72.toInt = -1 ∧ o_length41_62.toInt = s_tape_length.toInt ∧ none = none ∧ ¬ (0 ≤ p1.toInt ∧ p1.toInt ≤ 3 ∧ 1 ≤ p2.toInt ∧ p2.toInt ≤ 120 ∧ p2.toInt ≤ s_tape_length.toInt) ∧ s_page_readers = s_page_readers)) from ?_)
        (first | (refine Or.inl ⟨?_, ?_⟩ <;> (first | omega | assumption | with_reducible rfl) <;> done) | (refine Or.inr ⟨?_, ?_, ?_, ?_, ?_⟩ <;> (first | omega | assumption | with_reducible rfl) <;> done))
      · skip
        refine Sf_cb1 (s_X9_clear s_tape_length ) (fun o_length41_95 hp43 => ?_)
        have hp43 : (o_length41_95.toInt = 0) := hp43
        have g44 := rgI o_length41_95
        refine Sf_cb1 (s_X4_forgetReader s_page_readers p1 ) (fun o_readers61_105 hp45 => ?_)
        have g46 := rgI o_readers61_105
        refine Sf_gdN (by omega) (by omega) ?_
        refine Sf_some (show ((o_length41_95.toInt = 0 ∧ (0 ≤ p1.toInt ∧ p1.toInt ≤ 3 ∧ 1 ≤ p2.toInt ∧ p2.toInt ≤ 120 ∧ p2.toInt ≤ s_tape_length.toInt)) ∨ ((v_58.1).toInt = -1 ∧ o_length41_95.toInt = s_tape_length.toInt ∧ (some ((10 + Int32.toNatClampNeg p1), v_58)) = none ∧ ¬ (0 ≤ p1.toInt ∧ p1.toInt ≤ 3 ∧ 1 ≤ p2.toInt ∧ p2.toInt ≤ 120 ∧ p2.toInt ≤ s_tape_length.toInt) ∧ o_readers61_105 = s_page_readers)) from ?_)
        (first | (refine Or.inl ⟨?_, ?_⟩ <;> (first | omega | assumption | with_reducible rfl) <;> done) | (refine Or.inr ⟨?_, ?_, ?_, ?_, ?_⟩ <;> (first | omega | assumption | with_reducible rfl) <;> done))
set_option maxHeartbeats 4000000 in
set_option maxRecDepth 100000 in
theorem e_X11_story (G : kG) (s_scribe_length : Int32) (s_scribe_at : Int32) (s_scribe_used : Int32) (s_scribe_fault : Int32) (s_tape_length : Int32) (s_scribe_code : Nat → Int32) (s_scribe_middles : Nat → Int32) (s_scribe_starts : Nat → Int32) (s_tape_bytes : Nat → Int32) (p1 : Int32) (p2 : Int32) (hp0 : 0 ≤ s_tape_length.toInt) (hp1 : s_tape_length.toInt ≤ 200) (hp2 : ∀ j, 0 ≤ (s_scribe_middles j).toInt ∧ (s_scribe_middles j).toInt ≤ 120) (hp3 : ∀ j, 0 ≤ (s_scribe_starts j).toInt ∧ (s_scribe_starts j).toInt ≤ 120) : Sf (f_X11_story G s_scribe_length s_scribe_at s_scribe_used s_scribe_fault s_tape_length s_scribe_code s_scribe_middles s_scribe_starts s_tape_bytes p1 p2) (fun (y : Int32 × Int32 × Int32 × Int32 × Int32 × Int32 × (Nat → Int32) × (Nat → Int32) × (Nat → Int32) × Option (Nat × kTv)) => (((y.2.2.2.2.2.1).toInt = 0 ∧ (0 ≤ p1.toInt ∧ p1.toInt ≤ 5 ∧ 1 ≤ p2.toInt ∧ p2.toInt ≤ 60 ∧ p2.toInt ≤ s_tape_length.toInt)) ∨ ((y.1).toInt = -1 ∧ (y.2.2.2.2.2.1).toInt = s_tape_length.toInt ∧ (y.2.2.2.2.2.2.2.2.2) = none ∧ ¬ (0 ≤ p1.toInt ∧ p1.toInt ≤ 5 ∧ 1 ≤ p2.toInt ∧ p2.toInt ≤ 60 ∧ p2.toInt ≤ s_tape_length.toInt)))) := by
  have g1 := rgI s_scribe_length
  have g2 := rgI s_scribe_at
  have g3 := rgI s_scribe_used
  have g4 := rgI s_scribe_fault
  have g5 := rgI s_tape_length
  have g6 := rgI p1
  have g7 := rgI p2
  have hFU : (100000 : Int) ≤ (FU : Int) := Int.ofNat_le.mpr FU_ge
  rw [f_X11_story]
  refine Sf_cb1 (s_X11_isStory p1 ) (fun r1_1 hp8 => ?_)
  have hp8 : ((r1_1.toInt = 0 ∨ r1_1.toInt = 1)) ∧ ((r1_1.toInt = 1 ∧ 0 ≤ p1.toInt ∧ p1.toInt ≤ 5) ∨ (r1_1.toInt = 0 ∧ (p1.toInt < 0 ∨ 5 < p1.toInt))) := hp8
  obtain ⟨hq9, hq10⟩ := hp8
  have g11 := rgI r1_1
  refine Sf_ite (fun h12 => ?_) (fun h12 => ?_)
  · skip
    have l13 : (0 : Int32).toInt = 0 := by decide
    have c14 := eqI h12
    have l15 : ((-1) : Int32).toInt = -1 := by decide
    refine Sf_some (show ((s_tape_length.toInt = 0 ∧ (0 ≤ p1.toInt ∧ p1.toInt ≤ 5 ∧ 1 ≤ p2.toInt ∧ p2.toInt ≤ 60 ∧ p2.toInt ≤ s_tape_length.toInt)) ∨ ((-1 : Int32).toInt = -1 ∧ s_tape_length.toInt = s_tape_length.toInt ∧ none = none ∧ ¬ (0 ≤ p1.toInt ∧ p1.toInt ≤ 5 ∧ 1 ≤ p2.toInt ∧ p2.toInt ≤ 60 ∧ p2.toInt ≤ s_tape_length.toInt))) from ?_)
    (first | (refine Or.inl ⟨?_, ?_⟩ <;> (first | omega | assumption | with_reducible rfl) <;> done) | (refine Or.inr ⟨?_, ?_, ?_, ?_⟩ <;> (first | omega | assumption | with_reducible rfl) <;> done))
  · skip
    have l16 : (0 : Int32).toInt = 0 := by decide
    have c17 := neI h12
    have l18 : (60 : Int32).toInt = 60 := by decide
    refine Sf_cb1 (e_X11_tapeHas s_tape_length p2 60 ) (fun r11_24 hp19 => ?_)
    have hp19 : ((r11_24.toInt = 0 ∨ r11_24.toInt = 1)) ∧ ((r11_24.toInt = 1 ∧ 1 ≤ p2.toInt ∧ p2.toInt ≤ (60 : Int32).toInt ∧ p2.toInt ≤ s_tape_length.toInt) ∨ (r11_24.toInt = 0 ∧ ¬ (1 ≤ p2.toInt ∧ p2.toInt ≤ (60 : Int32).toInt ∧ p2.toInt ≤ s_tape_length.toInt))) := hp19
    obtain ⟨hq20, hq21⟩ := hp19
    have g22 := rgI r11_24
    refine Sf_ite (fun h23 => ?_) (fun h23 => ?_)
    · skip
      have c24 := eqI h23
      have l25 : ((-1) : Int32).toInt = -1 := by decide
      refine Sf_some (show ((s_tape_length.toInt = 0 ∧ (0 ≤ p1.toInt ∧ p1.toInt ≤ 5 ∧ 1 ≤ p2.toInt ∧ p2.toInt ≤ 60 ∧ p2.toInt ≤ s_tape_length.toInt)) ∨ ((-1 : Int32).toInt = -1 ∧ s_tape_length.toInt = s_tape_length.toInt ∧ none = none ∧ ¬ (0 ≤ p1.toInt ∧ p1.toInt ≤ 5 ∧ 1 ≤ p2.toInt ∧ p2.toInt ≤ 60 ∧ p2.toInt ≤ s_tape_length.toInt))) from ?_)
      (first | (refine Or.inl ⟨?_, ?_⟩ <;> (first | omega | assumption | with_reducible rfl) <;> done) | (refine Or.inr ⟨?_, ?_, ?_, ?_⟩ <;> (first | omega | assumption | with_reducible rfl) <;> done))
    · skip
      have c26 := neI h23
      refine Sf_cb8 (s_X6_writeExpression 200 s_scribe_length s_scribe_at s_scribe_used s_scribe_fault s_tape_bytes s_scribe_code s_scribe_middles s_scribe_starts p2 (by omega) (by omega) (by omega) (by assumption) (by assumption)) (fun o_length31_37 o_at31_38 o_used31_39 o_fault31_40 o_code31_41 o_middles31_42 o_starts31_43 nt31_44 hp27 => ?_)
      have hp27 : (∀ j, 0 ≤ (o_middles31_42 j).toInt ∧ (o_middles31_42 j).toInt ≤ 120) ∧ (∀ j, 0 ≤ (o_starts31_43 j).toInt ∧ (o_starts31_43 j).toInt ≤ 120) ∧ (∀ v, nt31_44 = some v → tOK v) := hp27
      obtain ⟨hq28, hq29, hq30⟩ := hp27
      have g31 := rgI o_length31_37
      have g32 := rgI o_at31_38
      have g33 := rgI o_used31_39
      have g34 := rgI o_fault31_40
      refine Sf_oN (fun hn35 => ?_) (fun v_57 hn36 => ?_)
      · skip
        refine Sf_cb1 (s_X9_clear s_tape_length ) (fun o_length39_61 hp37 => ?_)
        have hp37 : (o_length39_61.toInt = 0) := hp37
        have g38 := rgI o_length39_61
        refine Sf_cb1 (s_X6_faultCode o_at31_38 o_fault31_40 ) (fun r50_71 hp39 => ?_)
        have g40 := rgI r50_71
        refine Sf_some (show ((o_length39_61.toInt = 0 ∧ (0 ≤ p1.toInt ∧ p1.toInt ≤ 5 ∧ 1 ≤ p2.toInt ∧ p2.toInt ≤ 60 ∧ p2.toInt ≤ s_tape_length.toInt)) ∨ (r50_71.toInt = -1 ∧ o_length39_61.toInt = s_tape_length.toInt ∧ none = none ∧ ¬ (0 ≤ p1.toInt ∧ p1.toInt ≤ 5 ∧ 1 ≤ p2.toInt ∧ p2.toInt ≤ 60 ∧ p2.toInt ≤ s_tape_length.toInt))) from ?_)
        (first | (refine Or.inl ⟨?_, ?_⟩ <;> (first | omega | assumption | with_reducible rfl) <;> done) | (refine Or.inr ⟨?_, ?_, ?_, ?_⟩ <;> (first | omega | assumption | with_reducible rfl) <;> done))
      · skip
        refine Sf_cb1 (s_X9_clear s_tape_length ) (fun o_length39_93 hp41 => ?_)
        have hp41 : (o_length39_93.toInt = 0) := hp41
        have g42 := rgI o_length39_93
        refine Sf_gdN (by omega) (by omega) ?_
        refine Sf_some (show ((o_length39_93.toInt = 0 ∧ (0 ≤ p1.toInt ∧ p1.toInt ≤ 5 ∧ 1 ≤ p2.toInt ∧ p2.toInt ≤ 60 ∧ p2.toInt ≤ s_tape_length.toInt)) ∨ ((v_57.1).toInt = -1 ∧ o_length39_93.toInt = s_tape_length.toInt ∧ (some ((14 + Int32.toNatClampNeg p1), v_57)) = none ∧ ¬ (0 ≤ p1.toInt ∧ p1.toInt ≤ 5 ∧ 1 ≤ p2.toInt ∧ p2.toInt ≤ 60 ∧ p2.toInt ≤ s_tape_length.toInt))) from ?_)
        (first | (refine Or.inl ⟨?_, ?_⟩ <;> (first | omega | assumption | with_reducible rfl) <;> done) | (refine Or.inr ⟨?_, ?_, ?_, ?_⟩ <;> (first | omega | assumption | with_reducible rfl) <;> done))
set_option maxHeartbeats 4000000 in
set_option maxRecDepth 100000 in
theorem e_X11_check (G : kG) (s_page_readers : Int32) (s_page_day : Int32) (s_sky_many : Int32) (s_sky_seed : Int32) (s_tape_length : Int32) (s_page_heights : Nat → Int32) (s_page_highest : Nat → Int32) (s_page_marked : Nat → Int32) (s_page_shapes : Nat → Int32) (s_tape_bytes : Nat → Int32) (s_page_reckoner_letters : Nat → Int32) (s_page_reckoner_values : Nat → Int32) (s_sky_reckoner_letters : Nat → Int32) (s_sky_reckoner_values : Nat → Int32) (p1 : Int32) (p2 : Int32) (p3 : Int32) (hp0 : gOK G) (hp1 : 0 ≤ s_sky_many.toInt) (hp2 : s_sky_many.toInt ≤ 10) (hp3 : 0 ≤ s_tape_length.toInt) (hp4 : s_tape_length.toInt ≤ 200) : Sf (f_X11_check G s_page_readers s_page_day s_sky_many s_sky_seed s_tape_length s_page_heights s_page_highest s_page_marked s_page_shapes s_tape_bytes s_page_reckoner_letters s_page_reckoner_values s_sky_reckoner_letters s_sky_reckoner_values p1 p2 p3) (fun (y : Int32 × Int32 × Int32 × Int32 × (Nat → Int32) × (Nat → Int32) × (Nat → Int32) × (Nat → Int32) × (Nat → Int32) × (Nat → Int32) × (Nat → Int32) × (Nat → Int32)) => (((y.2.2.2.1).toInt = 0 ∧ (0 ≤ p1.toInt ∧ p1.toInt ≤ 3 ∧ 0 ≤ p2.toInt ∧ p2.toInt ≤ 399 ∧ 0 ≤ p3.toInt ∧ 12 * p3.toInt ≤ s_tape_length.toInt)) ∨ ((y.2.2.2.1).toInt = s_tape_length.toInt ∧ (y.1).toInt = -2 ∧ ¬ (0 ≤ p1.toInt ∧ p1.toInt ≤ 3 ∧ 0 ≤ p2.toInt ∧ p2.toInt ≤ 399 ∧ 0 ≤ p3.toInt ∧ 12 * p3.toInt ≤ s_tape_length.toInt)))) := by
  have g1 := rgI s_page_readers
  have g2 := rgI s_page_day
  have g3 := rgI s_sky_many
  have g4 := rgI s_sky_seed
  have g5 := rgI s_tape_length
  have g6 := rgI p1
  have g7 := rgI p2
  have g8 := rgI p3
  have hFU : (100000 : Int) ≤ (FU : Int) := Int.ofNat_le.mpr FU_ge
  rw [f_X11_check]
  refine Sf_cb1 (s_X11_isReader p1 ) (fun r1_1 hp9 => ?_)
  have hp9 : ((r1_1.toInt = 0 ∨ r1_1.toInt = 1)) ∧ ((r1_1.toInt = 1 ∧ 0 ≤ p1.toInt ∧ p1.toInt ≤ 3) ∨ (r1_1.toInt = 0 ∧ (p1.toInt < 0 ∨ 3 < p1.toInt))) := hp9
  obtain ⟨hq10, hq11⟩ := hp9
  have g12 := rgI r1_1
  refine Sf_ite (fun h13 => ?_) (fun h13 => ?_)
  · skip
    have l14 : (0 : Int32).toInt = 0 := by decide
    have c15 := eqI h13
    have l16 : ((-2) : Int32).toInt = -2 := by decide
    refine Sf_some (show ((s_tape_length.toInt = 0 ∧ (0 ≤ p1.toInt ∧ p1.toInt ≤ 3 ∧ 0 ≤ p2.toInt ∧ p2.toInt ≤ 399 ∧ 0 ≤ p3.toInt ∧ 12 * p3.toInt ≤ s_tape_length.toInt)) ∨ (s_tape_length.toInt = s_tape_length.toInt ∧ (-2 : Int32).toInt = -2 ∧ ¬ (0 ≤ p1.toInt ∧ p1.toInt ≤ 3 ∧ 0 ≤ p2.toInt ∧ p2.toInt ≤ 399 ∧ 0 ≤ p3.toInt ∧ 12 * p3.toInt ≤ s_tape_length.toInt))) from ?_)
    (first | (refine Or.inl ⟨?_, ?_⟩ <;> (first | omega | assumption | with_reducible rfl) <;> done) | (refine Or.inr ⟨?_, ?_, ?_⟩ <;> (first | omega | assumption | with_reducible rfl) <;> done))
  · skip
    have l17 : (0 : Int32).toInt = 0 := by decide
    have c18 := neI h13
    refine Sf_cb1 (s_X11_isDay p2 ) (fun r8_26 hp19 => ?_)
    have hp19 : ((r8_26.toInt = 0 ∨ r8_26.toInt = 1)) ∧ ((r8_26.toInt = 1 ∧ 0 ≤ p2.toInt ∧ p2.toInt ≤ 399) ∨ (r8_26.toInt = 0 ∧ (p2.toInt < 0 ∨ 399 < p2.toInt))) := hp19
    obtain ⟨hq20, hq21⟩ := hp19
    have g22 := rgI r8_26
    refine Sf_ite (fun h23 => ?_) (fun h23 => ?_)
    · skip
      have c24 := eqI h23
      have l25 : ((-2) : Int32).toInt = -2 := by decide
      refine Sf_some (show ((s_tape_length.toInt = 0 ∧ (0 ≤ p1.toInt ∧ p1.toInt ≤ 3 ∧ 0 ≤ p2.toInt ∧ p2.toInt ≤ 399 ∧ 0 ≤ p3.toInt ∧ 12 * p3.toInt ≤ s_tape_length.toInt)) ∨ (s_tape_length.toInt = s_tape_length.toInt ∧ (-2 : Int32).toInt = -2 ∧ ¬ (0 ≤ p1.toInt ∧ p1.toInt ≤ 3 ∧ 0 ≤ p2.toInt ∧ p2.toInt ≤ 399 ∧ 0 ≤ p3.toInt ∧ 12 * p3.toInt ≤ s_tape_length.toInt))) from ?_)
      (first | (refine Or.inl ⟨?_, ?_⟩ <;> (first | omega | assumption | with_reducible rfl) <;> done) | (refine Or.inr ⟨?_, ?_, ?_⟩ <;> (first | omega | assumption | with_reducible rfl) <;> done))
    · skip
      have c26 := neI h23
      have l27 : (12 : Int32).toInt = 12 := by decide
      have g28 := rgI (s_tape_length / 12)
      have d29 := dn_ s_tape_length 12 12 (by decide) (by decide)
      refine Sf_cb1 (s_X11_isWithin p3 0 (s_tape_length / 12) ) (fun r26_51 hp30 => ?_)
      have hp30 : ((r26_51.toInt = 0 ∨ r26_51.toInt = 1)) ∧ ((r26_51.toInt = 1 ∧ (0 : Int32).toInt ≤ p3.toInt ∧ p3.toInt ≤ (s_tape_length / 12).toInt) ∨ (r26_51.toInt = 0 ∧ (p3.toInt < (0 : Int32).toInt ∨ (s_tape_length / 12).toInt < p3.toInt))) := hp30
      obtain ⟨hq31, hq32⟩ := hp30
      have g33 := rgI r26_51
      refine Sf_ite (fun h34 => ?_) (fun h34 => ?_)
      · skip
        have c35 := eqI h34
        have l36 : ((-2) : Int32).toInt = -2 := by decide
        refine Sf_some (show ((s_tape_length.toInt = 0 ∧ (0 ≤ p1.toInt ∧ p1.toInt ≤ 3 ∧ 0 ≤ p2.toInt ∧ p2.toInt ≤ 399 ∧ 0 ≤ p3.toInt ∧ 12 * p3.toInt ≤ s_tape_length.toInt)) ∨ (s_tape_length.toInt = s_tape_length.toInt ∧ (-2 : Int32).toInt = -2 ∧ ¬ (0 ≤ p1.toInt ∧ p1.toInt ≤ 3 ∧ 0 ≤ p2.toInt ∧ p2.toInt ≤ 399 ∧ 0 ≤ p3.toInt ∧ 12 * p3.toInt ≤ s_tape_length.toInt))) from ?_)
        (first | (refine Or.inl ⟨?_, ?_⟩ <;> (first | omega | assumption | with_reducible rfl) <;> done) | (refine Or.inr ⟨?_, ?_, ?_⟩ <;> (first | omega | assumption | with_reducible rfl) <;> done))
      · skip
        have c37 := neI h34
        refine Sf_cb7 (s_X7_lay G s_sky_many s_sky_seed s_page_readers s_page_day s_page_heights s_page_highest s_page_shapes s_sky_reckoner_letters s_sky_reckoner_values p2 (by assumption) (by omega) (by omega)) (fun o_p1_readers44_64 o_p1_day44_65 o_p1_heights44_66 o_p1_highest44_67 o_p1_shapes44_68 o_reckoner_letters44_69 o_reckoner_values44_70 hp38 => ?_)
        have g39 := rgI o_p1_readers44_64
        have g40 := rgI o_p1_day44_65
        refine Sf_gdN (by omega) (by omega) ?_
        have t48 := tN p1 (by omega)
        refine Sf_oT (fun z46 hz47 => by cases hz47; omega) (fun hn41 => ?_) (fun i42 t_120 hr43 hi44 hg45 => ?_)
        · skip
          refine Sf_cb3 (s_X4_read_N o_p1_readers44_64 o_p1_day44_65 o_p1_heights44_66 s_page_marked o_p1_shapes44_68 s_page_reckoner_letters p1 ) (fun o_readers58_128 o_marked58_129 o_reckoner_letters58_130 hp49 => ?_)
          have g50 := rgI o_readers58_128
          rw [f_X11_check_J61]
          refine Sf_cb1 (s_X4_firstWrong s_tape_length s_tape_bytes o_p1_heights44_66 o_marked58_129 p1 p3 (by omega)) (fun r71_86 hp51 => ?_)
          have g52 := rgI r71_86
          refine Sf_cb1 (s_X9_clear s_tape_length ) (fun o_length80_97 hp53 => ?_)
          have hp53 : (o_length80_97.toInt = 0) := hp53
          have g54 := rgI o_length80_97
          refine Sf_some (show ((o_length80_97.toInt = 0 ∧ (0 ≤ p1.toInt ∧ p1.toInt ≤ 3 ∧ 0 ≤ p2.toInt ∧ p2.toInt ≤ 399 ∧ 0 ≤ p3.toInt ∧ 12 * p3.toInt ≤ s_tape_length.toInt)) ∨ (o_length80_97.toInt = s_tape_length.toInt ∧ r71_86.toInt = -2 ∧ ¬ (0 ≤ p1.toInt ∧ p1.toInt ≤ 3 ∧ 0 ≤ p2.toInt ∧ p2.toInt ≤ 399 ∧ 0 ≤ p3.toInt ∧ 12 * p3.toInt ≤ s_tape_length.toInt))) from ?_)
          (first | (refine Or.inl ⟨?_, ?_⟩ <;> (first | omega | assumption | with_reducible rfl) <;> done) | (refine Or.inr ⟨?_, ?_, ?_⟩ <;> (first | omega | assumption | with_reducible rfl) <;> done))
        · skip
          cases hr43
          obtain ⟨a1_t_120, a2_t_120, a3_t_120, a4_t_120, a5_t_120, a6_t_120, a7_t_120⟩ := (‹gOK G›).1 _ _ hg45
          refine Sf_cb4 (s_X4_read (t_120.2.2.1.1) (t_120.2.2.2.2.1) (t_120.2.2.2.1.1) o_p1_readers44_64 o_p1_day44_65 (t_120.2.1) (t_120.2.2.1.2) (t_120.2.2.2.2.2) (t_120.2.2.2.1.2) o_p1_heights44_66 s_page_marked o_p1_shapes44_68 s_page_reckoner_letters s_page_reckoner_values p1 (by omega) (by omega) (by omega) (by omega) (by omega) (by assumption) (by assumption)) (fun o_readers58_141 o_marked58_142 o_reckoner_letters58_143 o_reckoner_values58_144 hp55 => ?_)
          have g56 := rgI o_readers58_141
          rw [f_X11_check_J61]
          refine Sf_cb1 (s_X4_firstWrong s_tape_length s_tape_bytes o_p1_heights44_66 o_marked58_142 p1 p3 (by omega)) (fun r71_86 hp57 => ?_)
          have g58 := rgI r71_86
          refine Sf_cb1 (s_X9_clear s_tape_length ) (fun o_length80_97 hp59 => ?_)
          have hp59 : (o_length80_97.toInt = 0) := hp59
          have g60 := rgI o_length80_97
          refine Sf_some (show ((o_length80_97.toInt = 0 ∧ (0 ≤ p1.toInt ∧ p1.toInt ≤ 3 ∧ 0 ≤ p2.toInt ∧ p2.toInt ≤ 399 ∧ 0 ≤ p3.toInt ∧ 12 * p3.toInt ≤ s_tape_length.toInt)) ∨ (o_length80_97.toInt = s_tape_length.toInt ∧ r71_86.toInt = -2 ∧ ¬ (0 ≤ p1.toInt ∧ p1.toInt ≤ 3 ∧ 0 ≤ p2.toInt ∧ p2.toInt ≤ 399 ∧ 0 ≤ p3.toInt ∧ 12 * p3.toInt ≤ s_tape_length.toInt))) from ?_)
          (first | (refine Or.inl ⟨?_, ?_⟩ <;> (first | omega | assumption | with_reducible rfl) <;> done) | (refine Or.inr ⟨?_, ?_, ?_⟩ <;> (first | omega | assumption | with_reducible rfl) <;> done))
set_option maxHeartbeats 4000000 in
set_option maxRecDepth 100000 in
theorem e_X12_check_L52 (s_tape : Nat → Int32) (p3 : Int32) (o_paperHigh39_112 : Int32) (o_paperShape39_113 : Int32) (o_highAt39_114 : Nat → Int32) (o_shapeAt39_116 : Nat → Int32) (o_atA46_122 : Int32) (o_atB46_123 : Int32) (o_atD46_124 : Int32) (o_atF46_125 : Int32) (o_atG46_126 : Int32) (o_atH46_127 : Int32) (o_atL46_128 : Int32) (o_atM46_129 : Int32) (o_atN46_130 : Int32) (o_atS46_131 : Int32) (o_atT46_132 : Int32) (o_atU46_133 : Int32) (o_atX46_134 : Int32) (o_first46_135 : Nat → Int32) (o_greatest46_136 : Nat → Int32) (o_isRefused46_137 : Nat → Int32) (o_last46_138 : Nat → Int32) (o_marked46_139 : Nat → Int32) (o_worth46_140 : Nat → Int32) (K116 : Int32 → Option (Int32 × Int32 × Int32 × Int32 × Int32 × Int32 × Int32 × Int32 × Int32 × Int32 × Int32 × Int32 × Int32 × Int32 × Int32 × Int32 × Int32 × (Nat → Int32) × (Nat → Int32) × (Nat → Int32) × (Nat → Int32) × (Nat → Int32) × (Nat → Int32) × (Nat → Int32) × (Nat → Int32))) (K143 : Int32 → Option (Int32 × Int32 × Int32 × Int32 × Int32 × Int32 × Int32 × Int32 × Int32 × Int32 × Int32 × Int32 × Int32 × Int32 × Int32 × Int32 × Int32 × (Nat → Int32) × (Nat → Int32) × (Nat → Int32) × (Nat → Int32) × (Nat → Int32) × (Nat → Int32) × (Nat → Int32) × (Nat → Int32))) (K156 : Option (Int32 × Int32 × Int32 × Int32 × Int32 × Int32 × Int32 × Int32 × Int32 × Int32 × Int32 × Int32 × Int32 × Int32 × Int32 × Int32 × Int32 × (Nat → Int32) × (Nat → Int32) × (Nat → Int32) × (Nat → Int32) × (Nat → Int32) × (Nat → Int32) × (Nat → Int32) × (Nat → Int32))) (hp0 : mkOK o_marked46_139) (hp1 : 0 ≤ p3.toInt) (hp2 : p3.toInt ≤ 16) (hK116 : ∀ (a0 : Int32), Sf (K116 a0) (fun (y : Int32 × Int32 × Int32 × Int32 × Int32 × Int32 × Int32 × Int32 × Int32 × Int32 × Int32 × Int32 × Int32 × Int32 × Int32 × Int32 × Int32 × (Nat → Int32) × (Nat → Int32) × (Nat → Int32) × (Nat → Int32) × (Nat → Int32) × (Nat → Int32) × (Nat → Int32) × (Nat → Int32)) => ((y.2.1).toInt = 0))) (hK143 : ∀ (a0 : Int32), Sf (K143 a0) (fun (y : Int32 × Int32 × Int32 × Int32 × Int32 × Int32 × Int32 × Int32 × Int32 × Int32 × Int32 × Int32 × Int32 × Int32 × Int32 × Int32 × Int32 × (Nat → Int32) × (Nat → Int32) × (Nat → Int32) × (Nat → Int32) × (Nat → Int32) × (Nat → Int32) × (Nat → Int32) × (Nat → Int32)) => ((y.2.1).toInt = 0))) (hK156 : Sf (K156 ) (fun (y : Int32 × Int32 × Int32 × Int32 × Int32 × Int32 × Int32 × Int32 × Int32 × Int32 × Int32 × Int32 × Int32 × Int32 × Int32 × Int32 × Int32 × (Nat → Int32) × (Nat → Int32) × (Nat → Int32) × (Nat → Int32) × (Nat → Int32) × (Nat → Int32) × (Nat → Int32) × (Nat → Int32)) => ((y.2.1).toInt = 0))) : ∀ (n : Nat) (x4_259 : Int32), (0 ≤ x4_259.toInt) → (x4_259.toInt ≤ p3.toInt) → (18 - x4_259.toInt < (n : Int)) → Sf (f_X12_check_L52 s_tape p3 o_paperHigh39_112 o_paperShape39_113 o_highAt39_114 o_shapeAt39_116 o_atA46_122 o_atB46_123 o_atD46_124 o_atF46_125 o_atG46_126 o_atH46_127 o_atL46_128 o_atM46_129 o_atN46_130 o_atS46_131 o_atT46_132 o_atU46_133 o_atX46_134 o_first46_135 o_greatest46_136 o_isRefused46_137 o_last46_138 o_marked46_139 o_worth46_140 K116 K143 K156 n x4_259) (fun (y : Int32 × Int32 × Int32 × Int32 × Int32 × Int32 × Int32 × Int32 × Int32 × Int32 × Int32 × Int32 × Int32 × Int32 × Int32 × Int32 × Int32 × (Nat → Int32) × (Nat → Int32) × (Nat → Int32) × (Nat → Int32) × (Nat → Int32) × (Nat → Int32) × (Nat → Int32) × (Nat → Int32)) => ((y.2.1).toInt = 0)) := by
  have hFU : (100000 : Int) ≤ (FU : Int) := Int.ofNat_le.mpr FU_ge
  have g1 := rgI p3
  have g2 := rgI o_paperHigh39_112
  have g3 := rgI o_paperShape39_113
  have g4 := rgI o_atA46_122
  have g5 := rgI o_atB46_123
  have g6 := rgI o_atD46_124
  have g7 := rgI o_atF46_125
  have g8 := rgI o_atG46_126
  have g9 := rgI o_atH46_127
  have g10 := rgI o_atL46_128
  have g11 := rgI o_atM46_129
  have g12 := rgI o_atN46_130
  have g13 := rgI o_atS46_131
  have g14 := rgI o_atT46_132
  have g15 := rgI o_atU46_133
  have g16 := rgI o_atX46_134
  intro n
  induction n with
  | zero =>
    intro x4_259 hi0 hi1 hm
    have g17 := rgI x4_259
    exact absurd hm (by omega)
  | succ n ih =>
    intro x4_259 hi0 hi1 hm
    rw [f_X12_check_L52]
    have g18 := rgI x4_259
    have l19 : (0 : Int32).toInt = 0 := by decide
    refine Sf_rdI (by omega) (by omega) (fun v59_260 hv20 => ?_)
    have g21 := rgI v59_260
    have hmrv59_260 := mkOK_rd (by assumption : mkOK o_marked46_139) hv20
    refine Sf_ite (fun h22 => ?_) (fun h22 => ?_)
    · skip
      have c23 := leI h22
      exact hK156  
    · skip
      have c24 := nleI h22
      refine Sf_ite (fun h25 => ?_) (fun h25 => ?_)
      · skip
        have c26 := eqI h25
        have l27 : (3 : Int32).toInt = 3 := by decide
        have g28 := rgI (3 * p3)
        first | have e29 := mlY 3 p3 (3) (by decide) (by omega) (by omega) | skip
        refine Sf_some (show ((0 : Int32).toInt = 0) from ?_)
        (omega)
      · skip
        have c30 := neI h25
        have l31 : (3 : Int32).toInt = 3 := by decide
        have g32 := rgI (3 * x4_259)
        first | have e33 := mlY 3 x4_259 (3) (by decide) (by omega) (by omega) | skip
        refine Sf_cb1 (s_X12_numberAt s_tape (3 * x4_259) (by omega) (by omega)) (fun r78_270 hp34 => ?_)
        have g35 := rgI r78_270
        refine Sf_rdI (by omega) (by omega) (fun v87_275 hv36 => ?_)
        have g37 := rgI v87_275
        refine Sf_ite (fun h38 => ?_) (fun h38 => ?_)
        · skip
          have c39 := eqI h38
          have g40 := rgI ((3 * x4_259) + 1)
          first | have e41 := adN (3 * x4_259) 1 (1) (by decide) (by omega) (by omega) | skip
          refine Sf_cb1 (s_X12_numberAt s_tape ((3 * x4_259) + 1) (by omega) (by omega)) (fun r103_282 hp42 => ?_)
          have g43 := rgI r103_282
          refine Sf_rdI (by omega) (by omega) (fun v112_287 hv44 => ?_)
          have g45 := rgI v112_287
          refine Sf_ite (fun h46 => ?_) (fun h46 => ?_)
          · skip
            have c47 := eqI h46
            have g48 := rgI ((3 * x4_259) + 2)
            first | have e49 := adN (3 * x4_259) 2 (2) (by decide) (by omega) (by omega) | skip
            refine Sf_cb1 (s_X12_numberAt s_tape ((3 * x4_259) + 2) (by omega) (by omega)) (fun r130_294 hp50 => ?_)
            have g51 := rgI r130_294
            refine Sf_rdI (by omega) (by omega) (fun v139_299 hv52 => ?_)
            have g53 := rgI v139_299
            refine Sf_ite (fun h54 => ?_) (fun h54 => ?_)
            · skip
              have c55 := eqI h54
              refine Sf_nmI (fun v150_306 hv56 => ?_)
              have g57 := rgI (x4_259 + 1)
              first | have e58 := adN x4_259 1 (1) (by decide) (by omega) (by omega) | skip
              have q59 := eqI hv56
              exact ih v150_306 (by omega) (by omega) (by omega)
            · skip
              have c60 := neI h54
              exact hK143 x4_259 
          · skip
            have c61 := neI h46
            exact hK116 x4_259 
        · skip
          have c62 := neI h38
          refine Sf_some (show ((0 : Int32).toInt = 0) from ?_)
          (omega)
set_option maxHeartbeats 4000000 in
set_option maxRecDepth 100000 in
theorem e_X12_check (s_taped : Int32) (s_sources : Int32) (s_seed : Int32) (s_atA : Int32) (s_atB : Int32) (s_atD : Int32) (s_atF : Int32) (s_atG : Int32) (s_atH : Int32) (s_atL : Int32) (s_atM : Int32) (s_atN : Int32) (s_atS : Int32) (s_atT : Int32) (s_atU : Int32) (s_atX : Int32) (s_paperHigh : Int32) (s_paperShape : Int32) (s_byStar : Nat → Int32) (s_code : Nat → Int32) (s_codeArg : Nat → Int32) (s_codeFrom : Nat → Int32) (s_codeTo : Nat → Int32) (s_first : Nat → Int32) (s_greatest : Nat → Int32) (s_highAt : Nat → Int32) (s_isRefused : Nat → Int32) (s_last : Nat → Int32) (s_many : Nat → Int32) (s_marked : Nat → Int32) (s_minuteOf : Nat → Int32) (s_shape : Nat → Int32) (s_shapeAt : Nat → Int32) (s_sumFrom : Nat → Int32) (s_tape : Nat → Int32) (s_weekdays : Nat → Int32) (s_wide : Nat → Int32) (s_worth : Nat → Int32) (p1 : Int32) (p2 : Int32) (p3 : Int32) (hp0 : 0 ≤ s_sources.toInt) (hp1 : s_sources.toInt ≤ 10) (hp2 : rOK s_code s_codeFrom s_codeTo s_sumFrom s_many) (hp3 : mkOK s_marked) (hp4 : 0 ≤ s_taped.toInt) (hp5 : s_taped.toInt ≤ 200) : Sf (f_X12_check s_taped s_sources s_seed s_atA s_atB s_atD s_atF s_atG s_atH s_atL s_atM s_atN s_atS s_atT s_atU s_atX s_paperHigh s_paperShape s_byStar s_code s_codeArg s_codeFrom s_codeTo s_first s_greatest s_highAt s_isRefused s_last s_many s_marked s_minuteOf s_shape s_shapeAt s_sumFrom s_tape s_weekdays s_wide s_worth p1 p2 p3) (fun (y : Int32 × Int32 × Int32 × Int32 × Int32 × Int32 × Int32 × Int32 × Int32 × Int32 × Int32 × Int32 × Int32 × Int32 × Int32 × Int32 × Int32 × (Nat → Int32) × (Nat → Int32) × (Nat → Int32) × (Nat → Int32) × (Nat → Int32) × (Nat → Int32) × (Nat → Int32) × (Nat → Int32)) => (((y.2.1).toInt = 0 ∧ (0 ≤ p1.toInt ∧ p1.toInt ≤ 3 ∧ 0 ≤ p2.toInt ∧ p2.toInt ≤ 399 ∧ 0 ≤ p3.toInt ∧ 12 * p3.toInt ≤ s_taped.toInt)) ∨ ((y.2.1).toInt = s_taped.toInt ∧ (y.1).toInt = -2 ∧ ¬ (0 ≤ p1.toInt ∧ p1.toInt ≤ 3 ∧ 0 ≤ p2.toInt ∧ p2.toInt ≤ 399 ∧ 0 ≤ p3.toInt ∧ 12 * p3.toInt ≤ s_taped.toInt)))) := by
  have g1 := rgI s_taped
  have g2 := rgI s_sources
  have g3 := rgI s_seed
  have g4 := rgI s_atA
  have g5 := rgI s_atB
  have g6 := rgI s_atD
  have g7 := rgI s_atF
  have g8 := rgI s_atG
  have g9 := rgI s_atH
  have g10 := rgI s_atL
  have g11 := rgI s_atM
  have g12 := rgI s_atN
  have g13 := rgI s_atS
  have g14 := rgI s_atT
  have g15 := rgI s_atU
  have g16 := rgI s_atX
  have g17 := rgI s_paperHigh
  have g18 := rgI s_paperShape
  have g19 := rgI p1
  have g20 := rgI p2
  have g21 := rgI p3
  have hFU : (100000 : Int) ≤ (FU : Int) := Int.ofNat_le.mpr FU_ge
  rw [f_X12_check]
  refine Sf_cb1 (s_X12_isReader p1 ) (fun r1_1 hp22 => ?_)
  have hp22 : ((r1_1.toInt = 0 ∨ r1_1.toInt = 1)) ∧ ((r1_1.toInt = 1 ∧ 0 ≤ p1.toInt ∧ p1.toInt ≤ 3) ∨ (r1_1.toInt = 0 ∧ (p1.toInt < 0 ∨ 3 < p1.toInt))) := hp22
  obtain ⟨hq23, hq24⟩ := hp22
  have g25 := rgI r1_1
  refine Sf_ite (fun h26 => ?_) (fun h26 => ?_)
  · skip
    have l27 : (0 : Int32).toInt = 0 := by decide
    have c28 := eqI h26
    have l29 : ((-2) : Int32).toInt = -2 := by decide
    refine Sf_some (show ((s_taped.toInt = 0 ∧ (0 ≤ p1.toInt ∧ p1.toInt ≤ 3 ∧ 0 ≤ p2.toInt ∧ p2.toInt ≤ 399 ∧ 0 ≤ p3.toInt ∧ 12 * p3.toInt ≤ s_taped.toInt)) ∨ (s_taped.toInt = s_taped.toInt ∧ (-2 : Int32).toInt = -2 ∧ ¬ (0 ≤ p1.toInt ∧ p1.toInt ≤ 3 ∧ 0 ≤ p2.toInt ∧ p2.toInt ≤ 399 ∧ 0 ≤ p3.toInt ∧ 12 * p3.toInt ≤ s_taped.toInt))) from ?_)
    (first | (refine Or.inl ⟨?_, ?_⟩ <;> (first | omega | assumption | with_reducible rfl) <;> done) | (refine Or.inr ⟨?_, ?_, ?_⟩ <;> (first | omega | assumption | with_reducible rfl) <;> done))
  · skip
    have l30 : (0 : Int32).toInt = 0 := by decide
    have c31 := neI h26
    refine Sf_cb1 (s_X12_isDay p2 ) (fun r8_34 hp32 => ?_)
    have hp32 : ((r8_34.toInt = 0 ∨ r8_34.toInt = 1)) ∧ ((r8_34.toInt = 1 ∧ 0 ≤ p2.toInt ∧ p2.toInt ≤ 399) ∨ (r8_34.toInt = 0 ∧ (p2.toInt < 0 ∨ 399 < p2.toInt))) := hp32
    obtain ⟨hq33, hq34⟩ := hp32
    have g35 := rgI r8_34
    refine Sf_ite (fun h36 => ?_) (fun h36 => ?_)
    · skip
      have c37 := eqI h36
      have l38 : ((-2) : Int32).toInt = -2 := by decide
      refine Sf_some (show ((s_taped.toInt = 0 ∧ (0 ≤ p1.toInt ∧ p1.toInt ≤ 3 ∧ 0 ≤ p2.toInt ∧ p2.toInt ≤ 399 ∧ 0 ≤ p3.toInt ∧ 12 * p3.toInt ≤ s_taped.toInt)) ∨ (s_taped.toInt = s_taped.toInt ∧ (-2 : Int32).toInt = -2 ∧ ¬ (0 ≤ p1.toInt ∧ p1.toInt ≤ 3 ∧ 0 ≤ p2.toInt ∧ p2.toInt ≤ 399 ∧ 0 ≤ p3.toInt ∧ 12 * p3.toInt ≤ s_taped.toInt))) from ?_)
      (first | (refine Or.inl ⟨?_, ?_⟩ <;> (first | omega | assumption | with_reducible rfl) <;> done) | (refine Or.inr ⟨?_, ?_, ?_⟩ <;> (first | omega | assumption | with_reducible rfl) <;> done))
    · skip
      have c39 := neI h36
      refine Sf_ite (fun h40 => ?_) (fun h40 => ?_)
      · skip
        have c41 := ltI h40
        have l42 : ((-2) : Int32).toInt = -2 := by decide
        refine Sf_some (show ((s_taped.toInt = 0 ∧ (0 ≤ p1.toInt ∧ p1.toInt ≤ 3 ∧ 0 ≤ p2.toInt ∧ p2.toInt ≤ 399 ∧ 0 ≤ p3.toInt ∧ 12 * p3.toInt ≤ s_taped.toInt)) ∨ (s_taped.toInt = s_taped.toInt ∧ (-2 : Int32).toInt = -2 ∧ ¬ (0 ≤ p1.toInt ∧ p1.toInt ≤ 3 ∧ 0 ≤ p2.toInt ∧ p2.toInt ≤ 399 ∧ 0 ≤ p3.toInt ∧ 12 * p3.toInt ≤ s_taped.toInt))) from ?_)
        (first | (refine Or.inl ⟨?_, ?_⟩ <;> (first | omega | assumption | with_reducible rfl) <;> done) | (refine Or.inr ⟨?_, ?_, ?_⟩ <;> (first | omega | assumption | with_reducible rfl) <;> done))
      · skip
        have c43 := nltI h40
        refine Sf_ite (fun h44 => ?_) (fun h44 => ?_)
        · skip
          have l45 : (12 : Int32).toInt = 12 := by decide
          have g46 := rgI (s_taped / 12)
          have d47 := dn_ s_taped 12 12 (by decide) (by decide)
          have c48 := leI h44
          refine Sf_cb19 (s_X12_lays s_sources s_seed s_atA s_atB s_atD s_atF s_atG s_atH s_atL s_atM s_atN s_atS s_atT s_atU s_atX s_paperHigh s_paperShape s_byStar s_code s_codeArg s_codeFrom s_codeTo s_highAt s_isRefused s_many s_minuteOf s_shape s_shapeAt s_sumFrom s_weekdays s_wide s_worth p2 (by omega) (by omega) (by assumption)) (fun o_atA39_99 o_atB39_100 o_atD39_101 o_atF39_102 o_atG39_103 o_atH39_104 o_atL39_105 o_atM39_106 o_atN39_107 o_atS39_108 o_atT39_109 o_atU39_110 o_atX39_111 o_paperHigh39_112 o_paperShape39_113 o_highAt39_114 o_isRefused39_115 o_shapeAt39_116 o_worth39_117 hp49 => ?_)
          have g50 := rgI o_atA39_99
          have g51 := rgI o_atB39_100
          have g52 := rgI o_atD39_101
          have g53 := rgI o_atF39_102
          have g54 := rgI o_atG39_103
          have g55 := rgI o_atH39_104
          have g56 := rgI o_atL39_105
          have g57 := rgI o_atM39_106
          have g58 := rgI o_atN39_107
          have g59 := rgI o_atS39_108
          have g60 := rgI o_atT39_109
          have g61 := rgI o_atU39_110
          have g62 := rgI o_atX39_111
          have g63 := rgI o_paperHigh39_112
          have g64 := rgI o_paperShape39_113
          refine Sf_cb19 (s_X12_goesOver o_atA39_99 o_atB39_100 o_atD39_101 o_atF39_102 o_atG39_103 o_atH39_104 o_atL39_105 o_atM39_106 o_atN39_107 o_atS39_108 o_atT39_109 o_atU39_110 o_atX39_111 s_code s_codeArg s_codeFrom s_codeTo s_first s_greatest o_highAt39_114 o_isRefused39_115 s_last s_many s_marked o_shapeAt39_116 o_worth39_117 p1 p2 0 (by omega) (by omega) (by omega) (by omega) (by first | assumption | exact ⟨_, ‹_›⟩) (by assumption)) (fun o_atA46_122 o_atB46_123 o_atD46_124 o_atF46_125 o_atG46_126 o_atH46_127 o_atL46_128 o_atM46_129 o_atN46_130 o_atS46_131 o_atT46_132 o_atU46_133 o_atX46_134 o_first46_135 o_greatest46_136 o_isRefused46_137 o_last46_138 o_marked46_139 o_worth46_140 hp65 => ?_)
          have hp65 : (mkOK o_marked46_139) := hp65
          have g66 := rgI o_atA46_122
          have g67 := rgI o_atB46_123
          have g68 := rgI o_atD46_124
          have g69 := rgI o_atF46_125
          have g70 := rgI o_atG46_126
          have g71 := rgI o_atH46_127
          have g72 := rgI o_atL46_128
          have g73 := rgI o_atM46_129
          have g74 := rgI o_atN46_130
          have g75 := rgI o_atS46_131
          have g76 := rgI o_atT46_132
          have g77 := rgI o_atU46_133
          have g78 := rgI o_atX46_134
          refine Sf_mono (e_X12_check_L52 s_tape p3 o_paperHigh39_112 o_paperShape39_113 o_highAt39_114 o_shapeAt39_116 o_atA46_122 o_atB46_123 o_atD46_124 o_atF46_125 o_atG46_126 o_atH46_127 o_atL46_128 o_atM46_129 o_atN46_130 o_atS46_131 o_atT46_132 o_atU46_133 o_atX46_134 o_first46_135 o_greatest46_136 o_isRefused46_137 o_last46_138 o_marked46_139 o_worth46_140 (f_X12_check_J116 o_paperHigh39_112 o_paperShape39_113 o_highAt39_114 o_shapeAt39_116 o_atA46_122 o_atB46_123 o_atD46_124 o_atF46_125 o_atG46_126 o_atH46_127 o_atL46_128 o_atM46_129 o_atN46_130 o_atS46_131 o_atT46_132 o_atU46_133 o_atX46_134 o_first46_135 o_greatest46_136 o_isRefused46_137 o_last46_138 o_marked46_139 o_worth46_140) (f_X12_check_J143 o_paperHigh39_112 o_paperShape39_113 o_highAt39_114 o_shapeAt39_116 o_atA46_122 o_atB46_123 o_atD46_124 o_atF46_125 o_atG46_126 o_atH46_127 o_atL46_128 o_atM46_129 o_atN46_130 o_atS46_131 o_atT46_132 o_atU46_133 o_atX46_134 o_first46_135 o_greatest46_136 o_isRefused46_137 o_last46_138 o_marked46_139 o_worth46_140) (f_X12_check_J156 p3 o_paperHigh39_112 o_paperShape39_113 o_highAt39_114 o_shapeAt39_116 o_atA46_122 o_atB46_123 o_atD46_124 o_atF46_125 o_atG46_126 o_atH46_127 o_atL46_128 o_atM46_129 o_atN46_130 o_atS46_131 o_atT46_132 o_atU46_133 o_atX46_134 o_first46_135 o_greatest46_136 o_isRefused46_137 o_last46_138 o_marked46_139 o_worth46_140) (by assumption) (by omega) (by omega) ?_ ?_ ?_ FU 0 (by omega) (by omega) (by omega)) (fun y hy => ?_)
          · intro z79
            have g80 := rgI z79
            rw [f_X12_check_J116]
            have l81 : (3 : Int32).toInt = 3 := by decide
            have g82 := rgI (3 * z79)
            first | have e83 := mlY 3 z79 (3) (by decide) (by omega) (by omega) | skip
            have g84 := rgI ((3 * z79) + 1)
            first | have e85 := adN (3 * z79) 1 (1) (by decide) (by omega) (by omega) | skip
            refine Sf_some (show ((0 : Int32).toInt = 0) from ?_)
            (omega)
          · intro z86
            have g87 := rgI z86
            rw [f_X12_check_J143]
            have l88 : (3 : Int32).toInt = 3 := by decide
            have g89 := rgI (3 * z86)
            first | have e90 := mlY 3 z86 (3) (by decide) (by omega) (by omega) | skip
            have g91 := rgI ((3 * z86) + 2)
            first | have e92 := adN (3 * z86) 2 (2) (by decide) (by omega) (by omega) | skip
            refine Sf_some (show ((0 : Int32).toInt = 0) from ?_)
            (omega)
          · skip
            rw [f_X12_check_J156]
            refine Sf_rdI (by omega) (by omega) (fun v162_198 hv93 => ?_)
            have g94 := rgI v162_198
            have hmrv162_198 := mkOK_rd (by assumption : mkOK o_marked46_139) hv93
            refine Sf_ite (fun h95 => ?_) (fun h95 => ?_)
            · skip
              have c96 := eqI h95
              have l97 : ((-1) : Int32).toInt = -1 := by decide
              refine Sf_some (show ((0 : Int32).toInt = 0) from ?_)
              (omega)
            · skip
              have c98 := neI h95
              refine Sf_rdI (by omega) (by omega) (fun v176_205 hv99 => ?_)
              have g100 := rgI v176_205
              have hmrv176_205 := mkOK_rd (by assumption : mkOK o_marked46_139) hv99
              have l101 : (3 : Int32).toInt = 3 := by decide
              have g102 := rgI (3 * v176_205)
              first | have e103 := mlY 3 v176_205 (3) (by decide) (by omega) (by omega) | skip
              refine Sf_some (show ((0 : Int32).toInt = 0) from ?_)
              (omega)
          exact Or.inl ⟨hy, by omega⟩
        · skip
          have l104 : (12 : Int32).toInt = 12 := by decide
          have g105 := rgI (s_taped / 12)
          have d106 := dn_ s_taped 12 12 (by decide) (by decide)
          have c107 := nleI h44
          have l108 : ((-2) : Int32).toInt = -2 := by decide
          refine Sf_some (show ((s_taped.toInt = 0 ∧ (0 ≤ p1.toInt ∧ p1.toInt ≤ 3 ∧ 0 ≤ p2.toInt ∧ p2.toInt ≤ 399 ∧ 0 ≤ p3.toInt ∧ 12 * p3.toInt ≤ s_taped.toInt)) ∨ (s_taped.toInt = s_taped.toInt ∧ (-2 : Int32).toInt = -2 ∧ ¬ (0 ≤ p1.toInt ∧ p1.toInt ≤ 3 ∧ 0 ≤ p2.toInt ∧ p2.toInt ≤ 399 ∧ 0 ≤ p3.toInt ∧ 12 * p3.toInt ≤ s_taped.toInt))) from ?_)
          (first | (refine Or.inl ⟨?_, ?_⟩ <;> (first | omega | assumption | with_reducible rfl) <;> done) | (refine Or.inr ⟨?_, ?_, ?_⟩ <;> (first | omega | assumption | with_reducible rfl) <;> done))
