/-! a reader marks the page -/
/-- letters of the page's reckoner that are never set -/
def LtP (L : Nat → Int32) : Prop := L 97 = 0 ∧ L 110 = 0 ∧ L 117 = 0 ∧ L 120 = 0
theorem LtP_upd {L : Nat → Int32} {i : Nat} {x : Int32} (h : LtP L) (hi : ¬ (i = 97 ∨ i = 110 ∨ i = 117 ∨ i = 120)) : LtP (upd L i x) := by
  obtain ⟨h1, h2, h3, h4⟩ := h
  refine ⟨?_, ?_, ?_, ?_⟩ <;> (rw [upd_n (by omega)]; assumption)
def keepO (k : Nat) (mk0 mk : Nat → Int32) : Prop := ∀ j, j < 4 → ¬ j = k → ∀ m, m < 1440 → tb (mk m) j = tb (mk0 m) j
theorem keepO_refl (k : Nat) (mk : Nat → Int32) : keepO k mk mk := fun _ _ _ _ _ => rfl
theorem keepO_or {k : Nat} {mk0 mk : Nat → Int32} {m : Nat} (hk : k < 4) (h : keepO k mk0 mk) : keepO k mk0 (upd mk m (mk m ||| jshl 1 (nI k))) := by
  intro j hj hjk i hi
  by_cases c : i = m
  · rw [c, upd_s, tb_or hk hj, decide_eq_false hjk, Bool.or_false, ← c]; exact h j hj hjk i hi
  · rw [upd_n c]; exact h j hj hjk i hi
theorem keepO_cl {k : Nat} {mk0 mk : Nat → Int32} {m : Nat} (hk : k < 4) (h : keepO k mk0 mk) : keepO k mk0 (upd mk m (mk m &&& (jshl 1 (nI k) ^^^ (-1)))) := by
  intro j hj hjk i hi
  by_cases c : i = m
  · rw [c, upd_s, tb_cl hk hj, decide_eq_false hjk, show (!false) = true from rfl, Bool.and_true, ← c]; exact h j hj hjk i hi
  · rw [upd_n c]; exact h j hj hjk i hi
theorem bits_or {k : Nat} {mk : Nat → Int32} {m : Nat} {M : Nat → Bool} (hk : k < 4) (h : ∀ j, j < m → tb (mk j) k = M j) (hM : M m = true) : ∀ j, j < m + 1 → tb (upd mk m (mk m ||| jshl 1 (nI k)) j) k = M j := by
  intro j hj
  by_cases c : j = m
  · rw [c, upd_s, tb_or hk hk, decide_eq_true rfl, Bool.or_true, hM]
  · rw [upd_n c]; exact h j (by omega)
theorem bits_cl {k : Nat} {mk : Nat → Int32} {m : Nat} {M : Nat → Bool} (hk : k < 4) (h : ∀ j, j < m → tb (mk j) k = M j) (hM : M m = false) : ∀ j, j < m + 1 → tb (upd mk m (mk m &&& (jshl 1 (nI k) ^^^ (-1))) j) k = M j := by
  intro j hj
  by_cases c : j = m
  · rw [c, upd_s, tb_cl hk hk, decide_eq_true rfl, show (!true) = false from rfl, Bool.and_false, hM]
  · rw [upd_n c]; exact h j (by omega)
/-- the two looks back at a minute: whether a mark has ended -/
theorem two_e {mk : Nat → Int32} {k m : Nat} {M : Nat → Bool} (hk : k < 4) (hm : m < 1440) (h : ∀ j, j < m → tb (mk j) k = M j) : ∃ r2 : Int32, f_X4_isMarked mk (nI k) (nI m - 2) = some r2 ∧ (r2 = 0 ↔ ¬ (2 ≤ m ∧ M (m - 2) = true)) ∧ (2 ≤ m → f_X4_isMarked mk (nI k) (nI m - 1) = some (mI (M (m - 1)))) := by
  match m, hm, h with
  | 0, _, _ => exact ⟨0, imk_neg (by rw [n_02]; decide), ⟨fun _ w => absurd w.1 (by omega), fun _ => rfl⟩, fun w => absurd w (by omega)⟩
  | 1, _, _ => exact ⟨0, imk_neg (by rw [n_12]; decide), ⟨fun _ w => absurd w.1 (by omega), fun _ => rfl⟩, fun w => absurd w (by omega)⟩
  | m + 2, hm, h =>
    refine ⟨mI (M m), by rw [n_m2, imk_e hk (by omega), h m (by omega)], ?_, fun _ => ?_⟩
    · rw [mI_0, show m + 2 - 2 = m by omega]
      constructor
      · intro w q; rw [w] at q; cases q.2
      · intro w
        cases hb : M m with
        | false => rfl
        | true => exact absurd ⟨by omega, hb⟩ w
    · rw [show m + 2 - 1 = m + 1 by omega, show nI (m + 2) - 1 = nI (m + 1) from n_m1 (m + 1), imk_e hk (by omega), h (m + 1) (by omega)]
theorem mT_two {D : Nat → Nat → Bool} {m : Nat} (h : 2 ≤ m) : mT D m = if mRw D (m - 2) && !(mRw D (m - 1)) then mT D (m - 1) + 1 else mT D (m - 1) := by
  obtain ⟨j, rfl⟩ : ∃ j, m = j + 2 := ⟨m - 2, by omega⟩
  rw [show j + 2 - 2 = j by omega, show j + 2 - 1 = j + 1 by omega, mT_s]
  rfl
theorem mT_one {D : Nat → Nat → Bool} {m : Nat} (h : ¬ (2 ≤ m ∧ mRw D (m - 2) = true)) : mT D m = mT D (m - 1) := by
  match m, h with
  | 0, _ => rfl
  | 1, _ => rw [mT_s]; rfl
  | j + 2, h =>
    rw [mT_two (by omega)]
    cases hb : mRw D (j + 2 - 2) with
    | true => exact absurd ⟨by omega, hb⟩ h
    | false => rfl
section RDL
variable {G : kG} {k : Nat} {d : Int32} {he sp mk0 : Nat → Int32} {D : Nat → Nat → Bool} {v21 : Int32}
/-- the letters at a minute, behind the eight that are set -/
theorem let_e {m : Nat} {g : Int32} {L : Nat → Int32} {t : Nat} (hP : LtP L) (h0 : L 100 = d) (h2 : L 102 = jrem d 7) (h3 : L 103 = g) (h4 : L 104 = he m) (h5 : L 98 = if m = 0 then 0 else he (m - 1)) (h6 : L 108 = sp m) (h7 : L 109 = nI m) (h8 : L 115 = S_of d (nI m)) (h9 : L 116 = nI t) : ∀ c, valB c = true → vO (mkL he sp d m g (nI t)) c = L c.toNatClampNeg := by
  obtain ⟨p1, p2, p3, p4⟩ := hP
  exact V_all (V := fun c => L c.toNatClampNeg) ⟨p1, h5, h0, h2, h3, h4, h6, h7, p2, h8, h9, p3, p4⟩
theorem read_L {x : kTx} (hk : k < 4) (hx : G.2 (10 + k) = some x) (hD : isDc G k d he sp D) : ∀ (r m n : Nat) (g0 : Int32) (mk Lt vals : Nat → Int32), m + r = 1440 → isMx he (m - 11) (m - 1) g0 → (∀ j, j < m → tb (mk j) k = mRw D j) → keepO k mk0 mk → LtP Lt → Lt 100 = d → Lt 102 = jrem d 7 → Lt 116 = nI (mT D (m - 1)) →
    Sf (f_X4_read_L66 d x.2.1 x.2.2.1.1 x.2.2.1.2 x.2.2.2.2.1 x.2.2.2.2.2 x.2.2.2.1.1 x.2.2.2.1.2 he sp (nI k) (jshl 1 (nI k)) v21 (n + r + 1) g0 (nI m) mk Lt vals) (fun y => y.1 = v21 ∧ mBt y.2.1 k (mRw D) ∧ keepO k mk0 y.2.1 ∧ LtP y.2.2.1) := by
  intro r
  induction r with
  | zero =>
    intro m n g0 mk Lt vals hm hg hb hK hP h1 h2 h3
    have hm : m = 1440 := by omega
    subst hm
    rw [Nat.add_zero, f_X4_read_L66, if_pos (by decide +kernel)]
    exact Sf_some ⟨rfl, hb, hK, hP⟩
  | succ r ih =>
    intro m n g0 mk Lt vals hmr hg hb hK hP h1 h2 h3
    have hm : m < 1440 := by omega
    have jm : jin (nI m) 1440 = true := jin_n hm (by omega)
    have cm : (nI m).toNatClampNeg = m := nI_clamp (by omega)
    rw [show n + (r + 1) + 1 = (n + r + 1) + 1 by omega, f_X4_read_L66, if_neg (show ¬ (1440 : Int32) ≤ nI m from nI_ge (a := m) (b := 1440) (by omega) (by decide))]
    refine Sf_cb1 (gBf_e hm hg) (fun g hg' => ?_)
    rw [wrI_o (by decide), rdI_o jm, wrI_o (by decide), cm]
    -- what comes behind: J125, given b
    have hJ : ∀ bb : Int32, bb = (if m = 0 then 0 else he (m - 1)) → Sf (f_X4_read_J125 d x.2.1 x.2.2.1.1 x.2.2.1.2 x.2.2.2.2.1 x.2.2.2.2.2 x.2.2.2.1.1 x.2.2.2.1.2 sp (nI k) (jshl 1 (nI k)) (nI m) mk vals g (upd (upd Lt (103 : Int32).toNatClampNeg g) (104 : Int32).toNatClampNeg (he m)) (f_X4_read_L66 d x.2.1 x.2.2.1.1 x.2.2.1.2 x.2.2.2.2.1 x.2.2.2.2.2 x.2.2.2.1.1 x.2.2.2.1.2 he sp (nI k) (jshl 1 (nI k)) v21 (n + r + 1)) bb) (fun y => y.1 = v21 ∧ mBt y.2.1 k (mRw D) ∧ keepO k mk0 y.2.1 ∧ LtP y.2.2.1) := by
      intro bb hbb
      have hs : f_X11_starMinute d (nI m) = some (S_of d (nI m)) := by rw [f_X11_starMinute]
      rw [f_X4_read_J125, wrI_o (by decide), rdI_o jm, wrI_o (by decide), wrI_o (by decide), hs, cb1_o, wrI_o (by decide), cm, show (103 : Int32).toNatClampNeg = 103 by decide, show (104 : Int32).toNatClampNeg = 104 by decide, show (98 : Int32).toNatClampNeg = 98 by decide, show (108 : Int32).toNatClampNeg = 108 by decide, show (109 : Int32).toNatClampNeg = 109 by decide, show (115 : Int32).toNatClampNeg = 115 by decide]
      have hP' : LtP (upd (upd (upd (upd (upd (upd Lt 103 g) 104 (he m)) 98 bb) 108 (sp m)) 109 (nI m)) 115 (S_of d (nI m))) := LtP_upd (LtP_upd (LtP_upd (LtP_upd (LtP_upd (LtP_upd hP (by omega)) (by omega)) (by omega)) (by omega)) (by omega)) (by omega)
      have q0 : (upd (upd (upd (upd (upd (upd Lt 103 g) 104 (he m)) 98 bb) 108 (sp m)) 109 (nI m)) 115 (S_of d (nI m))) 100 = d := h1
      have q2 : (upd (upd (upd (upd (upd (upd Lt 103 g) 104 (he m)) 98 bb) 108 (sp m)) 109 (nI m)) 115 (S_of d (nI m))) 102 = jrem d 7 := h2
      have q3 : (upd (upd (upd (upd (upd (upd Lt 103 g) 104 (he m)) 98 bb) 108 (sp m)) 109 (nI m)) 115 (S_of d (nI m))) 103 = g := rfl
      have q4 : (upd (upd (upd (upd (upd (upd Lt 103 g) 104 (he m)) 98 bb) 108 (sp m)) 109 (nI m)) 115 (S_of d (nI m))) 104 = he m := rfl
      have q5 : (upd (upd (upd (upd (upd (upd Lt 103 g) 104 (he m)) 98 bb) 108 (sp m)) 109 (nI m)) 115 (S_of d (nI m))) 98 = if m = 0 then 0 else he (m - 1) := hbb
      have q6 : (upd (upd (upd (upd (upd (upd Lt 103 g) 104 (he m)) 98 bb) 108 (sp m)) 109 (nI m)) 115 (S_of d (nI m))) 108 = sp m := rfl
      have q7 : (upd (upd (upd (upd (upd (upd Lt 103 g) 104 (he m)) 98 bb) 108 (sp m)) 109 (nI m)) 115 (S_of d (nI m))) 109 = nI m := rfl
      have q8 : (upd (upd (upd (upd (upd (upd Lt 103 g) 104 (he m)) 98 bb) 108 (sp m)) 109 (nI m)) 115 (S_of d (nI m))) 115 = S_of d (nI m) := rfl
      have q9 : (upd (upd (upd (upd (upd (upd Lt 103 g) 104 (he m)) 98 bb) 108 (sp m)) 109 (nI m)) 115 (S_of d (nI m))) 116 = nI (mT D (m - 1)) := h3
      generalize (upd (upd (upd (upd (upd (upd Lt 103 g) 104 (he m)) 98 bb) 108 (sp m)) 109 (nI m)) 115 (S_of d (nI m))) = L1 at *
      -- behind the letter t
      have hJ2 : ∀ L2 : Nat → Int32, LtP L2 → L2 100 = d → L2 102 = jrem d 7 → L2 103 = g → L2 104 = he m → L2 98 = (if m = 0 then 0 else he (m - 1)) → L2 108 = sp m → L2 109 = nI m → L2 115 = S_of d (nI m) → L2 116 = nI (mT D m) → Sf (f_X4_read_J192 x.2.1 x.2.2.1.1 x.2.2.1.2 x.2.2.2.2.1 x.2.2.2.2.2 x.2.2.2.1.1 x.2.2.2.1.2 (jshl 1 (nI k)) (nI m) mk vals g (f_X4_read_L66 d x.2.1 x.2.2.1.1 x.2.2.1.2 x.2.2.2.2.1 x.2.2.2.2.2 x.2.2.2.1.1 x.2.2.2.1.2 he sp (nI k) (jshl 1 (nI k)) v21 (n + r + 1)) L2) (fun y => y.1 = v21 ∧ mBt y.2.1 k (mRw D) ∧ keepO k mk0 y.2.1 ∧ LtP y.2.2.1) := by
        intro L2 z z0 z2 z3 z4 z5 z6 z7 z8 z9
        rw [f_X4_read_J192]
        refine Sf_cb2 ((hD m hm (mT D m)).1 x hx g L2 vals hg' (let_e z z0 z2 z3 z4 z5 z6 z7 z8 z9)) (fun q v' hq => ?_)
        have hq : q = -1 ↔ mRw D m = false := hq
        refine Sf_ite (fun c => ?_) (fun c => ?_)
        · rw [f_X4_read_J213, if_pos rfl, rdI_o jm, nmI_o, wrI_o jm, nmI_o, nI_1, cm]
          exact ih (m + 1) n g _ L2 v' (by omega) (by rw [show m + 1 - 11 = m - 10 by omega, show m + 1 - 1 = m by omega]; exact hg') (bits_cl hk hb (hq.mp c)) (keepO_cl hk hK) z z0 z2 z9
        · rw [f_X4_read_J213, if_neg (by decide), rdI_o jm, nmI_o, wrI_o jm, nmI_o, nI_1, cm]
          refine ih (m + 1) n g _ L2 v' (by omega) (by rw [show m + 1 - 11 = m - 10 by omega, show m + 1 - 1 = m by omega]; exact hg') (bits_or hk hb ?_) (keepO_or hk hK) z z0 z2 z9
          cases hb2 : mRw D m with
          | true => rfl
          | false => exact absurd (hq.mpr hb2) c
      obtain ⟨r2, e2, e3, e4⟩ := two_e hk hm hb
      rw [e2, cb1_o]
      refine Sf_ite (fun c => ?_) (fun c => ?_)
      · exact hJ2 L1 hP' q0 q2 q3 q4 q5 q6 q7 q8 (by rw [q9, mT_one (e3.mp c)])
      · have c2 : 2 ≤ m ∧ mRw D (m - 2) = true := by
          by_cases w : 2 ≤ m ∧ mRw D (m - 2) = true
          · exact w
          · exact absurd (e3.mpr w) c
        have ht := mT_two (D := D) c2.1
        rw [c2.2] at ht
        rw [e4 c2.1, cb1_o]
        refine Sf_ite (fun c3 => ?_) (fun c3 => ?_)
        · rw [mI_0.mp c3] at ht
          have ht : mT D m = mT D (m - 1) + 1 := ht
          rw [rdI_o (by decide), nmI_o, wrI_o (by decide), show (116 : Int32).toNatClampNeg = 116 by decide, q9, nI_1, ← ht]
          exact hJ2 (upd L1 116 (nI (mT D m))) (LtP_upd hP' (by omega)) q0 q2 q3 q4 q5 q6 q7 q8 rfl
        · have hb3 : mRw D (m - 1) = true := by
            cases hb4 : mRw D (m - 1) with
            | true => rfl
            | false => exact absurd (mI_0.mpr hb4) c3
          rw [hb3] at ht
          have ht : mT D m = mT D (m - 1) := ht
          exact hJ2 L1 hP' q0 q2 q3 q4 q5 q6 q7 q8 (by rw [q9, ht])
    refine Sf_ite (fun c => ?_) (fun c => ?_)
    · have c := leI c
      have tm : (nI m).toInt = (m : Int) := nI_toInt (by omega)
      have l0 : (0 : Int32).toInt = 0 := by decide
      exact hJ 0 (by rw [if_pos (show m = 0 by omega)])
    · have c := nleI c
      have tm : (nI m).toInt = (m : Int) := nI_toInt (by omega)
      have l0 : (0 : Int32).toInt = 0 := by decide
      obtain ⟨j, rfl⟩ : ∃ j, m = j + 1 := ⟨m - 1, by omega⟩
      rw [n_m1, rdI_o (jin_n (by omega) (by omega)), nI_clamp (by omega)]
      exact hJ (he j) (by rw [if_neg (by omega)]; rfl)
theorem read_NL (hk : k < 4) (hx : G.2 (10 + k) = none) (hD : isDc G k d he sp D) : ∀ (r m n : Nat) (g0 : Int32) (mk Lt : Nat → Int32), m + r = 1440 → isMx he (m - 11) (m - 1) g0 → (∀ j, j < m → tb (mk j) k = mRw D j) → keepO k mk0 mk → LtP Lt → Lt 100 = d → Lt 102 = jrem d 7 → Lt 116 = nI (mT D (m - 1)) →
    Sf (f_X4_read_N_L66 d he sp (nI k) (jshl 1 (nI k)) v21 (n + r + 1) g0 (nI m) mk Lt) (fun y => y.1 = v21 ∧ mBt y.2.1 k (mRw D) ∧ keepO k mk0 y.2.1 ∧ LtP y.2.2) := by
  intro r
  induction r with
  | zero =>
    intro m n g0 mk Lt hm hg hb hK hP h1 h2 h3
    have hm : m = 1440 := by omega
    subst hm
    rw [Nat.add_zero, f_X4_read_N_L66, if_pos (by decide +kernel)]
    exact Sf_some ⟨rfl, hb, hK, hP⟩
  | succ r ih =>
    intro m n g0 mk Lt hmr hg hb hK hP h1 h2 h3
    have hm : m < 1440 := by omega
    have jm : jin (nI m) 1440 = true := jin_n hm (by omega)
    have cm : (nI m).toNatClampNeg = m := nI_clamp (by omega)
    rw [show n + (r + 1) + 1 = (n + r + 1) + 1 by omega, f_X4_read_N_L66, if_neg (show ¬ (1440 : Int32) ≤ nI m from nI_ge (a := m) (b := 1440) (by omega) (by decide))]
    refine Sf_cb1 (gBf_e hm hg) (fun g hg' => ?_)
    rw [wrI_o (by decide), rdI_o jm, wrI_o (by decide), cm]
    -- what comes behind: J125, given b
    have hJ : ∀ bb : Int32, bb = (if m = 0 then 0 else he (m - 1)) → Sf (f_X4_read_N_J125 d sp (nI k) (jshl 1 (nI k)) (nI m) mk g (upd (upd Lt (103 : Int32).toNatClampNeg g) (104 : Int32).toNatClampNeg (he m)) (f_X4_read_N_L66 d he sp (nI k) (jshl 1 (nI k)) v21 (n + r + 1)) bb) (fun y => y.1 = v21 ∧ mBt y.2.1 k (mRw D) ∧ keepO k mk0 y.2.1 ∧ LtP y.2.2) := by
      intro bb hbb
      have hs : f_X11_starMinute d (nI m) = some (S_of d (nI m)) := by rw [f_X11_starMinute]
      rw [f_X4_read_N_J125, wrI_o (by decide), rdI_o jm, wrI_o (by decide), wrI_o (by decide), hs, cb1_o, wrI_o (by decide), cm, show (103 : Int32).toNatClampNeg = 103 by decide, show (104 : Int32).toNatClampNeg = 104 by decide, show (98 : Int32).toNatClampNeg = 98 by decide, show (108 : Int32).toNatClampNeg = 108 by decide, show (109 : Int32).toNatClampNeg = 109 by decide, show (115 : Int32).toNatClampNeg = 115 by decide]
      have hP' : LtP (upd (upd (upd (upd (upd (upd Lt 103 g) 104 (he m)) 98 bb) 108 (sp m)) 109 (nI m)) 115 (S_of d (nI m))) := LtP_upd (LtP_upd (LtP_upd (LtP_upd (LtP_upd (LtP_upd hP (by omega)) (by omega)) (by omega)) (by omega)) (by omega)) (by omega)
      have q0 : (upd (upd (upd (upd (upd (upd Lt 103 g) 104 (he m)) 98 bb) 108 (sp m)) 109 (nI m)) 115 (S_of d (nI m))) 100 = d := h1
      have q2 : (upd (upd (upd (upd (upd (upd Lt 103 g) 104 (he m)) 98 bb) 108 (sp m)) 109 (nI m)) 115 (S_of d (nI m))) 102 = jrem d 7 := h2
      have q3 : (upd (upd (upd (upd (upd (upd Lt 103 g) 104 (he m)) 98 bb) 108 (sp m)) 109 (nI m)) 115 (S_of d (nI m))) 103 = g := rfl
      have q4 : (upd (upd (upd (upd (upd (upd Lt 103 g) 104 (he m)) 98 bb) 108 (sp m)) 109 (nI m)) 115 (S_of d (nI m))) 104 = he m := rfl
      have q5 : (upd (upd (upd (upd (upd (upd Lt 103 g) 104 (he m)) 98 bb) 108 (sp m)) 109 (nI m)) 115 (S_of d (nI m))) 98 = if m = 0 then 0 else he (m - 1) := hbb
      have q6 : (upd (upd (upd (upd (upd (upd Lt 103 g) 104 (he m)) 98 bb) 108 (sp m)) 109 (nI m)) 115 (S_of d (nI m))) 108 = sp m := rfl
      have q7 : (upd (upd (upd (upd (upd (upd Lt 103 g) 104 (he m)) 98 bb) 108 (sp m)) 109 (nI m)) 115 (S_of d (nI m))) 109 = nI m := rfl
      have q8 : (upd (upd (upd (upd (upd (upd Lt 103 g) 104 (he m)) 98 bb) 108 (sp m)) 109 (nI m)) 115 (S_of d (nI m))) 115 = S_of d (nI m) := rfl
      have q9 : (upd (upd (upd (upd (upd (upd Lt 103 g) 104 (he m)) 98 bb) 108 (sp m)) 109 (nI m)) 115 (S_of d (nI m))) 116 = nI (mT D (m - 1)) := h3
      generalize (upd (upd (upd (upd (upd (upd Lt 103 g) 104 (he m)) 98 bb) 108 (sp m)) 109 (nI m)) 115 (S_of d (nI m))) = L1 at *
      -- behind the letter t
      have hJ2 : ∀ L2 : Nat → Int32, LtP L2 → L2 100 = d → L2 102 = jrem d 7 → L2 103 = g → L2 104 = he m → L2 98 = (if m = 0 then 0 else he (m - 1)) → L2 108 = sp m → L2 109 = nI m → L2 115 = S_of d (nI m) → L2 116 = nI (mT D m) → Sf (f_X4_read_N_J192 (jshl 1 (nI k)) (nI m) mk g (f_X4_read_N_L66 d he sp (nI k) (jshl 1 (nI k)) v21 (n + r + 1)) L2) (fun y => y.1 = v21 ∧ mBt y.2.1 k (mRw D) ∧ keepO k mk0 y.2.1 ∧ LtP y.2.2) := by
        intro L2 z z0 z2 z3 z4 z5 z6 z7 z8 z9
        rw [f_X4_read_N_J192]
        have hq : mRw D m = false := (hD m hm (mT D m)).2 hx
        rw [rdI_o jm, nmI_o, wrI_o jm, nmI_o, nI_1, cm]
        exact ih (m + 1) n g _ L2 (by omega) (by rw [show m + 1 - 11 = m - 10 by omega, show m + 1 - 1 = m by omega]; exact hg') (bits_cl hk hb hq) (keepO_cl hk hK) z z0 z2 z9
      obtain ⟨r2, e2, e3, e4⟩ := two_e hk hm hb
      rw [e2, cb1_o]
      refine Sf_ite (fun c => ?_) (fun c => ?_)
      · exact hJ2 L1 hP' q0 q2 q3 q4 q5 q6 q7 q8 (by rw [q9, mT_one (e3.mp c)])
      · have c2 : 2 ≤ m ∧ mRw D (m - 2) = true := by
          by_cases w : 2 ≤ m ∧ mRw D (m - 2) = true
          · exact w
          · exact absurd (e3.mpr w) c
        have ht := mT_two (D := D) c2.1
        rw [c2.2] at ht
        rw [e4 c2.1, cb1_o]
        refine Sf_ite (fun c3 => ?_) (fun c3 => ?_)
        · rw [mI_0.mp c3] at ht
          have ht : mT D m = mT D (m - 1) + 1 := ht
          rw [rdI_o (by decide), nmI_o, wrI_o (by decide), show (116 : Int32).toNatClampNeg = 116 by decide, q9, nI_1, ← ht]
          exact hJ2 (upd L1 116 (nI (mT D m))) (LtP_upd hP' (by omega)) q0 q2 q3 q4 q5 q6 q7 q8 rfl
        · have hb3 : mRw D (m - 1) = true := by
            cases hb4 : mRw D (m - 1) with
            | true => rfl
            | false => exact absurd (mI_0.mpr hb4) c3
          rw [hb3] at ht
          have ht : mT D m = mT D (m - 1) := ht
          exact hJ2 L1 hP' q0 q2 q3 q4 q5 q6 q7 q8 (by rw [q9, ht])
    refine Sf_ite (fun c => ?_) (fun c => ?_)
    · have c := leI c
      have tm : (nI m).toInt = (m : Int) := nI_toInt (by omega)
      have l0 : (0 : Int32).toInt = 0 := by decide
      exact hJ 0 (by rw [if_pos (show m = 0 by omega)])
    · have c := nleI c
      have tm : (nI m).toInt = (m : Int) := nI_toInt (by omega)
      have l0 : (0 : Int32).toInt = 0 := by decide
      obtain ⟨j, rfl⟩ : ∃ j, m = j + 1 := ⟨m - 1, by omega⟩
      rw [n_m1, rdI_o (jin_n (by omega) (by omega)), nI_clamp (by omega)]
      exact hJ (he j) (by rw [if_neg (by omega)]; rfl)
end RDL
/-- which readers have marked the page, and what -/
def PMo (G : kG) (rd dy : Int32) (he sp mk : Nat → Int32) : Prop := ∀ k, k < 4 → tb rd k = true → 0 ≤ dy.toInt ∧ dy.toInt ≤ 399 → ∀ D, isDc G k dy he sp D → mBt mk k (mRw D)
theorem PMo_no {G : kG} {rd dy : Int32} {he sp mk : Nat → Int32} (h : dy.toInt = -1) : PMo G rd dy he sp mk := fun _ _ _ w => absurd w.1 (by omega)
theorem PMo_0 {G : kG} {rd dy : Int32} {he sp mk : Nat → Int32} (h : rd = 0) : PMo G rd dy he sp mk := fun k _ w => by rw [h, tb_zero] at w; cases w
theorem mBt_uni {G : kG} {k : Nat} {d : Int32} {he sp mk : Nat → Int32} {D D' : Nat → Nat → Bool} (a : isDc G k d he sp D) (b : isDc G k d he sp D') (h : mBt mk k (mRw D)) : mBt mk k (mRw D') := fun m hm => by rw [h m hm]; exact isDc_uni a b m hm
theorem PMo_read {G : kG} {k : Nat} {rd d : Int32} {he sp mk mk' : Nat → Int32} {D : Nat → Nat → Bool} (hk : k < 4) (h : PMo G rd d he sp mk) (hD : isDc G k d he sp D) (hK : keepO k mk mk') (hb : mBt mk' k (mRw D)) : PMo G (rd ||| jshl 1 (nI k)) d he sp mk' := by
  intro j hj hbit hd D' hD'
  by_cases c : j = k
  · subst c
    exact mBt_uni hD hD' hb
  · rw [tb_or hk hj, decide_eq_false c, Bool.or_false] at hbit
    intro m hm
    rw [hK j hj c m hm]
    exact h j hj hbit hd D' hD' m hm
section RDE
variable {G : kG} {k : Nat} {rd d : Int32} {he sp mk Lt vals : Nat → Int32} {D : Nat → Nat → Bool}
theorem read_e {x : kTx} (hk : k < 4) (hx : G.2 (10 + k) = some x) (hd : 0 ≤ d.toInt ∧ d.toInt ≤ 399) (hD : isDc G k d he sp D) (hP : LtP Lt) (hM : PMo G rd d he sp mk) : Sf (f_X4_read x.2.2.1.1 x.2.2.2.2.1 x.2.2.2.1.1 rd d x.2.1 x.2.2.1.2 x.2.2.2.2.2 x.2.2.2.1.2 he mk sp Lt vals (nI k)) (fun y => mBt y.2.1 k (mRw D) ∧ PMo G y.1 d he sp y.2.1 ∧ LtP y.2.2.1 ∧ keepO k mk y.2.1) := by
  rw [f_X4_read, nmI_o]
  refine Sf_ite (fun c => ?_) (fun c => ?_)
  · rw [nmI_o, wrI_o (by decide), nmI_o, wrI_o (by decide), wrI_o (by decide), show (100 : Int32).toNatClampNeg = 100 by decide, show (102 : Int32).toNatClampNeg = 102 by decide, show (116 : Int32).toNatClampNeg = 116 by decide]
    obtain ⟨n, hn⟩ : ∃ n, FU = n + 1440 + 1 := ⟨FU - 1441, by have := FU_ge; omega⟩
    rw [hn]
    have h := read_L (mk0 := mk) (v21 := rd ||| jshl 1 (nI k)) hk hx hD 1440 0 n 0 mk (upd (upd (upd Lt 100 d) 102 (jrem d 7)) 116 0) vals (by omega) (isMx_nil (by omega)) (fun j hj => absurd hj (by omega)) (keepO_refl k mk) (LtP_upd (LtP_upd (LtP_upd hP (by omega)) (by omega)) (by omega)) rfl rfl rfl
    rw [nI_0] at h
    refine Sf_mono h (fun y hy => ⟨hy.2.1, ?_, hy.2.2.2, hy.2.2.1⟩)
    rw [hy.1]
    exact PMo_read hk hM hD hy.2.2.1 hy.2.1
  · have hb : tb rd k = true := by
      cases hb : tb rd k with
      | true => rfl
      | false => exact absurd ((tb_0 hk).mpr hb) c
    exact Sf_some ⟨hM k hk hb hd D hD, hM, hP, keepO_refl k mk⟩
theorem read_Ne (hk : k < 4) (hx : G.2 (10 + k) = none) (hd : 0 ≤ d.toInt ∧ d.toInt ≤ 399) (hD : isDc G k d he sp D) (hP : LtP Lt) (hM : PMo G rd d he sp mk) : Sf (f_X4_read_N rd d he mk sp Lt (nI k)) (fun y => mBt y.2.1 k (mRw D) ∧ PMo G y.1 d he sp y.2.1 ∧ LtP y.2.2 ∧ keepO k mk y.2.1) := by
  rw [f_X4_read_N, nmI_o]
  refine Sf_ite (fun c => ?_) (fun c => ?_)
  · rw [nmI_o, wrI_o (by decide), nmI_o, wrI_o (by decide), wrI_o (by decide), show (100 : Int32).toNatClampNeg = 100 by decide, show (102 : Int32).toNatClampNeg = 102 by decide, show (116 : Int32).toNatClampNeg = 116 by decide]
    obtain ⟨n, hn⟩ : ∃ n, FU = n + 1440 + 1 := ⟨FU - 1441, by have := FU_ge; omega⟩
    rw [hn]
    have h := read_NL (mk0 := mk) (v21 := rd ||| jshl 1 (nI k)) hk hx hD 1440 0 n 0 mk (upd (upd (upd Lt 100 d) 102 (jrem d 7)) 116 0) (by omega) (isMx_nil (by omega)) (fun j hj => absurd hj (by omega)) (keepO_refl k mk) (LtP_upd (LtP_upd (LtP_upd hP (by omega)) (by omega)) (by omega)) rfl rfl rfl
    rw [nI_0] at h
    refine Sf_mono h (fun y hy => ⟨hy.2.1, ?_, hy.2.2.2, hy.2.2.1⟩)
    rw [hy.1]
    exact PMo_read hk hM hD hy.2.2.1 hy.2.1
  · have hb : tb rd k = true := by
      cases hb : tb rd k with
      | true => rfl
      | false => exact absurd ((tb_0 hk).mpr hb) c
    exact Sf_some ⟨hM k hk hb hd D hD, hM, hP, keepO_refl k mk⟩
/-- lay keeps what is marked -/
theorem lay_pm {so sd dy : Int32} {hi : Nat → Int32} : Pt (f_X7_lay G so sd rd dy he hi sp Lt vals d) (fun y => (dy = d ∧ y.1 = rd ∧ y.2.2.1 = he ∧ y.2.2.2.2.1 = sp) ∨ ¬ dy = d) := by
  rw [f_X7_lay]
  exact Pt_iteH (fun c => Pt_some (Or.inl ⟨c, rfl, rfl, rfl⟩)) (fun c y _ => Or.inr c)
end RDE
