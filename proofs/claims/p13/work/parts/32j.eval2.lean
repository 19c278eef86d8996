section EC
variable {code code' : Nat → Int32} {u L L2 B B2 : Nat} {f g : Sem} {c v : Int32}
theorem CR_mono (h : CR code u L B f) (hB : B ≤ B2) : CR code u L B2 f := fun V Lt arr vals nn to m n lp K h1 h2 h3 h4 h5 h6 h7 => h V Lt arr vals nn to m n lp K h1 h2 h3 h4 h5 (by omega) h7
theorem CR_congr (h : CR code u L B f) (hc : ∀ i, i < L → code' (u + i) = code (u + i)) : CR code' u L B f := fun V Lt arr vals nn to m n lp K h1 h2 h3 h4 h5 h6 h7 => h V Lt arr vals nn to m n lp K h1 (fun i hi => by rw [h2 i hi, hc i hi]) h3 h4 h5 h6 h7
theorem CR_num (hw : code u = jshl v 8 ||| 48) (h0 : 0 ≤ v.toInt) (h1 : v.toInt < 8388608) : CR code u 1 1 (fun _ => some v) := by
  intro V Lt arr vals nn to m n lp K g1 g2 g3 g4 g5 g6 g7
  have ha : arr u = jshl v 8 ||| 48 := by have := g2 0 (by omega); rw [Nat.add_zero] at this; rw [this, hw]
  refine ⟨fun z hz => ?_, fun hz => by cases hz⟩
  cases hz
  refine ⟨upd vals m v, lp, fun i hi => upd_n (by omega), upd_s _ _ _, by omega, ?_⟩
  exact cL_push (w := v) g4 g5 (by omega) g7 (by omega) (Or.inl ⟨by rw [ha]; exact w_lo v 48 (by decide) (by decide), by rw [ha]; exact w_hi v 48 (by decide) (by decide) h0 h1⟩)
theorem valB_b {c : Int32} (h : valB c = true) : 0 ≤ c.toInt ∧ c.toInt < 256 := by
  unfold valB at h
  simp only [Bool.or_eq_true, beq_iff_eq] at h
  rcases h with ((((((((((((h | h) | h) | h) | h) | h) | h) | h) | h) | h) | h) | h) | h) <;> subst h <;> decide
theorem CR_let (hw : code u = jshl c 8 ||| 97) (hc : valB c = true) : CR code u 1 1 (fun V => some (V c)) := by
  intro V Lt arr vals nn to m n lp K g1 g2 g3 g4 g5 g6 g7
  have ha : arr u = jshl c 8 ||| 97 := by have := g2 0 (by omega); rw [Nat.add_zero] at this; rw [this, hw]
  have hb := valB_b hc
  refine ⟨fun z hz => ?_, fun hz => by cases hz⟩
  cases hz
  refine ⟨upd vals m (V c), lp, fun i hi => upd_n (by omega), upd_s _ _ _, by omega, ?_⟩
  exact cL_push (w := c) g4 g5 (by omega) g7 (by omega) (Or.inr ⟨by rw [ha]; exact w_lo c 97 (by decide) (by decide), by rw [ha]; exact w_hi c 97 (by decide) (by decide) hb.1 (by omega), hc, g1 c hc⟩)
theorem CR_bin (hf : CR code u L B f) (hg : CR code (u + L) L2 B2 g) (hw : code (u + L + L2) = jshl 0 8 ||| c) (hc : isO c) (hB : B2 + 1 ≤ B) (hB2 : 1 ≤ B2) : CR code u (L + L2 + 1) B (sBin c f g) := by
  intro V Lt arr vals nn to m n lp K g1 g2 g3 g4 g5 g6 g7
  have ha : arr (u + L + L2) = jshl 0 8 ||| c := by have := g2 (L + L2) (by omega); rw [← Nat.add_assoc] at this; rw [this, hw]
  obtain ⟨f1, f0⟩ := hf V Lt arr vals nn to m (n + 1 + L2) lp K g1 (fun i hi => g2 i (by omega)) (by omega) g4 g5 g6 g7
  have hfu : n + (L + L2 + 1) = n + 1 + L2 + L := by omega
  rw [hfu]
  cases hf1 : f V with
  | none =>
    have hs : sBin c f g V = none := by unfold sBin; rw [hf1]
    rw [hs]
    exact ⟨fun z hz => (by cases hz), fun _ => f0 hf1⟩
  | some a =>
    obtain ⟨v1, lp1, a1, a2, a3, a4⟩ := f1 a hf1
    obtain ⟨k1, k0⟩ := hg V Lt arr v1 nn to (m + 1) (n + 1) lp1 K g1 (fun i hi => by have := g2 (L + i) (by omega); rw [← Nat.add_assoc] at this; exact this) (by omega) g4 g5 (by omega) a3
    rw [a4]
    cases hg1 : g V with
    | none =>
      have hs : sBin c f g V = none := by unfold sBin; rw [hf1, hg1]
      rw [hs]
      exact ⟨fun z hz => (by cases hz), fun _ => k0 hg1⟩
    | some b =>
      obtain ⟨v2, lp2, b1, b2, b3, b4⟩ := k1 b hg1
      have hb := cL_bin (n := n) (m := m) (lp := lp2) (i := u + L + L2) (vals := v2) (Lt := Lt) (K := K) (c := c) g4 g5 (by omega) b3 (by omega) ha hc
      have e0 : v2 m = a := by rw [b1 m (by omega), a2]
      rw [b2, e0] at hb
      rw [b4]
      have hs : sBin c f g V = if dvz c b then none else some (wk c a b) := by unfold sBin; rw [hf1, hg1]
      rw [hs]
      by_cases d : dvz c b
      · rw [if_pos d]
        exact ⟨fun z hz => (by cases hz), fun _ => ⟨v2, hb.1 d⟩⟩
      · rw [if_neg d]
        refine ⟨fun z hz => ?_, fun hz => by cases hz⟩
        cases hz
        refine ⟨upd v2 m (wk c a b), lp2, fun i hi => ?_, upd_s _ _ _, by omega, ?_⟩
        · rw [upd_n (by omega), b1 i (by omega), a1 i hi]
        · rw [hb.2 d, show u + (L + L2 + 1) = u + L + L2 + 1 by omega]
theorem CR_not (hf : CR code u L B f) (hw : code (u + L) = jshl 0 8 ||| 33) (hB : 1 ≤ B) : CR code u (L + 1) B (sNot f) := by
  intro V Lt arr vals nn to m n lp K g1 g2 g3 g4 g5 g6 g7
  have ha : arr (u + L) = jshl 0 8 ||| 33 := by rw [g2 L (by omega), hw]
  obtain ⟨f1, f0⟩ := hf V Lt arr vals nn to m (n + 1) lp K g1 (fun i hi => g2 i (by omega)) (by omega) g4 g5 g6 g7
  rw [show n + (L + 1) = n + 1 + L by omega]
  cases hf1 : f V with
  | none =>
    have hs : sNot f V = none := by unfold sNot; rw [hf1]; rfl
    rw [hs]
    exact ⟨fun z hz => (by cases hz), fun _ => f0 hf1⟩
  | some a =>
    have hs : sNot f V = some (1 - a) := by unfold sNot; rw [hf1]; rfl
    rw [hs]
    obtain ⟨v1, lp1, a1, a2, a3, a4⟩ := f1 a hf1
    refine ⟨fun z hz => ?_, fun hz => by cases hz⟩
    cases hz
    refine ⟨upd v1 m (1 - a), lp1, fun i hi => by rw [upd_n (by omega), a1 i hi], upd_s _ _ _, by omega, ?_⟩
    rw [a4, cL_not g4 g5 (by omega) a3 (by omega) ha, a2]
    rfl
theorem CR_join (hf : CR code u L B f) (hg : CR code (u + L + 1) L2 B g) (hw : code (u + L) = jshl (nI (u + L + 1 + L2)) 8 ||| c) (hc : c = 38 ∨ c = 124) (hB : 1 ≤ B) : CR code u (L + 1 + L2) B (if c = 38 then sAnd f g else sOr f g) := by
  intro V Lt arr vals nn to m n lp K g1 g2 g3 g4 g5 g6 g7
  have ha : arr (u + L) = jshl (nI (u + L + 1 + L2)) 8 ||| c := by rw [g2 L (by omega), hw]
  obtain ⟨f1, f0⟩ := hf V Lt arr vals nn to m (n + L2 + 1) lp K g1 (fun i hi => g2 i (by omega)) (by omega) g4 g5 g6 g7
  rw [show n + (L + 1 + L2) = n + L2 + 1 + L by omega]
  cases hf1 : f V with
  | none =>
    have hs : (if c = 38 then sAnd f g else sOr f g) V = none := by
      split
      · unfold sAnd; rw [hf1]
      · unfold sOr; rw [hf1]
    rw [hs]
    exact ⟨fun z hz => (by cases hz), fun _ => f0 hf1⟩
  | some a =>
    obtain ⟨v1, lp1, a1, a2, a3, a4⟩ := f1 a hf1
    have hl := cL_leap (n := n + L2) (m := m) (lp := lp1) (i := u + L) (vals := v1) (Lt := Lt) (K := K) (c := c) (g := u + L + 1 + L2) g4 g5 (by omega) a3 (by omega) (by omega) ha hc
    rw [a2] at hl
    rw [a4, hl]
    have hs : (if c = 38 then sAnd f g else sOr f g) V = if (a = 0 ∧ c = 38) ∨ (¬ a = 0 ∧ c = 124) then some a else g V := by
      rcases hc with h | h
      · subst h
        rw [if_pos rfl]
        unfold sAnd
        rw [hf1]
        by_cases d : a = 0
        · rw [if_pos (Or.inl ⟨d, rfl⟩)]; show (if a = 0 then some a else g V) = _; rw [if_pos d]
        · rw [if_neg (by rintro (w | w); exact d w.1; exact absurd w.2 (by decide))]; show (if a = 0 then some a else g V) = _; rw [if_neg d]
      · subst h
        rw [if_neg (by decide)]
        unfold sOr
        rw [hf1]
        by_cases d : a = 0
        · rw [if_neg (by rintro (w | w); exact absurd w.2 (by decide); exact w.1 d)]; show (if a = 0 then g V else some a) = _; rw [if_pos d]
        · rw [if_pos (Or.inr ⟨d, rfl⟩)]; show (if a = 0 then g V else some a) = _; rw [if_neg d]
    rw [hs]
    by_cases d : (a = 0 ∧ c = 38) ∨ (¬ a = 0 ∧ c = 124)
    · rw [if_pos d, if_pos d]
      refine ⟨fun z hz => ?_, fun hz => by cases hz⟩
      cases hz
      refine ⟨v1, u + L + 1 + L2, a1, a2, by omega, ?_⟩
      rw [cL_skips g4 g5 (by omega) L2 (u + L + 1) n rfl, show u + (L + 1 + L2) = u + L + 1 + L2 by omega]
    · rw [if_neg d, if_neg d]
      obtain ⟨k1, k0⟩ := hg V Lt arr v1 nn to m n lp1 K g1 (fun i hi => by have := g2 (L + 1 + i) (by omega); rw [← Nat.add_assoc, ← Nat.add_assoc] at this; exact this) (by omega) g4 g5 g6 (by omega)
      refine ⟨fun z hz => ?_, k0⟩
      obtain ⟨v2, lp2, b1, b2, b3, b4⟩ := k1 z hz
      refine ⟨v2, lp2, fun i hi => by rw [b1 i hi, a1 i hi], b2, by omega, ?_⟩
      rw [b4, show u + (L + 1 + L2) = u + L + 1 + L2 by omega]
end EC
/-! the reference's -/
noncomputable def vO (q : Nat → Int32) (c : Int32) : Int32 := (f_X12_valueOf (q 0) (q 1) (q 2) (q 3) (q 4) (q 5) (q 6) (q 7) (q 8) (q 9) (q 10) (q 11) (q 12) c).getD 0
theorem vO_e (q : Nat → Int32) (c : Int32) : f_X12_valueOf (q 0) (q 1) (q 2) (q 3) (q 4) (q 5) (q 6) (q 7) (q 8) (q 9) (q 10) (q 11) (q 12) c = some (vO q c) := by
  obtain ⟨v, e, -⟩ := s_X12_valueOf (q 0) (q 1) (q 2) (q 3) (q 4) (q 5) (q 6) (q 7) (q 8) (q 9) (q 10) (q 11) (q 12) c
  unfold vO
  rw [e]; rfl
noncomputable def rL (q arr aarg : Nat → Int32) (to n m i : Nat) (rf wo : Nat → Int32) : Option ((Nat → Int32) × (Nat → Int32)) := f_X12_works_L5 (q 0) (q 1) (q 2) (q 3) (q 4) (q 5) (q 6) (q 7) (q 8) (q 9) (q 10) (q 11) (q 12) arr aarg (nI to) n (nI m) (nI i) rf wo
def RR (nc na : Nat → Int32) (k L : Nat) (f : Sem) : Prop :=
  ∀ (V : Int32 → Int32) (q arr aarg rf wo : Nat → Int32) (off to m n : Nat), (∀ c, valB c = true → vO q c = V c) → (∀ i, i < L → arr (off + k + i) = nc (k + i) ∧ aarg (off + k + i) = na (k + i)) → off + k + L ≤ to → to ≤ 2400 → m + L ≤ 190 →
    ∃ rf' wo' : Nat → Int32, (∀ i, i < m → rf' i = rf i ∧ wo' i = wo i) ∧ rL q arr aarg to (n + L) m (off + k) rf wo = rL q arr aarg to n (m + 1) (off + k + L) rf' wo' ∧ (∀ v, f V = some v → rf' m = 0 ∧ wo' m = v) ∧ (f V = none → rf' m = 1)
section ER
variable {q arr aarg rf wo : Nat → Int32} {to n m i : Nat}
theorem vb0 : vp_nar .boolean 0 = 0 := by decide
theorem vb1 : vp_nar .boolean 1 = 1 := by decide
theorem rL_num (hto : to ≤ 2400) (hi : i < to) (hm : m < 200) (hc : arr i = 0) : rL q arr aarg to (n + 1) m i rf wo = rL q arr aarg to n (m + 1) (i + 1) (upd rf m 0) (upd wo m (aarg i)) := by
  unfold rL
  have jl : jin (nI i) 2400 = true := jin_n (by omega) (by omega)
  have jm : jin (nI m) 200 = true := jin_n (by omega) (by omega)
  rw [f_X12_works_L5, if_neg (nI_ge hi (by omega)), rdI_o jl, nI_clamp (by omega), hc, if_pos (by decide), rdI_o jl, nI_clamp (by omega), hc, if_neg (by decide), wrZ_o jm, rdI_o jl, nI_clamp (by omega), hc, if_pos rfl, rdI_o jl, nI_clamp (by omega), wrI_o jm, nmI_o, nmI_o, nI_1, nI_1, nI_clamp (by omega), vb0]
theorem rL_let (hto : to ≤ 2400) (hi : i < to) (hm : m < 200) (hc : arr i = 1) : rL q arr aarg to (n + 1) m i rf wo = rL q arr aarg to n (m + 1) (i + 1) (upd rf m 0) (upd wo m (vO q (aarg i))) := by
  unfold rL
  have jl : jin (nI i) 2400 = true := jin_n (by omega) (by omega)
  have jm : jin (nI m) 200 = true := jin_n (by omega) (by omega)
  rw [f_X12_works_L5, if_neg (nI_ge hi (by omega)), rdI_o jl, nI_clamp (by omega), hc, if_pos (by decide), rdI_o jl, nI_clamp (by omega), hc, if_neg (by decide), wrZ_o jm, rdI_o jl, nI_clamp (by omega), hc, if_neg (by decide), rdI_o jl, nI_clamp (by omega), vO_e, cb1_o, wrI_o jm, nmI_o, nmI_o, nI_1, nI_1, nI_clamp (by omega), vb0]
theorem rL_not (hto : to ≤ 2400) (hi : i < to) (hm : m < 200) (hc : arr i = 2) : rL q arr aarg to (n + 1) (m + 1) i rf wo = rL q arr aarg to n (m + 1) (i + 1) rf (upd wo m (1 - wo m)) := by
  unfold rL
  have jl : jin (nI i) 2400 = true := jin_n (by omega) (by omega)
  have jm : jin (nI m) 200 = true := jin_n (by omega) (by omega)
  rw [f_X12_works_L5, if_neg (nI_ge hi (by omega)), rdI_o jl, nI_clamp (by omega), hc, if_pos (by decide), rdI_o jl, nI_clamp (by omega), hc, if_pos rfl, nI_pred, rdI_o jm, nmI_o, wrI_o jm, nmI_o, nI_1, nI_clamp (by omega)]
theorem rL_op {c : Int32} {rf' wo' : Nat → Int32} (hto : to ≤ 2400) (hi : i < to) (hc : arr i = c) (hc2 : 2 < c.toInt) (hd : f_X12_does rf wo c (nI m) = some (rf', wo')) : rL q arr aarg to (n + 1) (m + 2) i rf wo = rL q arr aarg to n (m + 1) (i + 1) rf' wo' := by
  unfold rL
  have jl : jin (nI i) 2400 = true := jin_n (by omega) (by omega)
  have h2 : ¬ c ≤ 2 := fun w => by have := leI w; have z : (2 : Int32).toInt = 2 := (by decide); omega
  rw [f_X12_works_L5, if_neg (nI_ge hi (by omega)), rdI_o jl, nI_clamp (by omega), hc, if_neg h2, nmI_o, show m + 2 = (m + 1) + 1 by omega, pk_m1, nI_pred, rdI_o jl, nI_clamp (by omega), hc, hd, cb2_o, nmI_o, nI_1]
theorem does_bin {c : Int32} (hm : m + 1 < 200) (hc : isO c) : ∃ t : Int32, f_X12_does rf wo c (nI m) = some (upd rf m t, upd wo m (wk c (wo m) (wo (m + 1)))) ∧ ((rf m = 0 ∧ rf (m + 1) = 0 ∧ ¬ dvz c (wo (m + 1))) → t = 0) ∧ (¬ (rf m = 0 ∧ rf (m + 1) = 0 ∧ ¬ dvz c (wo (m + 1))) → t = 1) := by
  have ne : ¬ c = 38 ∧ ¬ c = 124 := by rcases hc with h | h | h | h | h | h | h | h <;> subst h <;> decide
  have jm : jin (nI m) 200 = true := jin_n (by omega) (by omega)
  have jm1 : jin (nI (m + 1)) 200 = true := jin_n (by omega) (by omega)
  have hJ : ∀ z : Int32, f_X12_does_J120 rf wo c (nI m) (nI (m + 1)) z = some (upd rf m (vp_nar .boolean z), upd wo m (wk c (wo m) (wo (m + 1)))) := by
    intro z
    rw [f_X12_does_J120, wrZ_o jm, rdI_o jm, rdI_o jm1, nI_clamp (by omega), nI_clamp (by omega), wk_e, cb1_o, wrI_o jm, nI_clamp (by omega)]
  rw [f_X12_does, nmI_o, if_neg ne.1, if_neg ne.2, nI_1, rdI_o jm, nI_clamp (by omega)]
  by_cases a : rf m = 0
  · rw [if_pos a, rdI_o jm1, nI_clamp (by omega)]
    by_cases b : rf (m + 1) = 0
    · rw [if_pos b]
      have hD : f_X12_does_J106 wo (nI (m + 1)) (f_X12_does_J120 rf wo c (nI m) (nI (m + 1))) = if wo (m + 1) = 0 then f_X12_does_J120 rf wo c (nI m) (nI (m + 1)) 1 else f_X12_does_J120 rf wo c (nI m) (nI (m + 1)) 0 := by
        rw [f_X12_does_J106, rdI_o jm1, nI_clamp (by omega)]
      by_cases d : c = 47 ∨ c = 37
      · have hE : (if c = 47 then f_X12_does_J106 wo (nI (m + 1)) (f_X12_does_J120 rf wo c (nI m) (nI (m + 1))) else if c = 37 then f_X12_does_J106 wo (nI (m + 1)) (f_X12_does_J120 rf wo c (nI m) (nI (m + 1))) else f_X12_does_J120 rf wo c (nI m) (nI (m + 1)) 0) = f_X12_does_J106 wo (nI (m + 1)) (f_X12_does_J120 rf wo c (nI m) (nI (m + 1))) := by
          by_cases d1 : c = 47
          · rw [if_pos d1]
          · rw [if_neg d1, if_pos (d.resolve_left d1)]
        rw [hE, hD]
        by_cases z : wo (m + 1) = 0
        · rw [if_pos z, hJ, vb1]
          exact ⟨1, rfl, fun w => absurd ⟨d, z⟩ w.2.2, fun _ => rfl⟩
        · rw [if_neg z, hJ, vb0]
          exact ⟨0, rfl, fun _ => rfl, fun w => absurd ⟨a, b, fun w2 => z w2.2⟩ w⟩
      · rw [if_neg (fun w => d (Or.inl w)), if_neg (fun w => d (Or.inr w)), hJ, vb0]
        exact ⟨0, rfl, fun _ => rfl, fun w => absurd ⟨a, b, fun w2 => d w2.1⟩ w⟩
    · rw [if_neg b, hJ, vb1]
      exact ⟨1, rfl, fun w => absurd w.2.1 b, fun _ => rfl⟩
  · rw [if_neg a, hJ, vb1]
    exact ⟨1, rfl, fun w => absurd w.1 a, fun _ => rfl⟩
theorem does_join {c : Int32} (hm : m + 1 < 200) (hc : c = 38 ∨ c = 124) : f_X12_does rf wo c (nI m) = if rf m = 0 ∧ wo m = (if c = 38 then 1 else 0) then some (upd rf m (vp_nar .boolean (rf (m + 1))), upd wo m (wo (m + 1))) else some (rf, wo) := by
  have jm : jin (nI m) 200 = true := jin_n (by omega) (by omega)
  have jm1 : jin (nI (m + 1)) 200 = true := jin_n (by omega) (by omega)
  have hJ : f_X12_does_J16 c (nI m) (nI (m + 1)) rf wo = if rf m = 0 ∧ wo m = (if c = 38 then 1 else 0) then some (upd rf m (vp_nar .boolean (rf (m + 1))), upd wo m (wo (m + 1))) else some (rf, wo) := by
    rw [f_X12_does_J16, rdI_o jm, nI_clamp (by omega)]
    by_cases a : rf m = 0
    · rw [if_pos a, rdI_o jm, nI_clamp (by omega)]
      have hJ2 : ∀ z : Int32, f_X12_does_J42 (nI m) (nI (m + 1)) rf wo (wo m) z = if wo m = z then some (upd rf m (vp_nar .boolean (rf (m + 1))), upd wo m (wo (m + 1))) else some (rf, wo) := by
        intro z
        rw [f_X12_does_J42, rdI_o jm1, nI_clamp (by omega), wrI_o jm, rdI_o jm1, nI_clamp (by omega), wrZ_o jm, nI_clamp (by omega)]
      rw [hJ2, hJ2]
      by_cases d : c = 38
      · rw [if_pos d, if_pos d]
        by_cases z : wo m = 1
        · rw [if_pos z, if_pos ⟨a, z⟩]
        · rw [if_neg z, if_neg (fun w => z w.2)]
      · rw [if_neg d, if_neg d]
        by_cases z : wo m = 0
        · rw [if_pos z, if_pos ⟨a, z⟩]
        · rw [if_neg z, if_neg (fun w => z w.2)]
    · rw [if_neg a, if_neg (fun w => a w.1)]
  rw [f_X12_does, nmI_o, nI_1]
  rcases hc with h | h
  · rw [if_pos h]; exact hJ
  · rw [if_neg (by rw [h]; decide), if_pos h]; exact hJ
end ER
