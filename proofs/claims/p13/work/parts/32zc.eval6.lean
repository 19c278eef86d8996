/-! a height, on both sides -/
abbrev R16 : Type := Int32 × Int32 × Int32 × Int32 × Int32 × Int32 × Int32 × Int32 × Int32 × Int32 × Int32 × Int32 × Int32 × Int32 × (Nat → Int32) × (Nat → Int32)
theorem hgt_L {v : kTv} {code ca cf ct sf many : Nat → Int32} {s c : Nat} {V : Int32 → Int32} {F : Nat → Bool × Int32} {p2 p3 A W S U X : Int32} {K : Int32 → (Nat → Int32) → (Nat → Int32) → Option R16} (hs : s < 10) (hc : c ≤ 12) (hm : many s = nI c) (hF : ∀ x, x < c → clEv 1 v code ca cf ct sf s x V (F x)) (hV : ∀ c, valB c = true → vO (qv A 0 p2 W 0 0 0 p3 0 S 0 U X) c = V c) :
    ∀ (r x n : Nat) (rf wo : Nat → Int32), x + r = c → ∃ rf' wo' : Nat → Int32, (∃ z, isFst F x c z ∧ f_X12_heightOf_L95 code ca cf ct many (nI s) p2 p3 0 0 0 0 0 0 A W S U X K (n + r + 1) (nI (12 * s + x)) rf wo = K (nI (12 * s + z)) rf' wo') ∨ (noFst F x c ∧ f_X12_heightOf_L95 code ca cf ct many (nI s) p2 p3 0 0 0 0 0 0 A W S U X K (n + r + 1) (nI (12 * s + x)) rf wo = some (0, A, 0, p2, W, 0, 0, 0, p3, 0, S, 0, U, X, rf', wo')) := by
  have j1 : jin (0 + nI s) 20 = true := by rw [show (0 : Int32) = nI 0 from nI_0.symm, nI_add]; exact jin_n (by omega) (by omega)
  have c1 : (0 + nI s).toNatClampNeg = s := by rw [show (0 : Int32) = nI 0 from nI_0.symm, nI_add, nI_clamp (by omega), Nat.zero_add]
  have c2 : (12 : Int32) * (0 + nI s) + nI c = nI (12 * s + c) := by rw [show (0 : Int32) = nI 0 from nI_0.symm, show (12 : Int32) = nI 12 from rfl, nI_add, pk_mul, nI_add, Nat.zero_add]
  intro r
  induction r with
  | zero =>
    intro x n rf wo h
    have hx : x = c := by omega
    subst hx
    refine ⟨rf, wo, Or.inr ⟨fun i h1 h2 => absurd h1 (by omega), ?_⟩⟩
    rw [Nat.add_zero, f_X12_heightOf_L95, rdI_o j1, c1, hm, c2, if_pos (nI_le (Nat.le_refl _) (by omega))]
  | succ r ih =>
    intro x n rf wo h
    have hx : x < c := by omega
    obtain ⟨q, rf1, wo1, e1, e2⟩ := (hF x hx).2.1 (qv A 0 p2 W 0 0 0 p3 0 S 0 U X) rf wo hV
    have e1 : f_X12_holds A 0 p2 W 0 0 0 p3 0 S 0 U X code ca cf ct rf wo (nI (12 * s + x)) = some (q, rf1, wo1) := e1
    rw [show n + (r + 1) + 1 = (n + r + 1) + 1 by omega, f_X12_heightOf_L95, rdI_o j1, c1, hm, c2, if_neg (nI_ge (by omega) (by omega)), e1, cb3_o]
    by_cases g : q = 0
    · have hf := e2.mp g
      rw [if_pos g, nmI_o, nI_1, show 12 * s + x + 1 = 12 * s + (x + 1) by omega]
      obtain ⟨rf', wo', hh⟩ := ih (x + 1) n rf1 wo1 (by omega)
      refine ⟨rf', wo', ?_⟩
      rcases hh with ⟨z, ⟨z1, z2, z3, z4⟩, hz⟩ | ⟨hn, hy⟩
      · refine Or.inl ⟨z, ⟨by omega, z2, z3, fun i i1 i2 => ?_⟩, hz⟩
        by_cases d : i = x
        · rw [d]; exact hf
        · exact z4 i (by omega) i2
      · refine Or.inr ⟨fun i i1 i2 => ?_, hy⟩
        by_cases d : i = x
        · rw [d]; exact hf
        · exact hn i (by omega) i2
    · rw [if_neg g]
      refine ⟨rf1, wo1, Or.inl ⟨x, ⟨Nat.le_refl _, hx, ?_, fun i i1 i2 => absurd i1 (by omega)⟩, rfl⟩⟩
      cases hb : (F x).1 with
      | true => rfl
      | false => exact absurd (e2.mpr hb) g
section HG
variable {sd a1 a2 a3 a4 a5 a6 a7 a8 a9 a10 a11 a12 a13 p2 p3 : Int32} {bs code ca cf ct rf many mo sf wd wi wo Lt vals : Nat → Int32} {s c : Nat} {v : kTv}
noncomputable abbrev S_of (p2 p3 : Int32) : Int32 := jrem (p3 + (4 * p2)) 1440
noncomputable abbrev A_of (bs mo : Nat → Int32) (s : Nat) (p2 p3 : Int32) : Int32 := jmin (jabs ((if bs s = 0 then p3 else S_of p2 p3) - mo s)) (1440 - jabs ((if bs s = 0 then p3 else S_of p2 p3) - mo s))
noncomputable abbrev C_of (wd : Nat → Int32) (s : Nat) (p2 : Int32) : Int32 := if ((jshr (wd s) (jrem p2 7)) &&& 1) = 1 then 1 else 0
theorem S_rg (h2 : 0 ≤ p2.toInt ∧ p2.toInt ≤ 399) (h3 : 0 ≤ p3.toInt ∧ p3.toInt ≤ 1439) : 0 ≤ (S_of p2 p3).toInt ∧ (S_of p2 p3).toInt ≤ 1439 := by
  have l4 : (4 : Int32).toInt = 4 := by decide
  have l5 : (1440 : Int32).toInt = 1440 := by decide
  have m1 := mlY 4 p2 4 l4 (by omega) (by omega)
  have m2 := adX p3 (4 * p2) (by omega) (by omega)
  have m3 := rm_ (p3 + 4 * p2) 1440 (by omega)
  have m4 := m3.2.2.1 (by omega)
  unfold S_of
  omega
theorem away_e (hs : s < 10) (h2 : 0 ≤ p2.toInt ∧ p2.toInt ≤ 399) (h3 : 0 ≤ p3.toInt ∧ p3.toInt ≤ 1439) (hm : 0 ≤ (mo s).toInt ∧ (mo s).toInt ≤ 1439) : f_X12_awayOf bs mo (nI s) p2 p3 = some (A_of bs mo s p2 p3) ∧ f_X11_minutesApart (if bs s = 0 then p3 else S_of p2 p3) (mo s) = some (A_of bs mo s p2 p3) := by
  have j1 : jin (nI s) 10 = true := jin_n (by omega) (by omega)
  have hA : f_X11_minutesApart (if bs s = 0 then p3 else S_of p2 p3) (mo s) = some (A_of bs mo s p2 p3) := by rw [f_X11_minutesApart, nmI_o]
  refine ⟨?_, hA⟩
  rw [f_X12_awayOf, rdI_o j1, nI_clamp (by omega)]
  by_cases c : bs s = 0
  · rw [if_pos c] at hA
    rw [if_pos c, f_X12_awayOf_J18, rdI_o j1, nI_clamp (by omega), far_e h3 hm, hA, cb1_o]
  · rw [if_neg c] at hA
    rw [if_neg c, f_X12_starAt, cb1_o, f_X12_awayOf_J18, rdI_o j1, nI_clamp (by omega), far_e (S_rg h2 h3) hm, hA, cb1_o]
theorem there_e (hs : s < 10) (h2 : 0 ≤ p2.toInt ∧ p2.toInt ≤ 399) (h3 : 0 ≤ p3.toInt ∧ p3.toInt ≤ 1439) (hm : 0 ≤ (mo s).toInt ∧ (mo s).toInt ≤ 1439) : f_X12_isThere bs mo wd wi (nI s) p2 p3 = some (if C_of wd s p2 = 0 then 0 else if wi s < A_of bs mo s p2 p3 then 0 else 1) := by
  have j1 : jin (nI s) 10 = true := jin_n (by omega) (by omega)
  have hh : f_X12_has (wd s) (jrem p2 7) = some (C_of wd s p2) := by
    rw [f_X12_has]; unfold C_of
    split <;> rfl
  rw [f_X12_isThere, rdI_o j1, nI_clamp (by omega), hh, cb1_o]
  by_cases c : C_of wd s p2 = 0
  · rw [if_pos c, if_pos c]
  · rw [if_neg c, if_neg c, (away_e hs h2 h3 hm).1, cb1_o, rdI_o j1, nI_clamp (by omega)]
    split <;> rfl
noncomputable abbrev hOfR (sd a1 a2 a3 a4 a5 a6 a7 a8 a9 a10 a11 a12 a13 : Int32) (bs code ca cf ct rf many mo sf wd wi wo : Nat → Int32) (s : Nat) (p2 p3 : Int32) : Option R16 := f_X12_heightOf sd a1 a2 a3 a4 a5 a6 a7 a8 a9 a10 a11 a12 a13 bs code ca cf ct rf many mo sf wd wi wo (nI s) p2 p3
theorem hgt_no (hs : s < 10) (h2 : 0 ≤ p2.toInt ∧ p2.toInt ≤ 399) (h3 : 0 ≤ p3.toInt ∧ p3.toInt ≤ 1439) (hm : 0 ≤ (mo s).toInt ∧ (mo s).toInt ≤ 1439) (hn : C_of wd s p2 = 0 ∨ wi s < A_of bs mo s p2 p3) : Sf (hOfR sd a1 a2 a3 a4 a5 a6 a7 a8 a9 a10 a11 a12 a13 bs code ca cf ct rf many mo sf wd wi wo s p2 p3) (fun z => z.1 = 0) := by
  unfold hOfR
  have hT : f_X12_isThere bs mo wd wi (nI s) p2 p3 = some 0 := by
    rw [there_e hs h2 h3 hm]
    by_cases c : C_of wd s p2 = 0
    · rw [if_pos c]
    · rw [if_neg c, if_pos (hn.resolve_left c)]
  rw [f_X12_heightOf, hT, cb1_o, if_pos rfl]
  exact Sf_some rfl
noncomputable abbrev U_of (p2 p3 : Int32) : Int32 := jmin (jabs (S_of p2 p3 - S_of p2 720)) (1440 - jabs (S_of p2 p3 - S_of p2 720))
theorem hgt_yes (hs : s < 10) (h2 : 0 ≤ p2.toInt ∧ p2.toInt ≤ 399) (h3 : 0 ≤ p3.toInt ∧ p3.toInt ≤ 1439) (hm : 0 ≤ (mo s).toInt ∧ (mo s).toInt ≤ 1439) (h1 : ¬ C_of wd s p2 = 0) (h4 : ¬ wi s < A_of bs mo s p2 p3) (hsd : 0 ≤ sd.toInt ∧ sd.toInt ≤ 999) {X : Int32} (hX : f_X7_luck sd (nI s) p2 p3 = some X) : hOfR sd a1 a2 a3 a4 a5 a6 a7 a8 a9 a10 a11 a12 a13 bs code ca cf ct rf many mo sf wd wi wo s p2 p3 = f_X12_heightOf_L95 code ca cf ct many (nI s) p2 p3 0 0 0 0 0 0 (A_of bs mo s p2 p3) (jrem p2 7) (S_of p2 p3) (U_of p2 p3) X (f_X12_heightOf_J127 code ca cf sf p2 p3 0 0 0 0 0 0 (A_of bs mo s p2 p3) (jrem p2 7) (S_of p2 p3) (U_of p2 p3) X) FU (nI (12 * s)) rf wo := by
  have hT : f_X12_isThere bs mo wd wi (nI s) p2 p3 = some 1 := by rw [there_e hs h2 h3 hm, if_neg h1, if_neg h4]
  have l7 : 0 ≤ (720 : Int32).toInt ∧ (720 : Int32).toInt ≤ 1439 := by decide
  have hU : f_X12_farOf (S_of p2 p3) (jrem (720 + (4 * p2)) 1440) = some (U_of p2 p3) := by
    have := far_e (S_rg h2 h3) (S_rg (p3 := 720) h2 l7)
    rw [this, f_X11_minutesApart, nmI_o]
  have c2 : (12 : Int32) * (0 + nI s) = nI (12 * s) := by rw [show (0 : Int32) = nI 0 from nI_0.symm, show (12 : Int32) = nI 12 from rfl, nI_add, pk_mul, Nat.zero_add]
  have ts : (nI s).toInt = (s : Int) := nI_toInt (by omega)
  unfold hOfR
  rw [f_X12_heightOf, hT, cb1_o, if_neg (by decide), f_X12_clears, cb13_o, (away_e hs h2 h3 hm).1, cb1_o, nmI_o, f_X12_starAt, cb1_o, hU, cb1_o, luck_e hsd (by omega) h2 h3, hX, cb1_o, nmI_o, c2]
theorem clamp_e (w : Int32) : jmax 0 (jmin 1000 w) = if 0 ≤ w then (if w ≤ 1000 then w else 1000) else 0 := by
  have l0 : (0 : Int32).toInt = 0 := by decide
  have l1 : (1000 : Int32).toInt = 1000 := by decide
  have hm : jmin 1000 w = if w ≤ 1000 then w else 1000 := by
    unfold jmin
    by_cases c : w < 1000
    · have c' := ltI c
      rw [if_pos c, if_pos (Int32.le_iff_toInt_le.mpr (by omega))]
    · have c' := nltI c
      rw [if_neg c]
      by_cases d : w ≤ 1000
      · have d' := leI d
        rw [if_pos d]; exact i32_eq (by omega)
      · rw [if_neg d]
  rw [hm]
  unfold jmax
  by_cases d : w ≤ 1000
  · have d' := leI d
    rw [if_pos d]
    by_cases c : 0 ≤ w
    · have c' := leI c
      rw [if_pos c]
      by_cases g : 0 < w
      · rw [if_pos g]
      · have g' := nltI g
        rw [if_neg g]; exact i32_eq (by omega)
    · have c' := nleI c
      rw [if_neg c, if_neg (fun g => by have := ltI g; omega)]
  · have d' := nleI d
    rw [if_neg d, if_pos (show (0 : Int32) < 1000 by decide), if_pos (Int32.le_iff_toInt_le.mpr (by omega))]
set_option maxHeartbeats 4000000 in
theorem hgt_sim (hs : s < 10) (h2 : 0 ≤ p2.toInt ∧ p2.toInt ≤ 399) (h3 : 0 ≤ p3.toInt ∧ p3.toInt ≤ 1439) (hm : 0 ≤ (mo s).toInt ∧ (mo s).toInt ≤ 1439) (hsd : 0 ≤ sd.toInt ∧ sd.toInt ≤ 999) (hT : TXR 1 v code ca cf ct sf s c) (hmany : many s = nI c) (hLS : LtS Lt) :
    Sf (f_X7_heightOf v.2.1.1 v.2.2.2.1 v.2.2.1.1 sd (nI s) (bs s) (mo s) (wi s) (wd s) v.1 v.2.1.2 v.2.2.2.2 v.2.2.1.2 Lt vals p2 p3) (fun y => LtS y.2.1 ∧ Sf (hOfR sd a1 a2 a3 a4 a5 a6 a7 a8 a9 a10 a11 a12 a13 bs code ca cf ct rf many mo sf wd wi wo s p2 p3) (fun z => z.1 = y.1)) := by
  have hcl : f_X7_heightOf v.2.1.1 v.2.2.2.1 v.2.2.1.1 sd (nI s) (bs s) (mo s) (wi s) (wd s) v.1 v.2.1.2 v.2.2.2.2 v.2.2.1.2 Lt vals p2 p3 = f_X7_heightOf_J20 sd (nI s) (mo s) (wi s) (wd s) v.1 v.2.1.1 v.2.1.2 v.2.2.2.1 v.2.2.2.2 v.2.2.1.1 v.2.2.1.2 Lt vals p2 p3 (S_of p2 p3) (if bs s = 0 then p3 else S_of p2 p3) := by
    rw [f_X7_heightOf, f_X11_starMinute, cb1_o]
    by_cases c : bs s = 0
    · rw [if_pos c, if_pos c]
    · rw [if_neg c, if_neg c]
  have hCm : f_X8_comesOn (wd s) p2 = some (C_of wd s p2) := by
    rw [f_X8_comesOn]; unfold C_of
    split <;> rfl
  rw [hcl, f_X7_heightOf_J20, (away_e hs h2 h3 hm).2, cb1_o]
  refine Sf_ite (fun g => Sf_some ⟨hLS, hgt_no hs h2 h3 hm (Or.inr g)⟩) (fun g => ?_)
  rw [hCm, cb1_o]
  refine Sf_ite (fun g2 => Sf_some ⟨hLS, hgt_no hs h2 h3 hm (Or.inl g2)⟩) (fun g2 => ?_)
  obtain ⟨X, hX, -⟩ := s_X7_luck sd (nI s) p2 p3
  have hU : f_X11_minutesApart (S_of p2 p3) (S_of p2 720) = some (U_of p2 p3) := by rw [f_X11_minutesApart, nmI_o]
  have hS7 : f_X11_starMinute p2 720 = some (S_of p2 720) := by rw [f_X11_starMinute]
  rw [wrI_o (by decide), wrI_o (by decide), wrI_o (by decide), wrI_o (by decide), hS7, cb1_o, hU, cb1_o, wrI_o (by decide), nmI_o, wrI_o (by decide), hX, cb1_o, wrI_o (by decide), show (100 : Int32).toNatClampNeg = 100 by decide, show (109 : Int32).toNatClampNeg = 109 by decide, show (115 : Int32).toNatClampNeg = 115 by decide, show (97 : Int32).toNatClampNeg = 97 by decide, show (117 : Int32).toNatClampNeg = 117 by decide, show (102 : Int32).toNatClampNeg = 102 by decide, show (120 : Int32).toNatClampNeg = 120 by decide]
  have hLS' : LtS (upd (upd (upd (upd (upd (upd (upd Lt 100 p2) 109 p3) 115 (S_of p2 p3)) 97 (A_of bs mo s p2 p3)) 117 (U_of p2 p3)) 102 (jrem p2 7)) 120 X) := LtS_upd (LtS_upd (LtS_upd (LtS_upd (LtS_upd (LtS_upd (LtS_upd hLS (by omega)) (by omega)) (by omega)) (by omega)) (by omega)) (by omega)) (by omega)
  have hV : ∀ c, valB c = true → vO (qv (A_of bs mo s p2 p3) 0 p2 (jrem p2 7) 0 0 0 p3 0 (S_of p2 p3) 0 (U_of p2 p3) X) c = (upd (upd (upd (upd (upd (upd (upd Lt 100 p2) 109 p3) 115 (S_of p2 p3)) 97 (A_of bs mo s p2 p3)) 117 (U_of p2 p3)) 102 (jrem p2 7)) 120 X) c.toNatClampNeg := by
    obtain ⟨k1, k2', k3, k4, k5, k6⟩ := hLS'
    refine V_all (V := fun c => (upd (upd (upd (upd (upd (upd (upd Lt 100 p2) 109 p3) 115 (S_of p2 p3)) 97 (A_of bs mo s p2 p3)) 117 (U_of p2 p3)) 102 (jrem p2 7)) 120 X) c.toNatClampNeg) ⟨?_, k1, ?_, ?_, k2', k3, k4, ?_, k5, ?_, k6, ?_, ?_⟩ <;> rfl
  generalize (upd (upd (upd (upd (upd (upd (upd Lt 100 p2) 109 p3) 115 (S_of p2 p3)) 97 (A_of bs mo s p2 p3)) 117 (U_of p2 p3)) 102 (jrem p2 7)) 120 X) = L' at *
  obtain ⟨F, hF⟩ := text_eval hT (by omega) (fun c => L' c.toNatClampNeg)
  have hc12 : c ≤ 12 := hT.2.2.1
  obtain ⟨n, hn⟩ : ∃ n, FU = n + c + 1 := ⟨FU - c - 1, by have := FU_ge; omega⟩
  have hR := hgt_L (K := f_X12_heightOf_J127 code ca cf sf p2 p3 0 0 0 0 0 0 (A_of bs mo s p2 p3) (jrem p2 7) (S_of p2 p3) (U_of p2 p3) X) hs hc12 hmany hF hV c 0 n rf wo (by omega)
  rw [← hn, Nat.add_zero, ← hgt_yes (a1 := a1) (a2 := a2) (a3 := a3) (a4 := a4) (a5 := a5) (a6 := a6) (a7 := a7) (a8 := a8) (a9 := a9) (a10 := a10) (a11 := a11) (a12 := a12) (a13 := a13) (rf := rf) (wo := wo) hs h2 h3 hm g2 g hsd hX] at hR
  obtain ⟨rf', wo', hR⟩ := hR
  refine Sf_cb2 (first_n hT hF (fun c _ => rfl)) (fun r vals' hr => ?_)
  rcases hr with ⟨z, hz, hr⟩ | ⟨hz, hr⟩
  · have hr : r = nI z := hr
    have hzc : z < c := hz.2.1
    have hne : ¬ nI z = -1 := fun w => by have := eqI w; rw [nI_toInt (by omega)] at this; have m1 : (-1 : Int32).toInt = -1 := (by decide); omega
    rw [hr, if_neg hne]
    obtain ⟨vals2, hw⟩ := worth_n (vals := vals') hT (by decide) hF (fun c _ => rfl) hzc
    rw [hw, cb2_o]
    refine Sf_some ⟨hLS', ?_⟩
    rcases hR with ⟨z', hz', e⟩ | ⟨hn', e⟩
    · have := fst_uni hz hz'
      subst this
      rw [e, f_X12_heightOf_J127]
      obtain ⟨rf2, wo2, hsum⟩ := ((hF z hzc).2.2 (by decide)).2 (qv (A_of bs mo s p2 p3) 0 p2 (jrem p2 7) 0 0 0 p3 0 (S_of p2 p3) 0 (U_of p2 p3) X) rf' wo' hV
      have hsum : f_X12_sumOf (A_of bs mo s p2 p3) 0 p2 (jrem p2 7) 0 0 0 p3 0 (S_of p2 p3) 0 (U_of p2 p3) X code ca cf rf' sf wo' (nI (12 * s + z)) = some ((F z).2, rf2, wo2) := hsum
      rw [hsum, cb3_o]
      show Sf _ (fun w : R16 => w.1 = jmax 0 (jmin 1000 (F z).2))
      rw [clamp_e]
      by_cases d : 0 ≤ (F z).2
      · rw [if_pos d, if_pos d]
        by_cases d2 : (F z).2 ≤ 1000
        · rw [if_pos d2, if_pos d2]; exact Sf_some rfl
        · rw [if_neg d2, if_neg d2]; exact Sf_some rfl
      · rw [if_neg d, if_neg d]; exact Sf_some rfl
    · exact absurd (fst_no hz hn') (fun w => w)
  · have hr : r = -1 := hr
    rw [if_pos hr]
    refine Sf_some ⟨hLS', ?_⟩
    rcases hR with ⟨z', hz', e⟩ | ⟨hn', e⟩
    · exact absurd (fst_no hz' hz) (fun w => w)
    · rw [e]; exact Sf_some rfl
end HG
