/-! check: the numbers of the tape, mark by mark -/
abbrev R25 : Type := Int32 × Int32 × Int32 × Int32 × Int32 × Int32 × Int32 × Int32 × Int32 × Int32 × Int32 × Int32 × Int32 × Int32 × Int32 × Int32 × Int32 × (Nat → Int32) × (Nat → Int32) × (Nat → Int32) × (Nat → Int32) × (Nat → Int32) × (Nat → Int32) × (Nat → Int32) × (Nat → Int32)
section CK
variable {tl ph ps a1 a2 a3 a4 a5 a6 a7 a8 a9 a10 a11 a12 a13 : Int32} {tb0 t he mk hA sA fi gr rf la mkR wo : Nat → Int32} {M : Nat → Bool} {k nn : Nat}
noncomputable abbrev ckL (t : Nat → Int32) (nn : Nat) (ph ps : Int32) (hA sA : Nat → Int32) (a1 a2 a3 a4 a5 a6 a7 a8 a9 a10 a11 a12 a13 : Int32) (fi gr rf la mkR wo : Nat → Int32) := f_X12_check_L52 t (nI nn) ph ps hA sA a1 a2 a3 a4 a5 a6 a7 a8 a9 a10 a11 a12 a13 fi gr rf la mkR wo (f_X12_check_J116 ph ps hA sA a1 a2 a3 a4 a5 a6 a7 a8 a9 a10 a11 a12 a13 fi gr rf la mkR wo) (f_X12_check_J143 ph ps hA sA a1 a2 a3 a4 a5 a6 a7 a8 a9 a10 a11 a12 a13 fi gr rf la mkR wo) (f_X12_check_J156 (nI nn) ph ps hA sA a1 a2 a3 a4 a5 a6 a7 a8 a9 a10 a11 a12 a13 fi gr rf la mkR wo)
theorem n3_ (x : Nat) : (3 : Int32) * nI x = nI (3 * x) := by rw [show (3 : Int32) = nI 3 from rfl, pk_mul]
theorem nx_ {x : Int32} {j i : Nat} (h : x = nI j) (i' : Int32) (hi : i' = nI i) : x + i' = nI (j + i) := by rw [h, hi, nI_add]
set_option maxHeartbeats 4000000 in
theorem cw_L (hk : k < 4) (hM : mBt mk k M) (hb : TBy tb0 t) (htl : (12 * nn : Int) ≤ tl.toInt) (htl2 : tl.toInt ≤ 200) (L1 : isLs M he (720 * 0) 1440 fi la gr) (hm0 : mkR 0 = nI (mCn M 1440)) :
    ∀ (r m n n' : Nat), m + r = 1440 → mCn M m ≤ nn → Sf (f_X4_firstWrong_L6 tl tb0 he mk (nI k) (nI nn) (f_X4_firstWrong_J80 (nI nn)) (n + r + 1) (nI (3 * mCn M m)) (nI m)) (fun y => Sf (ckL t nn ph ps hA sA a1 a2 a3 a4 a5 a6 a7 a8 a9 a10 a11 a12 a13 fi gr rf la mkR wo (n' + (mCn M 1440 - mCn M m) + 1) (nI (mCn M m))) (fun z : R25 => y = z.1)) := by
  have hbd := mCn_bd M 1440
  have hbt : (mPr M 1440).toNat ≤ 1 := by cases mPr M 1440 <;> decide
  have hnn : nn ≤ 16 := by omega
  have hrd : ∀ {β : Type} (K : Int32 → Option β), rdI mkR 2 0 K = K (nI (mCn M 1440)) := fun K => by rw [rdI_o (by decide), show (0 : Int32).toNatClampNeg = 0 by decide, hm0]
  intro r
  induction r with
  | zero =>
    intro m n n' hm hle
    have hm : m = 1440 := by omega
    subst hm
    rw [Nat.add_zero, f_X4_firstWrong_L6, if_pos (by decide +kernel), f_X4_firstWrong_J80, n3_]
    unfold ckL
    have hR : ∀ f, f_X12_check_L52 t (nI nn) ph ps hA sA a1 a2 a3 a4 a5 a6 a7 a8 a9 a10 a11 a12 a13 fi gr rf la mkR wo (f_X12_check_J116 ph ps hA sA a1 a2 a3 a4 a5 a6 a7 a8 a9 a10 a11 a12 a13 fi gr rf la mkR wo) (f_X12_check_J143 ph ps hA sA a1 a2 a3 a4 a5 a6 a7 a8 a9 a10 a11 a12 a13 fi gr rf la mkR wo) (f_X12_check_J156 (nI nn) ph ps hA sA a1 a2 a3 a4 a5 a6 a7 a8 a9 a10 a11 a12 a13 fi gr rf la mkR wo) (f + 1) (nI (mCn M 1440)) = f_X12_check_J156 (nI nn) ph ps hA sA a1 a2 a3 a4 a5 a6 a7 a8 a9 a10 a11 a12 a13 fi gr rf la mkR wo := by
      intro f
      rw [f_X12_check_L52, hrd, if_pos (nI_le (Nat.le_refl _) (by omega))]
    rw [hR, f_X12_check_J156, hrd, hrd, n3_]
    refine Sf_ite (fun c => ?_) (fun c => ?_)
    · have c : 3 * nn ≤ 3 * mCn M 1440 := (nI_leI (by omega) (by omega)).mp c
      refine Sf_some ?_
      rw [if_pos (show nI nn = nI (mCn M 1440) by rw [show nn = mCn M 1440 by omega])]
      exact Sf_some rfl
    · have c : ¬ 3 * nn ≤ 3 * mCn M 1440 := fun w => c ((nI_leI (by omega) (by omega)).mpr w)
      refine Sf_some ?_
      rw [if_neg (fun w => by have := (nI_eq (by omega) (by omega)).mp w; omega)]
      exact Sf_some rfl
  | succ r ih =>
    intro m n n' hmr hle
    have hs := mCn_s M m
    rw [show n + (r + 1) + 1 = (n + r + 1) + 1 by omega, f_X4_firstWrong_L6, if_neg (show ¬ (1440 : Int32) ≤ nI m from nI_ge (a := m) (b := 1440) (by omega) (by decide)), ibg_e hk (by omega) hM, cb1_o]
    cases hg : mBg M m with
    | false =>
      rw [hg] at hs
      have hs : mCn M (m + 1) = mCn M m := hs
      rw [if_pos (mI_0.mpr rfl), nmI_o, nI_1, ← hs]
      exact ih (m + 1) n n' (by omega) (by omega)
    | true =>
      rw [hg] at hs
      have hs : mCn M (m + 1) = mCn M m + 1 := hs
      have hlt := mCn_lt (M := M) (show m < 1440 by omega) hg
      obtain ⟨s1, e', s2, s3, s4⟩ := L1 m (by omega) hg
      rw [Nat.mul_zero, Nat.zero_add] at s1 s2 s4
      rw [if_neg (by decide), n3_]
      have jj : jin (nI (mCn M m)) 1440 = true := jin_n (by omega) (by omega)
      have cj : (nI (mCn M m)).toNatClampNeg = mCn M m := nI_clamp (by omega)
      refine Sf_ite (fun c => ?_) (fun c => ?_)
      · have c : 3 * mCn M m < 3 * nn := (nI_ltI (by omega) (by omega)).mp c
        obtain ⟨W0, x0, y0⟩ := word_e (w := 3 * mCn M m) hb (by omega) htl2
        obtain ⟨W1, x1, y1⟩ := word_e (w := 3 * mCn M m + 1) hb (by omega) htl2
        obtain ⟨W2, x2, y2⟩ := word_e (w := 3 * mCn M m + 2) hb (by omega) htl2
        have hM1 : M m = true := (mBg_t.mp hg).1
        obtain ⟨q0, f0, d0, g0, -, -, v0⟩ := nOf_e (he := he) (w := 0) hk hM (show m < 1440 by omega) hM1 (by omega)
        obtain ⟨q1, f1, d1, g1, u1, -, v1⟩ := nOf_e (he := he) (w := 1) hk hM (show m < 1440 by omega) hM1 (by omega)
        obtain ⟨q2, f2, d2, g2, u2, u2', v2⟩ := nOf_e (he := he) (w := 2) hk hM (show m < 1440 by omega) hM1 (by omega)
        have v0 : q0 = nI m := v0
        have v1 : q1 = nI d1 := v1
        have v2 : q2 = g2 := v2
        have ed1 := isRn_uni u1 s3
        subst ed1
        have ed2 := isRn_uni s3 u2
        subst ed2
        have eg := isMx_uni u2' s4
        rw [nI_0] at f0
        have f1 : f_X4_numberOf he mk (nI k) (nI m) 1 = some q1 := f1
        have f2 : f_X4_numberOf he mk (nI k) (nI m) 2 = some q2 := f2
        obtain ⟨F, hF⟩ : ∃ F, FU = F + 1 + 1 + 1 + 1 := ⟨FU - 4, by have := FU_ge; omega⟩
        have p1 : nI (3 * mCn M m) + 1 = nI (3 * mCn M m + 1) := nI_1 _
        have p2 : nI (3 * mCn M m + 1) + 1 = nI (3 * mCn M m + 2) := nI_1 _
        have p2' : nI (3 * mCn M m) + 2 = nI (3 * mCn M m + 2) := by rw [show (2 : Int32) = nI 2 from rfl, nI_add]
        have p3 : nI (3 * mCn M m + 2) + 1 = nI (3 * mCn M (m + 1)) := by rw [nI_1, hs, show 3 * mCn M m + 2 + 1 = 3 * (mCn M m + 1) by omega]
        -- the reference, at this mark
        have hR : ∀ (Q : R25 → Prop), (¬ W0 = nI m → ∀ z : R25, z.1 = nI (3 * mCn M m) → Q z) → (W0 = nI m → ¬ W1 = nI d1 → ∀ z : R25, z.1 = nI (3 * mCn M m + 1) → Q z) → (W0 = nI m → W1 = nI d1 → ¬ W2 = g2 → ∀ z : R25, z.1 = nI (3 * mCn M m + 2) → Q z) → (W0 = nI m → W1 = nI d1 → W2 = g2 → Sf (ckL t nn ph ps hA sA a1 a2 a3 a4 a5 a6 a7 a8 a9 a10 a11 a12 a13 fi gr rf la mkR wo (n' + (mCn M 1440 - mCn M (m + 1)) + 1) (nI (mCn M (m + 1)))) Q) → Sf (ckL t nn ph ps hA sA a1 a2 a3 a4 a5 a6 a7 a8 a9 a10 a11 a12 a13 fi gr rf la mkR wo (n' + (mCn M 1440 - mCn M m) + 1) (nI (mCn M m))) Q := by
          intro Q h1 h2 h3 h4
          unfold ckL
          rw [show n' + (mCn M 1440 - mCn M m) + 1 = (n' + (mCn M 1440 - mCn M (m + 1)) + 1) + 1 by omega, f_X12_check_L52, hrd, if_neg (nI_ge (by omega) (by omega)), if_neg (fun w => by have := (nI_eq (by omega) (by omega)).mp w; omega), n3_, y0, cb1_o, rdI_o jj, cj, s1]
          refine Sf_ite (fun w0 => ?_) (fun w0 => Sf_some (h1 w0 _ rfl))
          rw [p1, y1, cb1_o, rdI_o jj, cj, s2]
          refine Sf_ite (fun w1 => ?_) (fun w1 => ?_)
          · rw [p2', y2, cb1_o, rdI_o jj, cj, ← eg]
            refine Sf_ite (fun w2 => ?_) (fun w2 => ?_)
            · rw [nmI_o, nI_1, ← hs]
              exact h4 w0 w1 w2
            · rw [f_X12_check_J143, n3_, p2']
              exact Sf_some (h3 w0 w1 w2 _ rfl)
          · rw [f_X12_check_J116, n3_, p1]
            exact Sf_some (h2 w0 w1 _ rfl)
        rw [hF, f_X4_firstWrong_L38, if_neg (by decide), x0, cb1_o, f0, cb1_o]
        refine Sf_ite (fun c0 => ?_) (fun c0 => ?_)
        · have c0 : W0 = nI m := c0.trans v0
          rw [nmI_o, nmI_o, p1, show (0 : Int32) + 1 = 1 by decide, f_X4_firstWrong_L38, if_neg (by decide), x1, cb1_o, f1, cb1_o]
          refine Sf_ite (fun c1 => ?_) (fun c1 => ?_)
          · have c1 : W1 = nI d1 := c1.trans v1
            rw [nmI_o, nmI_o, p2, show (1 : Int32) + 1 = 2 by decide, f_X4_firstWrong_L38, if_neg (by decide), x2, cb1_o, f2, cb1_o]
            refine Sf_ite (fun c2 => ?_) (fun c2 => ?_)
            · have c2 : W2 = g2 := c2.trans v2
              rw [nmI_o, nmI_o, p3, show (2 : Int32) + 1 = 3 by decide, f_X4_firstWrong_L38, if_pos (by decide), nmI_o, nI_1]
              refine Sf_mono (ih (m + 1) n n' (by omega) (by omega)) (fun y hy => ?_)
              exact hR _ (fun w => absurd c0 w) (fun _ w => absurd c1 w) (fun _ _ w => absurd c2 w) (fun _ _ _ => hy)
            · refine Sf_some (hR _ (fun w => absurd c0 w) (fun _ w => absurd c1 w) (fun _ _ _ z hz => hz.symm) (fun _ _ w => absurd (w.trans v2.symm) c2))
          · refine Sf_some (hR _ (fun w => absurd c0 w) (fun _ _ z hz => hz.symm) (fun _ w => absurd (w.trans v1.symm) c1) (fun _ w => absurd (w.trans v1.symm) c1))
        · refine Sf_some (hR _ (fun _ z hz => hz.symm) (fun w => absurd (w.trans v0.symm) c0) (fun w => absurd (w.trans v0.symm) c0) (fun w => absurd (w.trans v0.symm) c0))
      · have c : ¬ 3 * mCn M m < 3 * nn := fun w => c ((nI_ltI (by omega) (by omega)).mpr w)
        have en : mCn M m = nn := by omega
        refine Sf_some ?_
        unfold ckL
        rw [show n' + (mCn M 1440 - mCn M m) + 1 = (n' + (mCn M 1440 - mCn M (m + 1)) + 1) + 1 by omega, f_X12_check_L52, hrd, if_neg (nI_ge (by omega) (by omega)), if_pos (by rw [en]), n3_, en]
        exact Sf_some rfl
end CK
section CS
variable {G : kG} {so sd rd dy tl p1 p2 p3 ph ps a1 a2 a3 a4 a5 a6 a7 a8 a9 a10 a11 a12 a13 : Int32} {bs mo wi sh wd code ca cf ct sf many rf wo he hi sp mk pL pv Lt vals fi gr la hA sA rm0 tb0 t : Nat → Int32}
set_option maxHeartbeats 4000000 in
theorem check_sim (hk0 : 0 ≤ so.toInt) (hk1 : so.toInt ≤ 10) (hsd : 0 ≤ sd.toInt ∧ sd.toInt ≤ 999) (hsrc : SRC G so bs mo wi sh wd) (hT : TX G code ca cf ct sf many) (hL : LtS Lt) (hP : PGo G so sd bs mo wi sh wd dy he hi sp) (hM : PMo G rd dy he sp mk) (hLP : LtP pL) (htl : 0 ≤ tl.toInt) (htl2 : tl.toInt ≤ 200) (hTB : TBy tb0 t) :
    Sf (f_X11_check G rd dy so sd tl he hi mk sp tb0 pL pv Lt vals p1 p2 p3) (fun y => (PGo G so sd bs mo wi sh wd y.2.2.1 y.2.2.2.2.1 y.2.2.2.2.2.1 y.2.2.2.2.2.2.2.1 ∧ PMo G y.2.1 y.2.2.1 y.2.2.2.2.1 y.2.2.2.2.2.2.2.1 y.2.2.2.2.2.2.1 ∧ LtP y.2.2.2.2.2.2.2.2.1) ∧ Sf (f_X12_check tl so sd a1 a2 a3 a4 a5 a6 a7 a8 a9 a10 a11 a12 a13 ph ps bs code ca cf ct fi gr hA rf la many rm0 mo sh sA sf t wd wi wo p1 p2 p3) (fun z => y.1 = z.1)) := by
  have l0 : (0 : Int32).toInt = 0 := by decide
  obtain ⟨r1, e1, h1⟩ := s_X12_isReader p1
  obtain ⟨r2, e2, h2⟩ := s_X12_isDay p2
  have h1 := h1.2
  have h2 := h2.2
  -- twelve bytes a mark
  have tt := tN tl htl
  have htn : tl = nI tl.toNatClampNeg := i32_eq (by rw [nI_toInt (by omega)]; omega)
  have ediv : tl / 12 = nI (tl.toNatClampNeg / 12) := by
    have := pk_div (a := tl.toNatClampNeg) (d := 12) (by omega) (by omega) (by omega)
    rw [← htn] at this
    exact this
  have tdiv : (tl / 12).toInt = ((tl.toNatClampNeg / 12 : Nat) : Int) := by rw [ediv, nI_toInt (by omega)]
  have hno : (r1 = 0 ∨ r2 = 0 ∨ p3.toInt < 0 ∨ (tl / 12).toInt < p3.toInt) → Sf (f_X12_check tl so sd a1 a2 a3 a4 a5 a6 a7 a8 a9 a10 a11 a12 a13 ph ps bs code ca cf ct fi gr hA rf la many rm0 mo sh sA sf t wd wi wo p1 p2 p3) (fun z => (-2 : Int32) = z.1) := by
    intro h
    rw [f_X12_check, e1, cb1_o]
    refine Sf_ite (fun _ => Sf_some rfl) (fun c1 => ?_)
    rw [e2, cb1_o]
    refine Sf_ite (fun _ => Sf_some rfl) (fun c2 => ?_)
    refine Sf_ite (fun _ => Sf_some rfl) (fun c3 => ?_)
    refine Sf_ite (fun c4 => ?_) (fun _ => Sf_some rfl)
    exfalso
    have c3 := nltI c3
    have c4 := leI c4
    rcases h with h | h | h | h
    · exact c1 h
    · exact c2 h
    · omega
    · omega
  rw [f_X11_check]
  refine Sf_cb1 (s_X11_isReader p1) (fun q1 g1 => ?_)
  have g1 := g1.2
  refine Sf_ite (fun g => Sf_some ⟨⟨hP, hM, hLP⟩, hno (Or.inl (i32_eq (by have := eqI g; omega)))⟩) (fun g => ?_)
  have g := neI g
  refine Sf_cb1 (s_X11_isDay p2) (fun q2 g2 => ?_)
  have g2 := g2.2
  refine Sf_ite (fun w => Sf_some ⟨⟨hP, hM, hLP⟩, hno (Or.inr (Or.inl (i32_eq (by have := eqI w; omega))))⟩) (fun w => ?_)
  have w := neI w
  refine Sf_cb1 (s_X11_isWithin p3 0 (tl / 12)) (fun q3 g3 => ?_)
  have g3 := g3.2
  refine Sf_ite (fun w => Sf_some ⟨⟨hP, hM, hLP⟩, hno (Or.inr (Or.inr (by have := eqI w; omega)))⟩) (fun w3 => ?_)
  have w3 := neI w3
  have hd : 0 ≤ p2.toInt ∧ p2.toInt ≤ 399 := by omega
  have n1 : ¬ r1 = 0 := fun v => by have := eqI v; omega
  have n2 : ¬ r2 = 0 := fun v => by have := eqI v; omega
  have tk := tN p1 (by omega)
  have hp1 : p1 = nI p1.toNatClampNeg := i32_eq (by rw [nI_toInt (by omega)]; omega)
  have hk : p1.toNatClampNeg < 4 := by omega
  have t3 := tN p3 (by omega)
  have hp3 : p3 = nI p3.toNatClampNeg := i32_eq (by rw [nI_toInt (by omega)]; omega)
  have hnn : (12 * p3.toNatClampNeg : Int) ≤ tl.toInt := by omega
  have n3 : ¬ p3 < 0 := fun v => by have := ltI v; omega
  have n4 : p3 ≤ tl / 12 := Int32.le_iff_toInt_le.mpr (by omega)
  generalize p1.toNatClampNeg = k at *
  generalize p3.toNatClampNeg = nn at *
  subst hp1
  subst hp3
  obtain ⟨n, HH, hn, hn10, hH, hlay⟩ := lay_all (rd := rd) (vals := vals) (d := p2) hk0 hk1 hsd hsrc hT hd hL hP hM
  refine Sf_cb7 hlay (fun b1 b2 b3 b4 b5 b6 b7 hb => ?_)
  obtain ⟨hb1, hb2, hb3, hb4, hb5⟩ := hb
  have hb1 : b2 = p2 := hb1
  subst hb1
  have hb3 : isPage HH sh n b3 b4 b5 := hb3
  have hb4 : PGo G so sd bs mo wi sh wd b2 b3 b4 b5 := hb4
  have hb5 : PMo G b1 b2 b3 b5 mk := hb5
  obtain ⟨D, hDc, hDr⟩ := D_ex b2 b3 b5 hT hk
  refine rd_step (by first | rfl | exact nI_clamp (by omega)) (f_X11_check_J61 tl tb0 (nI k) (nI nn) b2 b3 b4 b5 b6 b7) hk hd hDc hLP hb5 (fun rd' mk' pL' pv' m1 m2 m3 _ => ?_)
  have hbd := mCn_bd (mRw D) 1440
  have hbt : (mPr (mRw D) 1440).toNat ≤ 1 := by cases mPr (mRw D) 1440 <;> decide
  obtain ⟨f, hf⟩ : ∃ f, FU = f + 1440 + 1 := ⟨FU - 1441, by have := FU_ge; omega⟩
  obtain ⟨f', hf'⟩ : ∃ f', FU = f' + (mCn (mRw D) 1440 - mCn (mRw D) 0) + 1 := ⟨FU - mCn (mRw D) 1440 - 1, by have := FU_ge; show FU = FU - mCn (mRw D) 1440 - 1 + (mCn (mRw D) 1440 - 0) + 1; omega⟩
  -- what the class answers, and the reference at every state
  have hW : ∃ y : Int32, f_X4_firstWrong tl tb0 b3 mk' (nI k) (nI nn) = some y ∧ Sf (f_X12_check tl so sd a1 a2 a3 a4 a5 a6 a7 a8 a9 a10 a11 a12 a13 ph ps bs code ca cf ct fi gr hA rf la many rm0 mo sh sA sf t wd wi wo (nI k) b2 (nI nn)) (fun z => y = z.1) := by
    have hone : ∀ (o1 o2 o3 o4 o5 o6 o7 o8 o9 o10 o11 o12 o13 ph' ps' : Int32) (hA' sA' fi' gr' rf' la' mkR' wo' : Nat → Int32), isLs (mRw D) b3 (720 * 0) 1440 fi' la' gr' → mkR' 0 = nI (mCn (mRw D) 1440) → Sf (f_X4_firstWrong tl tb0 b3 mk' (nI k) (nI nn)) (fun y => Sf (ckL t nn ph' ps' hA' sA' o1 o2 o3 o4 o5 o6 o7 o8 o9 o10 o11 o12 o13 fi' gr' rf' la' mkR' wo' FU 0) (fun z : R25 => y = z.1)) := by
      intro o1 o2 o3 o4 o5 o6 o7 o8 o9 o10 o11 o12 o13 ph' ps' hA' sA' fi' gr' rf' la' mkR' wo' hl hm
      have h := cw_L (ph := ph') (ps := ps') (hA := hA') (sA := sA') (a1 := o1) (a2 := o2) (a3 := o3) (a4 := o4) (a5 := o5) (a6 := o6) (a7 := o7) (a8 := o8) (a9 := o9) (a10 := o10) (a11 := o11) (a12 := o12) (a13 := o13) (rf := rf') (wo := wo') hk m1 hTB hnn htl2 hl hm 1440 0 f f' (by omega) (Nat.zero_le _)
      have z1 : nI (3 * mCn (mRw D) 0) = 0 := nI_0
      have z2 : nI (mCn (mRw D) 0) = 0 := nI_0
      rw [z1, z2, nI_0, ← hf, ← hf'] at h
      rw [f_X4_firstWrong]
      exact h
    -- the class's answer exists
    obtain ⟨c16, c18, hcp⟩ : ∃ c16 c18 : Nat → Int32, isPr b3 b5 c16 c18 1440 := ⟨b3, b5, fun _ _ => ⟨rfl, rfl⟩⟩
    have hex := go_e (b := 0) (a1 := 0) (a2 := 0) (a3 := 0) (a4 := 0) (a5 := 0) (a6 := 0) (a7 := 0) (a8 := 0) (a9 := 0) (a10 := 0) (a11 := 0) (a12 := 0) (a13 := 0) (fi := fi) (gr := gr) (la := la) (mk := rm0) (rf := rf) (wo := wo) (by omega) hDr hcp
    obtain ⟨zz, -, v1, -⟩ := hex
    obtain ⟨y, ey, -⟩ := hone 0 0 0 0 0 0 0 0 0 0 0 0 0 0 0 hA sA _ _ rf _ (upd rm0 0 (nI (mCn (mRw D) 1440))) wo v1 (upd_s _ _ _)
    refine ⟨y, ey, ?_⟩
    rw [f_X12_check, e1, cb1_o, if_neg n1, e2, cb1_o, if_neg n2, if_neg n3, if_pos n4]
    refine Sf_cb19 (lays_e (hi := b4) (sp := b5) (a1 := a1) (a2 := a2) (a3 := a3) (a4 := a4) (a5 := a5) (a6 := a6) (a7 := a7) (a8 := a8) (a9 := a9) (a10 := a10) (a11 := a11) (a12 := a12) (a13 := a13) (ph := ph) (ps := ps) (hA := hA) (rf := rf) (sA := sA) (wo := wo) hn hn10 hH hb3) (fun c1 c2 c3 c4 c5 c6 c7 c8 c9 c10 c11 c12 c13 c14 c15 c16' c17 c18' c19 hc => ?_)
    have hc : isPr b3 b5 c16' c18' 1440 := hc
    have hgo := go_e (b := 0) (a1 := c1) (a2 := c2) (a3 := c3) (a4 := c4) (a5 := c5) (a6 := c6) (a7 := c7) (a8 := c8) (a9 := c9) (a10 := c10) (a11 := c11) (a12 := c12) (a13 := c13) (fi := fi) (gr := gr) (la := la) (mk := rm0) (rf := c17) (wo := c19) (by omega) hDr hc
    rw [nI_0] at hgo
    refine Sf_cb19 hgo (fun d1 d2 d3 d4 d5 d6 d7 d8 d9 d10 d11 d12 d13 d14 d15 d16 d17 d18 d19 hd' => ?_)
    obtain ⟨u1, -, -, -, u5⟩ := hd'
    have u1 : isLs (mRw D) b3 (720 * 0) 1440 d14 d17 d15 := u1
    have u5 : d18 = upd rm0 0 (nI (mCn (mRw D) 1440)) := u5
    have hfin := Sf_det ey (hone d1 d2 d3 d4 d5 d6 d7 d8 d9 d10 d11 d12 d13 c14 c15 c16' c18' d14 d15 d16 d17 d18 d19 u1 (by rw [u5, upd_s]))
    exact hfin
  obtain ⟨y, ey, hy⟩ := hW
  have hcl9 : f_X9_clear tl = some 0 := by rw [f_X9_clear]
  rw [f_X11_check_J61, ey, cb1_o, hcl9, cb1_o]
  exact Sf_some ⟨⟨hb4, m2, m3⟩, hy⟩
end CS
