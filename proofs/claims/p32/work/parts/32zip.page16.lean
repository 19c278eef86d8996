/-! passed, on both sides -/
abbrev R24 : Type := Int32 × Int32 × Int32 × Int32 × Int32 × Int32 × Int32 × Int32 × Int32 × Int32 × Int32 × Int32 × Int32 × Int32 × Int32 × Int32 × (Nat → Int32) × (Nat → Int32) × (Nat → Int32) × (Nat → Int32) × (Nat → Int32) × (Nat → Int32) × (Nat → Int32) × (Nat → Int32)
def isPs (M1 M2 : Nat → Bool) (s0 m : Nat) (x9 X7 X8 x7 x8 : Int32) : Prop := (s0 = 0 → 0 < aCn M1 M2 m → x7 = x9 ∧ ∃ f, isFa M1 M2 f ∧ x8 = nI f) ∧ (¬ (s0 = 0 ∧ 0 < aCn M1 M2 m) → x7 = X7 ∧ x8 = X8)
theorem isPs_eq {M1 M2 : Nat → Bool} {s0 m m' : Nat} {x9 X7 X8 x7 x8 : Int32} (h : isPs M1 M2 s0 m x9 X7 X8 x7 x8) (e : aCn M1 M2 m = aCn M1 M2 m') : isPs M1 M2 s0 m' x9 X7 X8 x7 x8 := by unfold isPs at *; rw [← e]; exact h
theorem isLs_keep {M : Nat → Bool} {he fi la gr fi' la' gr' : Nat → Int32} (h : isLs M he (720 * 0) 1440 fi la gr) (h1 : keepB (720 * 1) fi fi') (h2 : keepB (720 * 1) la la') (h3 : keepB (720 * 1) gr gr') : isLs M he (720 * 0) 1440 fi' la' gr' := by
  intro a ha hb
  have hbd := mCn_bd M 1440
  have hbt : (mPr M 1440).toNat ≤ 1 := by cases mPr M 1440 <;> decide
  have hlt := mCn_lt ha hb
  have hi : 720 * 0 + mCn M a < 720 * 1 := by omega
  rw [h1 _ hi, h2 _ hi, h3 _ hi]
  exact h a ha hb
section PJ
variable {he hA sA fi gr rf la mkR wo : Nat → Int32} {M1 M2 : Nat → Bool} {x9 X7 X8 ph ps a1 a2 a3 a4 a5 a6 a7 a8 a9 a10 a11 a12 a13 : Int32} {s0 : Nat} {P : R24 → Prop} {K : Int32 → Int32 → Int32 → Int32 → Int32 → Int32 → Int32 → Int32 → Int32 → Int32 → Int32 → Int32 → Int32 → Int32 → Int32 → Int32 → Int32 → Int32 → Int32 → (Nat → Int32) → (Nat → Int32) → (Nat → Int32) → (Nat → Int32) → (Nat → Int32) → (Nat → Int32) → (Nat → Int32) → (Nat → Int32) → Option R24}
set_option maxHeartbeats 4000000 in
theorem pj_L (L1 : isLs M1 he (720 * 0) 1440 fi la gr) (hm0 : mkR 0 = nI (mCn M1 1440)) (L2 : isLs M2 he (720 * 1) 1440 fi la gr) (hm1 : mkR 1 = nI (mCn M2 1440)) (hs : s0 ≤ 100000)
    (hK : ∀ x7 x8 : Int32, isPs M1 M2 s0 1440 x9 X7 X8 x7 x8 → Sf (K (nI (s0 + aCn M1 M2 1440)) x7 x8 (x9 + 1) a1 a2 a3 a4 a5 a6 a7 a8 a9 a10 a11 a12 a13 ph ps fi gr hA rf la mkR sA wo) P) :
    ∀ (r j m n : Nat) (x7 x8 : Int32), j + r = mCn M2 1440 → mCn M2 m = j → m ≤ 1440 → isPs M1 M2 s0 m x9 X7 X8 x7 x8 → Sf (f_X12_passed_L104 x9 ph ps hA sA a1 a2 a3 a4 a5 a6 a7 a8 a9 a10 a11 a12 a13 fi gr rf la mkR wo K (n + r + 1) (nI (s0 + aCn M1 M2 m)) x7 x8 (nI j)) P := by
  have hbd := mCn_bd M2 1440
  have hbt : (mPr M2 1440).toNat ≤ 1 := by cases mPr M2 1440 <;> decide
  have h1 : (1 : Int32).toNatClampNeg = 1 := by decide
  intro r
  induction r with
  | zero =>
    intro j m n x7 x8 hj hm hm2 hst
    have ej : j = mCn M2 1440 := by omega
    have ea : aCn M1 M2 m = aCn M1 M2 1440 := aCn_eq (by omega)
    rw [Nat.add_zero, f_X12_passed_L104, rdI_o (by decide), h1, hm1, if_pos (nI_le (by omega) (by omega)), nmI_o, ea]
    exact hK x7 x8 (isPs_eq hst ea)
  | succ r ih =>
    intro j m n x7 x8 hj hm hm2 hst
    obtain ⟨a, b1, b2, b3⟩ := mNth (M := M2) (j := j) 1440 (by omega)
    have ea : aCn M1 M2 m = aCn M1 M2 a := aCn_eq (by omega)
    have hal := alo_e (M1 := M1) L1 hm0 L2 b1 b2
    rw [b3] at hal
    have hst := isPs_eq hst ea
    have hc1 : mCn M2 (a + 1) = j + 1 := by rw [mCn_s, b2, b3]; rfl
    have hle := aCn_le M1 M2 a
    have hs1 := aCn_s M1 M2 a
    rw [show n + (r + 1) + 1 = (n + r + 1) + 1 by omega, f_X12_passed_L104, rdI_o (by decide), h1, hm1, if_neg (nI_ge (by omega) (by omega)), hal, cb1_o, ea]
    cases hb : mAl M1 M2 a with
    | false =>
      rw [hb] at hs1
      have hs1 : aCn M1 M2 (a + 1) = aCn M1 M2 a := hs1
      rw [if_pos (mI_0.mpr rfl), nmI_o, nI_1, ← hs1]
      exact ih (j + 1) (a + 1) n x7 x8 (by omega) hc1 (by omega) (isPs_eq hst hs1.symm)
    | true =>
      rw [hb] at hs1
      have hs1 : aCn M1 M2 (a + 1) = aCn M1 M2 a + 1 := hs1
      rw [if_neg (by decide)]
      by_cases c : s0 + aCn M1 M2 a = 0
      · have e7 : (720 : Int32) + nI j = nI (720 + j) := by rw [show (720 : Int32) = nI 720 from rfl, nI_add]
        obtain ⟨f1, -⟩ := L2 a b1 b2
        rw [Nat.mul_one, b3] at f1
        rw [if_pos (show nI (s0 + aCn M1 M2 a) = 0 by rw [c]; exact nI_0), e7, rdI_o (jin_n (by omega) (by omega)), nI_clamp (by omega), f1, nmI_o, nmI_o, nI_1, nI_1, show s0 + aCn M1 M2 a + 1 = s0 + aCn M1 M2 (a + 1) by omega]
        refine ih (j + 1) (a + 1) n x9 (nI a) (by omega) hc1 (by omega) ⟨fun _ _ => ⟨rfl, a, ⟨b1, hb, aCn_0 (by omega)⟩, rfl⟩, fun w => absurd ⟨by omega, by omega⟩ w⟩
      · rw [if_neg (nI_ne0 (by omega) (by omega)), nmI_o, nmI_o, nI_1, nI_1, show s0 + aCn M1 M2 a + 1 = s0 + aCn M1 M2 (a + 1) by omega]
        refine ih (j + 1) (a + 1) n x7 x8 (by omega) hc1 (by omega) ⟨fun w _ => hst.1 w (by omega), fun w => hst.2 (fun v => w ⟨v.1, by omega⟩)⟩
end PJ
theorem fa_ex {M1 M2 : Nat → Bool} : ∀ {m : Nat}, m ≤ 1440 → 0 < aCn M1 M2 m → ∃ f, isFa M1 M2 f := by
  intro m
  induction m with
  | zero => intro _ h; exact absurd h (Nat.lt_irrefl 0)
  | succ m ih =>
    intro hm h
    by_cases c : 0 < aCn M1 M2 m
    · exact ih (by omega) c
    · rw [aCn_s] at h
      cases hb : mAl M1 M2 m with
      | false => rw [hb, show false.toNat = 0 from rfl] at h; omega
      | true => exact ⟨m, by omega, hb, aCn_0 (by omega)⟩
section PD
variable {G : kG} {so sd p4 : Int32} {bs mo wi sh wd code ca cf ct sf many : Nat → Int32} {k1 k3 : Nat}
noncomputable abbrev psL (so sd p4 : Int32) (bs code ca cf ct many mo sh sf wd wi : Nat → Int32) (k1 k3 : Nat) (p5 : Int32) := f_X12_passed_L72 so sd bs code ca cf ct many mo sh sf wd wi (nI k1) (nI k3) p4 (f_X12_passed_J164 p5)
set_option maxHeartbeats 4000000 in
theorem rday {d p5 X7 X8 ph ps a1 a2 a3 a4 a5 a6 a7 a8 a9 a10 a11 a12 a13 : Int32} {fi gr hA rf la mkR sA wo he hi sp : Nat → Int32} {n q s0 : Nat} {HH : Nat → Nat → Int32} {D1 D2 : Nat → Nat → Bool} {P : R24 → Prop} (hn : nI n = so) (hn10 : n ≤ 10) (hH : HHs G sd bs mo wi wd code ca cf ct sf many n d HH) (hpg : isPage HH sh n he hi sp) (h1 : isDr code ca cf ct many k1 d he sp D1) (h2 : isDr code ca cf ct many k3 d he sp D2) (hd : ¬ p4 < d) (hs : s0 ≤ 100000)
    (hK : ∀ (x7 x8 o1 o2 o3 o4 o5 o6 o7 o8 o9 o10 o11 o12 o13 ph' ps' : Int32) (fi' gr' hA' rf' la' mkR' sA' wo' : Nat → Int32), isPs (mRw D1) (mRw D2) s0 1440 d X7 X8 x7 x8 → Sf (psL so sd p4 bs code ca cf ct many mo sh sf wd wi k1 k3 p5 q (nI (s0 + aCn (mRw D1) (mRw D2) 1440)) x7 x8 (d + 1) o1 o2 o3 o4 o5 o6 o7 o8 o9 o10 o11 o12 o13 ph' ps' fi' gr' hA' rf' la' mkR' sA' wo') P) :
    Sf (psL so sd p4 bs code ca cf ct many mo sh sf wd wi k1 k3 p5 (q + 1) (nI s0) X7 X8 d a1 a2 a3 a4 a5 a6 a7 a8 a9 a10 a11 a12 a13 ph ps fi gr hA rf la mkR sA wo) P := by
  unfold psL
  rw [f_X12_passed_L72, if_neg hd]
  refine Sf_cb19 (lays_e (hi := hi) (sp := sp) (a1 := a1) (a2 := a2) (a3 := a3) (a4 := a4) (a5 := a5) (a6 := a6) (a7 := a7) (a8 := a8) (a9 := a9) (a10 := a10) (a11 := a11) (a12 := a12) (a13 := a13) (ph := ph) (ps := ps) (hA := hA) (rf := rf) (sA := sA) (wo := wo) hn hn10 hH hpg) (fun c1 c2 c3 c4 c5 c6 c7 c8 c9 c10 c11 c12 c13 c14 c15 c16 c17 c18 c19 hc => ?_)
  have hc : isPr he sp c16 c18 1440 := hc
  have g1 := go_e (b := 0) (a1 := c1) (a2 := c2) (a3 := c3) (a4 := c4) (a5 := c5) (a6 := c6) (a7 := c7) (a8 := c8) (a9 := c9) (a10 := c10) (a11 := c11) (a12 := c12) (a13 := c13) (fi := fi) (gr := gr) (la := la) (mk := mkR) (rf := c17) (wo := c19) (by omega) h1 hc
  rw [nI_0] at g1
  refine Sf_cb19 g1 (fun d1 d2 d3 d4 d5 d6 d7 d8 d9 d10 d11 d12 d13 d14 d15 d16 d17 d18 d19 v => ?_)
  obtain ⟨v1, -, -, -, v5⟩ := v
  have v1 : isLs (mRw D1) he (720 * 0) 1440 d14 d17 d15 := v1
  have v5 : d18 = upd mkR 0 (nI (mCn (mRw D1) 1440)) := v5
  have g2 := go_e (b := 1) (a1 := d1) (a2 := d2) (a3 := d3) (a4 := d4) (a5 := d5) (a6 := d6) (a7 := d7) (a8 := d8) (a9 := d9) (a10 := d10) (a11 := d11) (a12 := d12) (a13 := d13) (fi := d14) (gr := d15) (la := d17) (mk := d18) (rf := d16) (wo := d19) (by omega) h2 hc
  rw [show nI 1 = (1 : Int32) from rfl] at g2
  refine Sf_cb19 g2 (fun e1 e2 e3 e4 e5 e6 e7 e8 e9 e10 e11 e12 e13 e14 e15 e16 e17 e18 e19 u => ?_)
  obtain ⟨u1, u2, u3, u4, u5⟩ := u
  have u1 : isLs (mRw D2) he (720 * 1) 1440 e14 e17 e15 := u1
  have u2 : keepB (720 * 1) d14 e14 := u2
  have u3 : keepB (720 * 1) d17 e17 := u3
  have u4 : keepB (720 * 1) d15 e15 := u4
  have u5 : e18 = upd d18 1 (nI (mCn (mRw D2) 1440)) := u5
  have z0 : e18 0 = nI (mCn (mRw D1) 1440) := by rw [u5, upd_n (by omega), v5, upd_s]
  have z1 : e18 1 = nI (mCn (mRw D2) 1440) := by rw [u5, upd_s]
  have hbd := mCn_bd (mRw D2) 1440
  have hbt : (mPr (mRw D2) 1440).toNat ≤ 1 := by cases mPr (mRw D2) 1440 <;> decide
  obtain ⟨f, hf⟩ : ∃ f, FU = f + mCn (mRw D2) 1440 + 1 := ⟨FU - mCn (mRw D2) 1440 - 1, by have := FU_ge; omega⟩
  have h := pj_L (X7 := X7) (X8 := X8) (P := P) (K := f_X12_passed_L72 so sd bs code ca cf ct many mo sh sf wd wi (nI k1) (nI k3) p4 (f_X12_passed_J164 p5) q) (isLs_keep v1 u2 u3 u4) z0 u1 z1 hs (fun x7 x8 hx => hK x7 x8 e1 e2 e3 e4 e5 e6 e7 e8 e9 e10 e11 e12 e13 c14 c15 e14 e15 c16 e16 e17 e18 c18 e19 hx) (mCn (mRw D2) 1440) 0 0 f X7 X8 (by omega) rfl (by omega) ⟨fun _ w => absurd w (Nat.lt_irrefl 0), fun _ => ⟨rfl, rfl⟩⟩
  rw [nI_0, ← hf] at h
  exact h
set_option maxHeartbeats 4000000 in
theorem rtail {p5 : Int32} (hk0 : 0 ≤ so.toInt) (hk1 : so.toInt ≤ 10) (hsd : 0 ≤ sd.toInt ∧ sd.toInt ≤ 999) (hsrc : SRC G so bs mo wi sh wd) (hT : TX G code ca cf ct sf many) (hx1 : k1 < 4) (hx2 : k3 < 4) (h4 : p4.toInt ≤ 399) :
    ∀ (r q s0 : Nat) (d X7 X8 ph ps a1 a2 a3 a4 a5 a6 a7 a8 a9 a10 a11 a12 a13 : Int32) (fi gr hA rf la mkR sA wo : Nat → Int32), 0 ≤ d.toInt → d.toInt + r = p4.toInt + 1 → 0 < s0 → s0 + 720 * r ≤ 100000 → ¬ p5 = 0 → Sf (psL so sd p4 bs code ca cf ct many mo sh sf wd wi k1 k3 p5 (q + r + 1) (nI s0) X7 X8 d a1 a2 a3 a4 a5 a6 a7 a8 a9 a10 a11 a12 a13 ph ps fi gr hA rf la mkR sA wo) (fun z => (p5 = 1 → X7 = z.1) ∧ (¬ p5 = 1 → X8 = z.1)) := by
  have l1 : (1 : Int32).toInt = 1 := by decide
  intro r
  induction r with
  | zero =>
    intro q s0 d X7 X8 ph ps a1 a2 a3 a4 a5 a6 a7 a8 a9 a10 a11 a12 a13 fi gr hA rf la mkR sA wo hd0 hd hs0 hs hp5
    unfold psL
    rw [Nat.add_zero, f_X12_passed_L72, if_pos (Int32.lt_iff_toInt_lt.mpr (by omega)), f_X12_passed_J164, if_neg hp5]
    refine Sf_ite (fun c => Sf_some ⟨fun _ => rfl, fun w => absurd c w⟩) (fun c => Sf_some ⟨fun w => absurd w c, fun _ => rfl⟩)
  | succ r ih =>
    intro q s0 d X7 X8 ph ps a1 a2 a3 a4 a5 a6 a7 a8 a9 a10 a11 a12 a13 fi gr hA rf la mkR sA wo hd0 hd hs0 hs hp5
    have ht := tN so hk0
    have hn : nI so.toNatClampNeg = so := i32_eq (by rw [nI_toInt (by omega)]; omega)
    obtain ⟨HH, hH⟩ := HH_ex (n := so.toNatClampNeg) (d := d) hk1 hsd hsrc hT (by omega) (by omega)
    obtain ⟨he, hi, sp, hpg⟩ : ∃ he hi sp : Nat → Int32, isPage HH sh so.toNatClampNeg he hi sp := ⟨fun m => (pSum (fun s => HH s m) sh so.toNatClampNeg).1, fun m => (pSum (fun s => HH s m) sh so.toNatClampNeg).2.1, fun m => (pSum (fun s => HH s m) sh so.toNatClampNeg).2.2, fun m _ => rfl⟩
    obtain ⟨D1, -, h1⟩ := D_ex d he sp hT hx1
    obtain ⟨D2, -, h2⟩ := D_ex d he sp hT hx2
    have hle := aCn_le (mRw D1) (mRw D2) 1440
    have hbd := mCn_bd (mRw D2) 1440
    have hbt : (mPr (mRw D2) 1440).toNat ≤ 1 := by cases mPr (mRw D2) 1440 <;> decide
    have s1 := adX d 1 (by omega) (by omega)
    rw [show q + (r + 1) + 1 = (q + r + 1) + 1 by omega]
    refine rday hn (by omega) hH hpg h1 h2 (fun w => by have := ltI w; omega) (by omega) (fun x7 x8 o1 o2 o3 o4 o5 o6 o7 o8 o9 o10 o11 o12 o13 ph' ps' fi' gr' hA' rf' la' mkR' sA' wo' hx => ?_)
    obtain ⟨e7, e8⟩ := hx.2 (fun w => by omega)
    subst e7
    subst e8
    exact ih q _ (d + 1) x7 x8 ph' ps' o1 o2 o3 o4 o5 o6 o7 o8 o9 o10 o11 o12 o13 fi' gr' hA' rf' la' mkR' sA' wo' (by omega) (by omega) (by omega) (by omega) hp5
set_option maxHeartbeats 4000000 in
theorem pass_L {p5 : Int32} (hk0 : 0 ≤ so.toInt) (hk1 : so.toInt ≤ 10) (hsd : 0 ≤ sd.toInt ∧ sd.toInt ≤ 999) (hsrc : SRC G so bs mo wi sh wd) (hT : TX G code ca cf ct sf many) (hx1 : k1 < 4) (hx2 : k3 < 4) (h4 : p4.toInt ≤ 399) (hp5 : 0 ≤ p5.toInt) :
    ∀ (r q q' s0 : Nat) (d X7 X8 dy rd : Int32) (he hi mk pL pv sp Lt vals : Nat → Int32), 0 ≤ d.toInt → d.toInt + r = p4.toInt + 1 → s0 + 720 * r ≤ 100000 → (¬ p5 = 0 → s0 = 0 ∧ X7 = -1 ∧ X8 = -1) → LtS Lt → LtP pL → PGo G so sd bs mo wi sh wd dy he hi sp → PMo G rd dy he sp mk →
    Sf (f_X11_passed_L74 so sd (nI k1) (nI k3) p4 p5 G (f_X11_passed_J143 (nI k1) (nI k3) p5) (f_X11_passed_J177 p5) (q + r + 1) (nI s0) d dy rd he hi mk pL pv sp Lt vals) (fun y => (PGo G so sd bs mo wi sh wd y.2.2.1 y.2.2.2.1 y.2.2.2.2.1 y.2.2.2.2.2.2.1 ∧ PMo G y.2.1 y.2.2.1 y.2.2.2.1 y.2.2.2.2.2.2.1 y.2.2.2.2.2.1 ∧ LtP y.2.2.2.2.2.2.2.1) ∧ ∀ (a1 a2 a3 a4 a5 a6 a7 a8 a9 a10 a11 a12 a13 ph ps : Int32) (fi gr hA rf la mkR sA wo : Nat → Int32), Sf (psL so sd p4 bs code ca cf ct many mo sh sf wd wi k1 k3 p5 (q' + r + 1) (nI s0) X7 X8 d a1 a2 a3 a4 a5 a6 a7 a8 a9 a10 a11 a12 a13 ph ps fi gr hA rf la mkR sA wo) (fun z => y.1 = z.1)) := by
  have l0 : (0 : Int32).toInt = 0 := by decide
  have l1 : (1 : Int32).toInt = 1 := by decide
  intro r
  induction r with
  | zero =>
    intro q q' s0 d X7 X8 dy rd he hi mk pL pv sp Lt vals hd0 hd hs hX hL hLP hP hM
    have hlt : p4 < d := Int32.lt_iff_toInt_lt.mpr (by omega)
    rw [Nat.add_zero, f_X11_passed_L74, if_pos hlt, f_X11_passed_J177]
    have hR : ∀ (a1 a2 a3 a4 a5 a6 a7 a8 a9 a10 a11 a12 a13 ph ps : Int32) (fi gr hA rf la mkR sA wo : Nat → Int32), psL so sd p4 bs code ca cf ct many mo sh sf wd wi k1 k3 p5 (q' + 0 + 1) (nI s0) X7 X8 d a1 a2 a3 a4 a5 a6 a7 a8 a9 a10 a11 a12 a13 ph ps fi gr hA rf la mkR sA wo = f_X12_passed_J164 p5 (nI s0) X7 X8 a1 a2 a3 a4 a5 a6 a7 a8 a9 a10 a11 a12 a13 ph ps fi gr hA rf la mkR sA wo := by
      intro a1 a2 a3 a4 a5 a6 a7 a8 a9 a10 a11 a12 a13 ph ps fi gr hA rf la mkR sA wo
      unfold psL
      rw [Nat.add_zero, f_X12_passed_L72, if_pos hlt]
    refine Sf_ite (fun c => ?_) (fun c => ?_)
    · refine Sf_some ⟨⟨hP, hM, hLP⟩, fun a1 a2 a3 a4 a5 a6 a7 a8 a9 a10 a11 a12 a13 ph ps fi gr hA rf la mkR sA wo => ?_⟩
      rw [hR, f_X12_passed_J164, if_pos c]
      exact Sf_some rfl
    · refine Sf_some ⟨⟨hP, hM, hLP⟩, fun a1 a2 a3 a4 a5 a6 a7 a8 a9 a10 a11 a12 a13 ph ps fi gr hA rf la mkR sA wo => ?_⟩
      obtain ⟨-, x7, x8⟩ := hX c
      rw [hR, f_X12_passed_J164, if_neg c]
      exact Sf_ite (fun _ => Sf_some x7.symm) (fun _ => Sf_some x8.symm)
  | succ r ih =>
    intro q q' s0 d X7 X8 dy rd he hi mk pL pv sp Lt vals hd0 hd hs hX hL hLP hP hM
    have hdr : 0 ≤ d.toInt ∧ d.toInt ≤ 399 := by omega
    have hnlt : ¬ p4 < d := fun w => by have := ltI w; omega
    have s1 := adX d 1 (by omega) (by omega)
    rw [show q + (r + 1) + 1 = (q + r + 1) + 1 by omega, f_X11_passed_L74, if_neg hnlt]
    obtain ⟨n, HH, hn, hn10, hH, hlay⟩ := lay_all (rd := rd) (vals := vals) (d := d) hk0 hk1 hsd hsrc hT hdr hL hP hM
    refine Sf_cb7 hlay (fun b1 b2 b3 b4 b5 b6 b7 hb => ?_)
    obtain ⟨hb1, hb2, hb3, hb4, hb5⟩ := hb
    have hb1 : b2 = d := hb1
    subst hb1
    have hb2 : LtS b6 := hb2
    have hb3 : isPage HH sh n b3 b4 b5 := hb3
    have hb4 : PGo G so sd bs mo wi sh wd b2 b3 b4 b5 := hb4
    have hb5 : PMo G b1 b2 b3 b5 mk := hb5
    obtain ⟨D1, hDc1, hDr1⟩ := D_ex b2 b3 b5 hT hx1
    obtain ⟨D2, hDc2, hDr2⟩ := D_ex b2 b3 b5 hT hx2
    have hle := aCn_le (mRw D1) (mRw D2) 1440
    have hbd := mCn_bd (mRw D2) 1440
    have hbt : (mPr (mRw D2) 1440).toNat ≤ 1 := by cases mPr (mRw D2) 1440 <;> decide
    refine rd_step (by first | rfl | exact nI_clamp (by omega)) (f_X11_passed_J108 (nI k1) (nI k3) p5 G (nI s0) b2 b2 b3 b4 b5 b6 b7 (f_X11_passed_L74 so sd (nI k1) (nI k3) p4 p5 G (f_X11_passed_J143 (nI k1) (nI k3) p5) (f_X11_passed_J177 p5) (q + r + 1)) (f_X11_passed_J143 (nI k1) (nI k3) p5)) hx1 hdr hDc1 hLP hb5 (fun rd1 mk1 pL1 pv1 m1 m2 m3 _ => ?_)
    rw [f_X11_passed_J108]
    refine rd_step (by first | rfl | exact nI_clamp (by omega)) (f_X11_passed_J122 (nI k1) (nI k3) p5 (nI s0) b2 b2 b3 b4 b5 b6 b7 (f_X11_passed_L74 so sd (nI k1) (nI k3) p4 p5 G (f_X11_passed_J143 (nI k1) (nI k3) p5) (f_X11_passed_J177 p5) (q + r + 1)) (f_X11_passed_J143 (nI k1) (nI k3) p5)) hx2 hdr hDc2 m3 m2 (fun rd2 mk2 pL2 pv2 w1 w2 w3 w4 => ?_)
    -- the first reader's marks stand still
    have mm1 : mBt mk2 k1 (mRw D1) := by
      by_cases c : k1 = k3
      · subst c
        exact mBt_uni hDc2 hDc1 w1
      · intro m hm
        rw [w4 k1 hx1 c m hm]
        exact m1 m hm
    rw [f_X11_passed_J122, pms_e hx1 hx2 mm1 w1, cb1_o]
    -- the reference's day
    have hgo : ∀ (P : R24 → Prop), (∀ (x7 x8 o1 o2 o3 o4 o5 o6 o7 o8 o9 o10 o11 o12 o13 ph' ps' : Int32) (fi' gr' hA' rf' la' mkR' sA' wo' : Nat → Int32), isPs (mRw D1) (mRw D2) s0 1440 b2 X7 X8 x7 x8 → Sf (psL so sd p4 bs code ca cf ct many mo sh sf wd wi k1 k3 p5 (q' + r + 1) (nI (s0 + aCn (mRw D1) (mRw D2) 1440)) x7 x8 (b2 + 1) o1 o2 o3 o4 o5 o6 o7 o8 o9 o10 o11 o12 o13 ph' ps' fi' gr' hA' rf' la' mkR' sA' wo') P) → ∀ (a1 a2 a3 a4 a5 a6 a7 a8 a9 a10 a11 a12 a13 ph ps : Int32) (fi gr hA rf la mkR sA wo : Nat → Int32), Sf (psL so sd p4 bs code ca cf ct many mo sh sf wd wi k1 k3 p5 (q' + (r + 1) + 1) (nI s0) X7 X8 b2 a1 a2 a3 a4 a5 a6 a7 a8 a9 a10 a11 a12 a13 ph ps fi gr hA rf la mkR sA wo) P := by
      intro P h a1 a2 a3 a4 a5 a6 a7 a8 a9 a10 a11 a12 a13 ph ps fi gr hA rf la mkR sA wo
      rw [show q' + (r + 1) + 1 = (q' + r + 1) + 1 by omega]
      exact rday hn hn10 hH hb3 hDr1 hDr2 hnlt (by omega) h
    have hgoon : (¬ p5 = 0 → aCn (mRw D1) (mRw D2) 1440 = 0) → Sf (f_X11_passed_J164 (nI s0) b2 b2 b3 b4 b5 b6 b7 rd2 mk2 pL2 pv2 (nI (aCn (mRw D1) (mRw D2) 1440)) (f_X11_passed_L74 so sd (nI k1) (nI k3) p4 p5 G (f_X11_passed_J143 (nI k1) (nI k3) p5) (f_X11_passed_J177 p5) (q + r + 1))) (fun y => (PGo G so sd bs mo wi sh wd y.2.2.1 y.2.2.2.1 y.2.2.2.2.1 y.2.2.2.2.2.2.1 ∧ PMo G y.2.1 y.2.2.1 y.2.2.2.1 y.2.2.2.2.2.2.1 y.2.2.2.2.2.1 ∧ LtP y.2.2.2.2.2.2.2.1) ∧ ∀ (a1 a2 a3 a4 a5 a6 a7 a8 a9 a10 a11 a12 a13 ph ps : Int32) (fi gr hA rf la mkR sA wo : Nat → Int32), Sf (psL so sd p4 bs code ca cf ct many mo sh sf wd wi k1 k3 p5 (q' + (r + 1) + 1) (nI s0) X7 X8 b2 a1 a2 a3 a4 a5 a6 a7 a8 a9 a10 a11 a12 a13 ph ps fi gr hA rf la mkR sA wo) (fun z => y.1 = z.1)) := by
      intro h0
      rw [f_X11_passed_J164, nmI_o, nmI_o, nI_add]
      by_cases c5 : p5 = 0
      · -- any state of the reference's two others goes on
        have key := fun X7' X8' : Int32 => ih q q' (s0 + aCn (mRw D1) (mRw D2) 1440) (b2 + 1) X7' X8' b2 rd2 b3 b4 mk2 pL2 pv2 b5 b6 b7 (by omega) (by omega) (by omega) (fun w => absurd c5 w) hb2 w3 hb4 w2
        obtain ⟨y, ey, hy1, -⟩ := key X7 X8
        refine ⟨y, ey, hy1, fun a1 a2 a3 a4 a5 a6 a7 a8 a9 a10 a11 a12 a13 ph ps fi gr hA rf la mkR sA wo => hgo _ (fun x7 x8 o1 o2 o3 o4 o5 o6 o7 o8 o9 o10 o11 o12 o13 ph' ps' fi' gr' hA' rf' la' mkR' sA' wo' _ => ?_) a1 a2 a3 a4 a5 a6 a7 a8 a9 a10 a11 a12 a13 ph ps fi gr hA rf la mkR sA wo⟩
        exact (Sf_det ey (key x7 x8)).2 o1 o2 o3 o4 o5 o6 o7 o8 o9 o10 o11 o12 o13 ph' ps' fi' gr' hA' rf' la' mkR' sA' wo'
      · have ha := h0 c5
        obtain ⟨z0, z7, z8⟩ := hX c5
        refine Sf_mono (ih q q' (s0 + aCn (mRw D1) (mRw D2) 1440) (b2 + 1) X7 X8 b2 rd2 b3 b4 mk2 pL2 pv2 b5 b6 b7 (by omega) (by omega) (by omega) (fun _ => ⟨by omega, z7, z8⟩) hb2 w3 hb4 w2) (fun y hy => ⟨hy.1, fun a1 a2 a3 a4 a5 a6 a7 a8 a9 a10 a11 a12 a13 ph ps fi gr hA rf la mkR sA wo => hgo _ (fun x7 x8 o1 o2 o3 o4 o5 o6 o7 o8 o9 o10 o11 o12 o13 ph' ps' fi' gr' hA' rf' la' mkR' sA' wo' hx => ?_) a1 a2 a3 a4 a5 a6 a7 a8 a9 a10 a11 a12 a13 ph ps fi gr hA rf la mkR sA wo⟩)
        obtain ⟨e7, e8⟩ := hx.2 (fun w => by omega)
        subst e7
        subst e8
        exact hy.2 o1 o2 o3 o4 o5 o6 o7 o8 o9 o10 o11 o12 o13 ph' ps' fi' gr' hA' rf' la' mkR' sA' wo'
    refine Sf_ite (fun c => ?_) (fun c => ?_)
    · have c := leI c
      rw [nI_toInt (by omega)] at c
      exact hgoon (fun _ => by omega)
    · have c := nleI c
      rw [nI_toInt (by omega)] at c
      refine Sf_ite (fun c5 => ?_) (fun c5 => ?_)
      · have c5 := leI c5
        exact hgoon (fun w => absurd (i32_eq (by omega)) w)
      · have c5 := nleI c5
        have n5 : ¬ p5 = 0 := fun w => by have := eqI w; omega
        obtain ⟨z0, z7, z8⟩ := hX n5
        have hfin : ∀ (y1 : Int32), (p5 = 1 → y1 = b2) → (¬ p5 = 1 → ∀ f, isFa (mRw D1) (mRw D2) f → y1 = nI f) → ∀ (a1 a2 a3 a4 a5 a6 a7 a8 a9 a10 a11 a12 a13 ph ps : Int32) (fi gr hA rf la mkR sA wo : Nat → Int32), Sf (psL so sd p4 bs code ca cf ct many mo sh sf wd wi k1 k3 p5 (q' + (r + 1) + 1) (nI s0) X7 X8 b2 a1 a2 a3 a4 a5 a6 a7 a8 a9 a10 a11 a12 a13 ph ps fi gr hA rf la mkR sA wo) (fun z => y1 = z.1) := by
          intro y1 hy1 hy2
          refine hgo _ (fun x7 x8 o1 o2 o3 o4 o5 o6 o7 o8 o9 o10 o11 o12 o13 ph' ps' fi' gr' hA' rf' la' mkR' sA' wo' hx => ?_)
          obtain ⟨e7, f, e8, e9⟩ := hx.1 z0 (by omega)
          refine Sf_mono (rtail hk0 hk1 hsd hsrc hT hx1 hx2 h4 r q' (s0 + aCn (mRw D1) (mRw D2) 1440) (b2 + 1) x7 x8 ph' ps' o1 o2 o3 o4 o5 o6 o7 o8 o9 o10 o11 o12 o13 fi' gr' hA' rf' la' mkR' sA' wo' (by omega) (by omega) (by omega) (by omega) n5) (fun z hz => ?_)
          by_cases d5 : p5 = 1
          · rw [hy1 d5, ← e7]; exact hz.1 d5
          · rw [hy2 d5 f e8, ← e9]; exact hz.2 d5
        rw [f_X11_passed_J143]
        refine Sf_ite (fun d5 => ?_) (fun d5 => ?_)
        · exact Sf_some ⟨⟨hb4, w2, w3⟩, hfin b2 (fun _ => rfl) (fun w => absurd d5 w)⟩
        · obtain ⟨f, hf⟩ : ∃ f, isFa (mRw D1) (mRw D2) f := by
            have hpos : 0 < aCn (mRw D1) (mRw D2) 1440 := by omega
            exact fa_ex (Nat.le_refl 1440) hpos
          rw [fps_e hx1 hx2 mm1 w1 hf, cb1_o]
          exact Sf_some ⟨⟨hb4, w2, w3⟩, hfin (nI f) (fun w => absurd w d5) (fun _ f' hf' => by rw [isFa_uni hf hf'])⟩
end PD
