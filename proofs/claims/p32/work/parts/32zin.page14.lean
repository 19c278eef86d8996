/-! marks, on both sides -/
section MS
variable {mk he : Nat → Int32} {k : Nat} {M : Nat → Bool}
theorem mOf_L (hk : k < 4) (hM : mBt mk k M) : ∀ (r m n : Nat), m + r = 1440 → f_X4_marksOf_L4 mk (nI k) (n + r + 1) (nI (mCn M m)) (nI m) = some (nI (mCn M 1440)) := by
  intro r
  induction r with
  | zero =>
    intro m n hm
    have hm : m = 1440 := by omega
    subst hm
    rw [Nat.add_zero, f_X4_marksOf_L4, if_pos (by decide +kernel)]
  | succ r ih =>
    intro m n hm
    rw [show n + (r + 1) + 1 = (n + r + 1) + 1 by omega, f_X4_marksOf_L4, if_neg (show ¬ (1440 : Int32) ≤ nI m from nI_ge (a := m) (b := 1440) (by omega) (by decide)), ibg_e hk (by omega) hM, cb1_o]
    have hs := mCn_s M m
    cases hb : mBg M m with
    | false =>
      rw [hb] at hs
      have hs : mCn M (m + 1) = mCn M m := hs
      rw [if_pos (mI_0.mpr rfl), nmI_o, nmI_o, nI_1, show (0 : Int32) = nI 0 from nI_0.symm, nI_add, Nat.add_zero, ← hs]
      exact ih (m + 1) n (by omega)
    | true =>
      rw [hb] at hs
      have hs : mCn M (m + 1) = mCn M m + 1 := hs
      rw [if_neg (by decide), nmI_o, nmI_o, nI_1, nI_1, ← hs]
      exact ih (m + 1) n (by omega)
theorem mOf_e (hk : k < 4) (hM : mBt mk k M) : f_X4_marksOf mk (nI k) = some (nI (mCn M 1440)) := by
  obtain ⟨n, hn⟩ : ∃ n, FU = n + 1440 + 1 := ⟨FU - 1441, by have := FU_ge; omega⟩
  have h := mOf_L hk hM 1440 0 n (by omega)
  have z1 : nI (mCn M 0) = 0 := nI_0
  rw [z1, nI_0, ← hn] at h
  rw [f_X4_marksOf]
  exact h
theorem mNo_L {K : Int32 → Option Int32} {B : Nat} (hB : B < 2147483648) (hk : k < 4) (hM : mBt mk k M) : ∀ (r m n b : Nat), m + r = 1440 → b + mCn M m = B → (∃ a, a < 1440 ∧ mBg M a = true ∧ mCn M a = B ∧ f_X4_markNumber_L7 mk (nI k) K (n + r + 1) (nI b) (nI m) = K (nI a)) ∨ (mCn M 1440 ≤ B ∧ f_X4_markNumber_L7 mk (nI k) K (n + r + 1) (nI b) (nI m) = some (-1)) := by
  intro r
  induction r with
  | zero =>
    intro m n b hm hb
    have hm : m = 1440 := by omega
    subst hm
    refine Or.inr ⟨by omega, ?_⟩
    rw [Nat.add_zero, f_X4_markNumber_L7, if_pos (by decide +kernel)]
  | succ r ih =>
    intro m n b hm hb
    have hs := mCn_s M m
    rw [show n + (r + 1) + 1 = (n + r + 1) + 1 by omega, f_X4_markNumber_L7, if_neg (show ¬ (1440 : Int32) ≤ nI m from nI_ge (a := m) (b := 1440) (by omega) (by decide)), ibg_e hk (by omega) hM, cb1_o]
    cases hg : mBg M m with
    | false =>
      rw [hg] at hs
      have hs : mCn M (m + 1) = mCn M m := hs
      rw [if_pos (mI_0.mpr rfl), nmI_o, nI_1]
      exact ih (m + 1) n b (by omega) (by omega)
    | true =>
      rw [hg] at hs
      have hs : mCn M (m + 1) = mCn M m + 1 := hs
      rw [if_neg (by decide)]
      cases b with
      | zero =>
        rw [if_pos nI_0]
        exact Or.inl ⟨m, by omega, hg, by omega, rfl⟩
      | succ b =>
        rw [if_neg (nI_ne0 (by omega) (by omega)), nmI_o, nmI_o, pk_m1, nI_1]
        exact ih (m + 1) n b (by omega) (by omega)
theorem nOf_e {a w : Nat} (hk : k < 4) (hM : mBt mk k M) (ha : a < 1440) (hb : M a = true) (hw : w < 3) : Sf (f_X4_numberOf he mk (nI k) (nI a) (nI w)) (fun y => ∃ (e : Nat) (g : Int32), isRn M a e 1440 ∧ isMx he a (e + 1) g ∧ y = if w = 0 then nI a else if w = 1 then nI e else g) := by
  obtain ⟨y, ey, e, rfl, he'⟩ := last_e hk hM ha hb
  have te : (nI e).toInt = (e : Int) := nI_toInt (by have := he'.2.1; omega)
  obtain ⟨g, eg, hg⟩ := gOf_e (he := he) (a := a) (b := e + 1) (q := nI e) (by have := he'.2.1; omega) (by have := he'.1; omega) (by omega)
  have hw3 : w = 0 ∨ w = 1 ∨ w = 2 := by omega
  rw [f_X4_numberOf]
  rcases hw3 with h | h | h
  · subst h
    rw [if_pos nI_0]
    exact Sf_some ⟨e, g, he', hg, rfl⟩
  · subst h
    rw [if_neg (by decide +kernel), ey, cb1_o, if_pos (show nI 1 = (1 : Int32) from rfl)]
    exact Sf_some ⟨e, g, he', hg, rfl⟩
  · subst h
    rw [if_neg (by decide +kernel), ey, cb1_o, if_neg (by decide +kernel), eg, cb1_o]
    exact Sf_some ⟨e, g, he', hg, rfl⟩
end MS
section LA
variable {G : kG} {so sd rd dy d : Int32} {bs mo wi sh wd code ca cf ct sf many he hi sp mk pL pv Lt vals : Nat → Int32}
theorem lay_all (hk0 : 0 ≤ so.toInt) (hk1 : so.toInt ≤ 10) (hsd : 0 ≤ sd.toInt ∧ sd.toInt ≤ 999) (hsrc : SRC G so bs mo wi sh wd) (hT : TX G code ca cf ct sf many) (hd : 0 ≤ d.toInt ∧ d.toInt ≤ 399) (hL : LtS Lt) (hP : PGo G so sd bs mo wi sh wd dy he hi sp) (hM : PMo G rd dy he sp mk) :
    ∃ (n : Nat) (HH : Nat → Nat → Int32), nI n = so ∧ n ≤ 10 ∧ HHs G sd bs mo wi wd code ca cf ct sf many n d HH ∧ Sf (f_X7_lay G so sd rd dy he hi sp Lt vals d) (fun y => y.2.1 = d ∧ LtS y.2.2.2.2.2.1 ∧ isPage HH sh n y.2.2.1 y.2.2.2.1 y.2.2.2.2.1 ∧ PGo G so sd bs mo wi sh wd d y.2.2.1 y.2.2.2.1 y.2.2.2.2.1 ∧ PMo G y.1 d y.2.2.1 y.2.2.2.2.1 mk) := by
  obtain ⟨n, HH, h1, h2, h3, y, ey, g1, g2, g3, g4, g5⟩ := lay_pg (rd := rd) (vals := vals) (d := d) hk0 hk1 hsd hsrc hT hd hL hP
  refine ⟨n, HH, h1, h2, h3, y, ey, g1, g2, g3, g4, ?_⟩
  rcases lay_pm (rd := rd) (vals := vals) (Lt := Lt) (hi := hi) y ey with ⟨e1, e2, e3, e4⟩ | e
  · subst e1
    rw [e2, e3, e4]
    exact hM
  · rcases g5 with ⟨w, -⟩ | ⟨-, w⟩
    · exact absurd w e
    · exact PMo_0 w
theorem rd_step {β : Type} {Q : β → Prop} {k ix : Nat} {D : Nat → Nat → Bool} (hix : ix = k) (J : Int32 → (Nat → Int32) → (Nat → Int32) → (Nat → Int32) → Option β) (hk : k < 4) (hd : 0 ≤ d.toInt ∧ d.toInt ≤ 399) (hD : isDc G k d he sp D) (hP : LtP pL) (hM : PMo G rd d he sp mk) (hJ : ∀ (rd' : Int32) (mk' pL' pv' : Nat → Int32), mBt mk' k (mRw D) → PMo G rd' d he sp mk' → LtP pL' → keepO k mk mk' → Sf (J rd' mk' pL' pv') Q) :
    Sf (gdN 4 (nI k) <| oT G (some (10 + ix)) (cb3 (f_X4_read_N rd d he mk sp pL (nI k)) fun a b c => J a b c pv) fun _ t => (cb4 (f_X4_read (t.2.2.1.1) (t.2.2.2.2.1) (t.2.2.2.1.1) rd d (t.2.1) (t.2.2.1.2) (t.2.2.2.2.2) (t.2.2.2.1.2) he mk sp pL pv (nI k)) fun a b c v => J a b c v)) Q := by
  rw [hix, gdN_o (jin_n hk (by omega))]
  refine Sf_oT (fun i hi => by cases hi; omega) (fun h => ?_) (fun i t hi _ ht => ?_)
  · have hx : G.2 (10 + k) = none := by
      rcases h with h | ⟨i, hi, hn⟩
      · cases h
      · cases hi; exact hn
    exact Sf_cb3 (read_Ne hk hx hd hD hP hM) (fun a b c h => hJ a b c pv h.1 h.2.1 h.2.2.1 h.2.2.2)
  · cases hi
    exact Sf_cb4 (read_e hk ht hd hD hP hM) (fun a b c v h => hJ a b c v h.1 h.2.1 h.2.2.1 h.2.2.2)
end LA
section MM
variable {G : kG} {so sd rd dy p1 p2 p3 ph ps a1 a2 a3 a4 a5 a6 a7 a8 a9 a10 a11 a12 a13 : Int32} {bs mo wi sh wd code ca cf ct sf many rf wo he hi sp mk pL pv Lt vals fi gr la hA sA rm0 : Nat → Int32}
noncomputable abbrev mrkF (so sd a1 a2 a3 a4 a5 a6 a7 a8 a9 a10 a11 a12 a13 ph ps : Int32) (bs code ca cf ct fi gr hA rf la many rm0 mo sh sA sf wd wi wo : Nat → Int32) (p1 p2 p3 : Int32) := f_X12_marks so sd a1 a2 a3 a4 a5 a6 a7 a8 a9 a10 a11 a12 a13 ph ps bs code ca cf ct fi gr hA rf la many rm0 mo sh sA sf wd wi wo p1 p2 p3
set_option maxHeartbeats 4000000 in
theorem marks_sim (hk0 : 0 ≤ so.toInt) (hk1 : so.toInt ≤ 10) (hsd : 0 ≤ sd.toInt ∧ sd.toInt ≤ 999) (hsrc : SRC G so bs mo wi sh wd) (hT : TX G code ca cf ct sf many) (hL : LtS Lt) (hP : PGo G so sd bs mo wi sh wd dy he hi sp) (hM : PMo G rd dy he sp mk) (hLP : LtP pL) :
    Sf (f_X11_marks G rd dy so sd he hi mk sp pL pv Lt vals p1 p2 p3) (fun y => (PGo G so sd bs mo wi sh wd y.2.2.1 y.2.2.2.1 y.2.2.2.2.1 y.2.2.2.2.2.2.1 ∧ PMo G y.2.1 y.2.2.1 y.2.2.2.1 y.2.2.2.2.2.2.1 y.2.2.2.2.2.1 ∧ LtP y.2.2.2.2.2.2.2.1) ∧ Sf (mrkF so sd a1 a2 a3 a4 a5 a6 a7 a8 a9 a10 a11 a12 a13 ph ps bs code ca cf ct fi gr hA rf la many rm0 mo sh sA sf wd wi wo p1 p2 p3) (fun z => y.1 = z.1)) := by
  have l0 : (0 : Int32).toInt = 0 := by decide
  have lm : (-1 : Int32).toInt = -1 := by decide
  unfold mrkF
  obtain ⟨r1, e1, h1⟩ := s_X12_isReader p1
  obtain ⟨r2, e2, h2⟩ := s_X12_isDay p2
  have h1 := h1.2
  have h2 := h2.2
  have hno : (r1 = 0 ∨ r2 = 0 ∨ ¬ (-1 : Int32) ≤ p3) → Sf (f_X12_marks so sd a1 a2 a3 a4 a5 a6 a7 a8 a9 a10 a11 a12 a13 ph ps bs code ca cf ct fi gr hA rf la many rm0 mo sh sA sf wd wi wo p1 p2 p3) (fun z => (-1 : Int32) = z.1) := by
    intro h
    rw [f_X12_marks, e1, cb1_o]
    by_cases c1 : r1 = 0
    · rw [if_pos c1]; exact Sf_some rfl
    · rw [if_neg c1, e2, cb1_o]
      by_cases c2 : r2 = 0
      · rw [if_pos c2]; exact Sf_some rfl
      · rw [if_neg c2, if_neg ((h.resolve_left c1).resolve_left c2)]; exact Sf_some rfl
  rw [f_X11_marks]
  refine Sf_cb1 (s_X11_isReader p1) (fun q1 g1 => ?_)
  have g1 := g1.2
  refine Sf_ite (fun g => Sf_some ⟨⟨hP, hM, hLP⟩, hno (Or.inl (i32_eq (by have := eqI g; omega)))⟩) (fun g => ?_)
  have g := neI g
  refine Sf_cb1 (s_X11_isDay p2) (fun q2 g2 => ?_)
  have g2 := g2.2
  refine Sf_ite (fun w => Sf_some ⟨⟨hP, hM, hLP⟩, hno (Or.inr (Or.inl (i32_eq (by have := eqI w; omega))))⟩) (fun w => ?_)
  have w := neI w
  refine Sf_ite (fun w3 => ?_) (fun w3 => Sf_some ⟨⟨hP, hM, hLP⟩, hno (Or.inr (Or.inr w3))⟩)
  have hd : 0 ≤ p2.toInt ∧ p2.toInt ≤ 399 := by omega
  have n1 : ¬ r1 = 0 := fun v => by have := eqI v; omega
  have n2 : ¬ r2 = 0 := fun v => by have := eqI v; omega
  have tk := tN p1 (by omega)
  have hp1 : p1 = nI p1.toNatClampNeg := i32_eq (by rw [nI_toInt (by omega)]; omega)
  have hk : p1.toNatClampNeg < 4 := by omega
  generalize p1.toNatClampNeg = k at *
  subst hp1
  obtain ⟨n, HH, hn, hn10, hH, hlay⟩ := lay_all (rd := rd) (vals := vals) (d := p2) hk0 hk1 hsd hsrc hT hd hL hP hM
  refine Sf_cb7 hlay (fun b1 b2 b3 b4 b5 b6 b7 hb => ?_)
  obtain ⟨hb1, hb2, hb3, hb4, hb5⟩ := hb
  have hb1 : b2 = p2 := hb1
  subst hb1
  have hb3 : isPage HH sh n b3 b4 b5 := hb3
  have hb4 : PGo G so sd bs mo wi sh wd b2 b3 b4 b5 := hb4
  have hb5 : PMo G b1 b2 b3 b5 mk := hb5
  obtain ⟨D, hDc, hDr⟩ := D_ex b2 b3 b5 hT hk
  refine rd_step (by first | rfl | exact nI_clamp (by omega)) (f_X11_marks_J47 (nI k) p3 b2 b3 b4 b5 b6 b7) hk hd hDc hLP hb5 (fun rd' mk' pL' pv' m1 m2 m3 _ => ?_)
  -- the reference
  have href : ∀ Q : Int32 → Prop, (∀ fi' gr' la' : Nat → Int32, isLs (mRw D) b3 (720 * 0) 1440 fi' la' gr' → (p3 = -1 → Q (nI (mCn (mRw D) 1440))) ∧ (¬ p3 = -1 → (p3 / 3 < nI (mCn (mRw D) 1440) → jin (p3 / 3) 1440 = true ∧ (jrem p3 3 = 0 → Q (fi' (p3 / 3).toNatClampNeg)) ∧ (¬ jrem p3 3 = 0 → jrem p3 3 = 1 → Q (la' (p3 / 3).toNatClampNeg)) ∧ (¬ jrem p3 3 = 0 → ¬ jrem p3 3 = 1 → Q (gr' (p3 / 3).toNatClampNeg))) ∧ (¬ p3 / 3 < nI (mCn (mRw D) 1440) → Q (-1)))) → Sf (f_X12_marks so sd a1 a2 a3 a4 a5 a6 a7 a8 a9 a10 a11 a12 a13 ph ps bs code ca cf ct fi gr hA rf la many rm0 mo sh sA sf wd wi wo (nI k) b2 p3) (fun z => Q z.1) := by
    intro Q hQ
    rw [f_X12_marks, e1, cb1_o, if_neg n1, e2, cb1_o, if_neg n2, if_pos w3]
    refine Sf_cb19 (lays_e (hi := b4) (sp := b5) (a1 := a1) (a2 := a2) (a3 := a3) (a4 := a4) (a5 := a5) (a6 := a6) (a7 := a7) (a8 := a8) (a9 := a9) (a10 := a10) (a11 := a11) (a12 := a12) (a13 := a13) (ph := ph) (ps := ps) (hA := hA) (rf := rf) (sA := sA) (wo := wo) hn hn10 hH hb3) (fun c1 c2 c3 c4 c5 c6 c7 c8 c9 c10 c11 c12 c13 c14 c15 c16 c17 c18 c19 hc => ?_)
    have hc : isPr b3 b5 c16 c18 1440 := hc
    have hgo := go_e (b := 0) (a1 := c1) (a2 := c2) (a3 := c3) (a4 := c4) (a5 := c5) (a6 := c6) (a7 := c7) (a8 := c8) (a9 := c9) (a10 := c10) (a11 := c11) (a12 := c12) (a13 := c13) (fi := fi) (gr := gr) (la := la) (mk := rm0) (rf := c17) (wo := c19) (by omega) hDr hc
    rw [nI_0] at hgo
    refine Sf_cb19 hgo (fun d1 d2 d3 d4 d5 d6 d7 d8 d9 d10 d11 d12 d13 d14 d15 d16 d17 d18 d19 hd' => ?_)
    obtain ⟨v1, -, -, -, v5⟩ := hd'
    have v1 : isLs (mRw D) b3 (720 * 0) 1440 d14 d17 d15 := v1
    have v5 : d18 = upd rm0 0 (nI (mCn (mRw D) 1440)) := v5
    obtain ⟨u1, u2⟩ := hQ d14 d15 d17 v1
    have hrd : ∀ {β : Type} (K : Int32 → Option β), rdI d18 2 0 K = K (nI (mCn (mRw D) 1440)) := fun K => by rw [rdI_o (by decide), show (0 : Int32).toNatClampNeg = 0 by decide, v5, upd_s]
    refine Sf_ite (fun c => ?_) (fun c => ?_)
    · rw [hrd]
      exact Sf_some (u1 c)
    · rw [hrd]
      obtain ⟨u3, u4⟩ := u2 c
      refine Sf_ite (fun c2 => ?_) (fun c2 => Sf_some (u4 c2))
      obtain ⟨u5, u6, u7, u8⟩ := u3 c2
      refine Sf_ite (fun c3 => ?_) (fun c3 => ?_)
      · rw [rdI_o u5]; exact Sf_some (u6 c3)
      · refine Sf_ite (fun c4 => ?_) (fun c4 => ?_)
        · rw [rdI_o u5]; exact Sf_some (u7 c3 c4)
        · rw [rdI_o u5]; exact Sf_some (u8 c3 c4)
  rw [f_X11_marks_J47]
  refine Sf_ite (fun c => ?_) (fun c => ?_)
  · rw [mOf_e hk m1, cb1_o]
    refine Sf_some ⟨⟨hb4, m2, m3⟩, ?_⟩
    exact href (fun v => nI (mCn (mRw D) 1440) = v) (fun fi' gr' la' _ => ⟨fun _ => rfl, fun w => absurd c w⟩)
  · have hp3 : 0 ≤ p3.toInt := by have := leI w3; have := neI c; omega
    have r3 := rgI p3
    have t3 := tN p3 hp3
    have hp : p3 = nI p3.toNatClampNeg := i32_eq (by rw [nI_toInt (by omega)]; omega)
    have hlt : p3.toNatClampNeg < 2147483648 := by omega
    generalize p3.toNatClampNeg = p at *
    subst hp
    have ed : nI p / 3 = nI (p / 3) := pk_div (d := 3) (by omega) (by omega) (by omega)
    have er : jrem (nI p) 3 = nI (p % 3) := by unfold jrem; exact pk_rem (d := 3) (by omega) (by omega) (by omega)
    have hbd := mCn_bd (mRw D) 1440
    have hbt : (mPr (mRw D) 1440).toNat ≤ 1 := by cases mPr (mRw D) 1440 <;> decide
    obtain ⟨f, hf⟩ : ∃ f, FU = f + 1440 + 1 := ⟨FU - 1441, by have := FU_ge; omega⟩
    have hno := mNo_L (K := f_X4_markNumber_J29 b3 mk' (nI k) (nI p)) (B := p / 3) (by omega) hk m1 1440 0 f (p / 3) (by omega) rfl
    rw [← hf, nI_0] at hno
    have hmn : f_X4_markNumber b3 mk' (nI k) (nI p) = f_X4_markNumber_L7 mk' (nI k) (f_X4_markNumber_J29 b3 mk' (nI k) (nI p)) FU (nI (p / 3)) 0 := by rw [f_X4_markNumber, nmI_o, ed]
    rcases hno with ⟨a, ha, hab, hac, hno⟩ | ⟨hge, hno⟩
    · rw [hmn, hno, f_X4_markNumber_J29, er]
      have hlt2 := mCn_lt (M := mRw D) ha hab
      obtain ⟨y, ey, e, g', y1, y2, y3⟩ := nOf_e (he := b3) (w := p % 3) hk m1 ha (mBg_t.mp hab).1 (by omega)
      rw [ey, cb1_o, cb1_o]
      refine Sf_some ⟨⟨hb4, m2, m3⟩, ?_⟩
      refine href (fun v => y = v) (fun fi' gr' la' hls => ⟨fun w => absurd w c, fun _ => ⟨fun _ => ?_, fun w => absurd (show nI p / 3 < nI (mCn (mRw D) 1440) by rw [ed]; exact nI_lt (by omega) (by omega)) w⟩⟩)
      obtain ⟨s1, e', s2, s3, s4⟩ := hls a ha hab
      rw [Nat.mul_zero, Nat.zero_add, hac] at s1 s2 s4
      have ee := isRn_uni y1 s3
      subst ee
      have eg := isMx_uni y2 s4
      rw [ed, er, nI_clamp (by omega)]
      refine ⟨jin_n (by omega) (by omega), fun w0 => ?_, fun w0 w1 => ?_, fun w0 w1 => ?_⟩
      · have : p % 3 = 0 := (nI_eq (by omega) (by omega)).mp (w0.trans nI_0.symm)
        show y = fi' (p / 3)
        rw [y3, if_pos this, s1]
      · have z1 : p % 3 = 1 := (nI_eq (by omega) (by omega)).mp w1
        show y = la' (p / 3)
        rw [y3, if_neg (by omega), if_pos z1, s2]
      · have z0 : ¬ p % 3 = 0 := fun v => w0 (by rw [v]; exact nI_0)
        have z1 : ¬ p % 3 = 1 := fun v => w1 (by rw [v]; rfl)
        show y = gr' (p / 3)
        rw [y3, if_neg z0, if_neg z1, eg]
    · rw [hmn, hno, cb1_o]
      refine Sf_some ⟨⟨hb4, m2, m3⟩, ?_⟩
      exact href (fun v => (-1 : Int32) = v) (fun fi' gr' la' _ => ⟨fun w => absurd w c, fun _ => ⟨fun w => absurd w (by rw [ed]; exact nI_nlt (by omega) (by omega)), fun _ => rfl⟩⟩)
end MM
