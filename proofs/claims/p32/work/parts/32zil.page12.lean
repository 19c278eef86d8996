/-! the reference's side of marks: the page, whether a minute is marked, the lists -/
abbrev R19 : Type := Int32 × Int32 × Int32 × Int32 × Int32 × Int32 × Int32 × Int32 × Int32 × Int32 × Int32 × Int32 × Int32 × Int32 × Int32 × (Nat → Int32) × (Nat → Int32) × (Nat → Int32) × (Nat → Int32)
def isPr (he sp hA sA : Nat → Int32) (n : Nat) : Prop := ∀ m, m < n → hA m = he m ∧ sA m = sp m
section RL
variable {G : kG} {so sd : Int32} {bs mo wi sh wd code ca cf ct sf many he hi sp : Nat → Int32} {d : Int32}
theorem lays_L {n : Nat} {HH : Nat → Nat → Int32} (hn : nI n = so) (hk : n ≤ 10) (hH : HHs G sd bs mo wi wd code ca cf ct sf many n d HH) (hpg : isPage HH sh n he hi sp) :
    ∀ (r m q : Nat) (a1 a2 a3 a4 a5 a6 a7 a8 a9 a10 a11 a12 a13 ph ps : Int32) (hA rf sA wo : Nat → Int32), m + r = 1440 → isPr he sp hA sA m → Sf (f_X12_lays_L2 so sd bs code ca cf ct many mo sh sf wd wi d (q + r + 1) (nI m) a1 a2 a3 a4 a5 a6 a7 a8 a9 a10 a11 a12 a13 ph ps hA rf sA wo) (fun z : R19 => isPr he sp z.2.2.2.2.2.2.2.2.2.2.2.2.2.2.2.1 z.2.2.2.2.2.2.2.2.2.2.2.2.2.2.2.2.2.1 1440) := by
  intro r
  induction r with
  | zero =>
    intro m q a1 a2 a3 a4 a5 a6 a7 a8 a9 a10 a11 a12 a13 ph ps hA rf sA wo hm hP
    have hm : m = 1440 := by omega
    subst hm
    rw [Nat.add_zero, f_X12_lays_L2, if_pos (by decide +kernel)]
    exact Sf_some hP
  | succ r ih =>
    intro m q a1 a2 a3 a4 a5 a6 a7 a8 a9 a10 a11 a12 a13 ph ps hA rf sA wo hmr hP
    have hm : m < 1440 := by omega
    have jm : jin (nI m) 1440 = true := jin_n hm (by omega)
    have cm : (nI m).toNatClampNeg = m := nI_clamp (by omega)
    rw [show q + (r + 1) + 1 = (q + r + 1) + 1 by omega, f_X12_lays_L2, if_neg (show ¬ (1440 : Int32) ≤ nI m from nI_ge (a := m) (b := 1440) (by omega) (by decide))]
    refine Sf_cb17 (looks_e (a1 := a1) (a2 := a2) (a3 := a3) (a4 := a4) (a5 := a5) (a6 := a6) (a7 := a7) (a8 := a8) (a9 := a9) (a10 := a10) (a11 := a11) (a12 := a12) (a13 := a13) (ph := ph) (ps := ps) (rf := rf) (wo := wo) (sh := sh) hn hk hm hH) (fun z1 z2 z3 z4 z5 z6 z7 z8 z9 z10 z11 z12 z13 z14 z15 z16 z17 hz => ?_)
    have hz1 : z14 = (pSum (fun s => HH s m) sh n).1 := hz.1
    have hz2 : z15 = (pSum (fun s => HH s m) sh n).2.2 := hz.2
    have hpm : (he m, hi m, sp m) = pSum (fun s => HH s m) sh n := hpg m hm
    rw [← hpm] at hz1 hz2
    rw [wrI_o jm, wrI_o jm, nmI_o, nI_1, cm]
    refine ih (m + 1) q _ _ _ _ _ _ _ _ _ _ _ _ _ _ _ _ _ _ _ (by omega) (fun i hi => ?_)
    by_cases c : i = m
    · rw [c, upd_s, upd_s]; exact ⟨hz1, hz2⟩
    · rw [upd_n c, upd_n c]; exact hP i (by omega)
theorem lays_e {n : Nat} {HH : Nat → Nat → Int32} {a1 a2 a3 a4 a5 a6 a7 a8 a9 a10 a11 a12 a13 ph ps : Int32} {hA rf sA wo : Nat → Int32} (hn : nI n = so) (hk : n ≤ 10) (hH : HHs G sd bs mo wi wd code ca cf ct sf many n d HH) (hpg : isPage HH sh n he hi sp) : Sf (f_X12_lays so sd a1 a2 a3 a4 a5 a6 a7 a8 a9 a10 a11 a12 a13 ph ps bs code ca cf ct hA rf many mo sh sA sf wd wi wo d) (fun z : R19 => isPr he sp z.2.2.2.2.2.2.2.2.2.2.2.2.2.2.2.1 z.2.2.2.2.2.2.2.2.2.2.2.2.2.2.2.2.2.1 1440) := by
  obtain ⟨q, hq⟩ : ∃ q, FU = q + 1440 + 1 := ⟨FU - 1441, by have := FU_ge; omega⟩
  have h := lays_L (hi := hi) hn hk hH hpg 1440 0 q a1 a2 a3 a4 a5 a6 a7 a8 a9 a10 a11 a12 a13 ph ps hA rf sA wo (by omega) (fun i hi => absurd hi (by omega))
  rw [nI_0, ← hq] at h
  rw [f_X12_lays]
  exact h
end RL
section RM
variable {code ca cf ct many he sp hA sA : Nat → Int32} {k : Nat} {d : Int32} {D : Nat → Nat → Bool}
theorem max_L {m lo : Nat} {K : Int32 → Option R16} {P : R16 → Prop} (hm : m < 1440) (hlo : lo ≤ m) (hK : ∀ g, isMx hA lo m g → Sf (K g) P) : ∀ (r x n : Nat) (g : Int32), x + r = m → lo ≤ x → isMx hA lo x g → Sf (f_X12_isMarked_L50 hA (nI m) K (n + r + 1) (nI x) g) P := by
  intro r
  induction r with
  | zero =>
    intro x n g hx h1 hg
    have hx : x = m := by omega
    subst hx
    rw [Nat.add_zero, f_X12_isMarked_L50, if_pos (nI_le (Nat.le_refl _) (by omega))]
    exact hK g hg
  | succ r ih =>
    intro x n g hx h1 hg
    have jx : jin (nI x) 1440 = true := jin_n (by omega) (by omega)
    have cx : (nI x).toNatClampNeg = x := nI_clamp (by omega)
    have hadd := isMx_add hg h1
    unfold jmax at hadd
    rw [show n + (r + 1) + 1 = (n + r + 1) + 1 by omega, f_X12_isMarked_L50, if_neg (nI_ge (by omega) (by omega)), rdI_o jx, cx]
    refine Sf_ite (fun c => ?_) (fun c => ?_)
    · have c := leI c
      rw [if_neg (fun w => by have := ltI w; omega)] at hadd
      rw [nmI_o, nI_1]
      exact ih (x + 1) n g (by omega) (by omega) hadd
    · have c := nleI c
      rw [if_pos (Int32.lt_iff_toInt_lt.mpr c)] at hadd
      rw [rdI_o jx, cx, nmI_o, nI_1]
      exact ih (x + 1) n _ (by omega) (by omega) hadd
theorem imr_e {a1 a2 a3 a4 a5 a6 a7 a8 a9 a10 a11 a12 a13 : Int32} {rf wo : Nat → Int32} {m t : Nat} (hm : m < 1440) (hD : isDr code ca cf ct many k d he sp D) (hP : isPr he sp hA sA 1440) : Sf (f_X12_isMarked a1 a2 a3 a4 a5 a6 a7 a8 a9 a10 a11 a12 a13 code ca cf ct hA rf many sA wo (nI k) d (nI m) (nI t)) (fun z : R16 => z.1 = mI (D m t)) := by
  have jm : jin (nI m) 1440 = true := jin_n hm (by omega)
  have cm : (nI m).toNatClampNeg = m := nI_clamp (by omega)
  have tm : (nI m).toInt = (m : Int) := nI_toInt (by omega)
  have l0 : (0 : Int32).toInt = 0 := by decide
  have l10 : (10 : Int32).toInt = 10 := by decide
  have key : ∀ (b : Int32) (lo : Nat) (p : Int32), b = (if m = 0 then 0 else he (m - 1)) → lo = m - 10 → p = nI lo → Sf (f_X12_isMarked_J48 code ca cf ct hA rf many sA wo (nI k) d (nI m) (nI t) 0 0 0 0 0 (hA m) b p) (fun z : R16 => z.1 = mI (D m t)) := by
    intro b lo p hb hlo hp
    subst hp
    subst hb
    rw [f_X12_isMarked_J48]
    obtain ⟨n, hn⟩ : ∃ n, FU = n + (m - lo) + 1 := ⟨FU - (m - lo) - 1, by have := FU_ge; omega⟩
    rw [hn]
    refine max_L (lo := lo) hm (by omega) (fun g hg => ?_) (m - lo) lo n 0 (by omega) (Nat.le_refl _) (isMx_nil (Nat.le_refl _))
    have hg' : isMx he (m - 10) m g := by rw [← hlo]; exact isMx_congr hg (fun i hi => (hP i (by omega)).1)
    have c2 : (12 : Int32) * (10 + nI k) = nI (12 * (10 + k)) := by rw [show (10 : Int32) = nI 10 from rfl, show (12 : Int32) = nI 12 from rfl, nI_add, pk_mul]
    have hs : f_X12_starAt d (nI m) = some (S_of d (nI m)) := by rw [f_X12_starAt]
    rw [f_X12_isMarked_J94, rdI_o jm, hs, cb1_o, nmI_o, nmI_o, cm, c2, (hP m hm).1, (hP m hm).2]
    exact hD m hm t g rf wo hg'
  have key2 : ∀ b : Int32, b = (if m = 0 then 0 else he (m - 1)) → Sf (f_X12_isMarked_J31 code ca cf ct hA rf many sA wo (nI k) d (nI m) (nI t) 0 0 0 0 0 (hA m) b) (fun z : R16 => z.1 = mI (D m t)) := by
    intro b hb
    rw [f_X12_isMarked_J31]
    refine Sf_ite (fun c => ?_) (fun c => ?_)
    · have c := leI c
      exact key b (m - 10) _ hb rfl (by rw [show (10 : Int32) = nI 10 from rfl, pk_sub (by omega)])
    · have c := nleI c
      exact key b (m - 10) _ hb rfl (by rw [show m - 10 = 0 by omega]; exact nI_0.symm)
  rw [f_X12_isMarked, f_X12_clears, cb13_o, rdI_o jm, cm]
  refine Sf_ite (fun c => ?_) (fun c => ?_)
  · have c := eqI c
    exact key2 0 (by rw [if_pos (show m = 0 by omega)])
  · have c := neI c
    obtain ⟨j, rfl⟩ : ∃ j, m = j + 1 := ⟨m - 1, by omega⟩
    rw [n_m1, rdI_o (jin_n (by omega) (by omega)), nI_clamp (by omega)]
    exact key2 (hA j) (by rw [if_neg (by omega)]; exact (hP j (by omega)).1)
end RM
/-- the lists of the marks that began below m -/
def isLs (M : Nat → Bool) (he : Nat → Int32) (base m : Nat) (fi la gr : Nat → Int32) : Prop := ∀ a, a < m → mBg M a = true → fi (base + mCn M a) = nI a ∧ ∃ e, la (base + mCn M a) = nI e ∧ isRn M a e m ∧ isMx he a (e + 1) (gr (base + mCn M a))
theorem isRn_false {M : Nat → Bool} {a e m : Nat} (h : isRn M a e m) (hM : M m = false) : isRn M a e (m + 1) := ⟨h.1, by have := h.2.1; omega, h.2.2.1, fun w => by
  by_cases c : e + 1 < m
  · exact h.2.2.2 c
  · rw [show e + 1 = m by have := h.2.1; omega]; exact hM⟩
theorem isLs_no {M : Nat → Bool} {he fi la gr : Nat → Int32} {base m : Nat} (h : isLs M he base m fi la gr) (hM : M m = false) : isLs M he base (m + 1) fi la gr := by
  intro a ha hb
  have hne : ¬ a = m := fun c => by have := (mBg_t.mp hb).1; rw [c, hM] at this; cases this
  obtain ⟨h1, e, h2, h3, h4⟩ := h a (by omega) hb
  exact ⟨h1, e, h2, isRn_false h3 hM, h4⟩
/-- a mark that began before m and is not the one that stands at m - 1 -/
theorem isRn_old {M : Nat → Bool} {a e m : Nat} (h : isRn M a e m) (hb : mBg M a = true) (hc : mCn M a + 1 < mCn M m ∨ mPr M m = false) : isRn M a e (m + 1) := by
  obtain ⟨h1, h2, h3, h4⟩ := h
  refine ⟨h1, by omega, h3, fun w => ?_⟩
  by_cases c : e + 1 < m
  · exact h4 c
  · exfalso
    have em : m = e + 1 := by omega
    subst em
    have hp : mPr M (e + 1) = true := h3 e h1 (Nat.le_refl _)
    rcases hc with w2 | w2
    · obtain ⟨a', g1, g2, g3, g4⟩ := mRun (e + 1) hp
      have : a' ≤ a := by
        by_cases q : a' ≤ a
        · exact q
        · exfalso
          have b2 := (mBg_t.mp g2).2
          obtain ⟨j, hj⟩ : ∃ j, a' = j + 1 := ⟨a' - 1, by omega⟩
          subst hj
          have b3 : M j = false := b2
          rw [h3 j (by omega) (by omega)] at b3
          cases b3
      have := mCn_le (M := M) this
      omega
    · rw [hp] at w2; cases w2
theorem isLs_new {M : Nat → Bool} {he fi la gr : Nat → Int32} {base m : Nat} {g : Int32} (h : isLs M he base m fi la gr) (hM : M m = true) (hp : mPr M m = false) (hg : isMx he m (m + 1) g) : isLs M he base (m + 1) (upd fi (base + mCn M m) (nI m)) (upd la (base + mCn M m) (nI m)) (upd (upd gr (base + mCn M m) 0) (base + mCn M m) g) := by
  intro a ha hb
  by_cases c : a = m
  · subst c
    rw [upd_s, upd_s, upd_s]
    refine ⟨rfl, a, rfl, ⟨Nat.le_refl _, by omega, fun i i1 i2 => ?_, fun w => absurd w (by omega)⟩, hg⟩
    rw [show i = a by omega]; exact hM
  · have hlt := mCn_lt (M := M) (show a < m by omega) hb
    rw [upd_n (by omega), upd_n (by omega), upd_n (by omega), upd_n (by omega)]
    obtain ⟨h1, e, h2, h3, h4⟩ := h a (by omega) hb
    exact ⟨h1, e, h2, isRn_old h3 hb (Or.inr hp), h4⟩
theorem isLs_on {M : Nat → Bool} {he fi la gr : Nat → Int32} {base m : Nat} {g : Int32} (h : isLs M he base m fi la gr) (hM : M m = true) (hp : mPr M m = true) (hg : ∀ a, isMx he a m (gr (base + mCn M m - 1)) → a ≤ m → isMx he a (m + 1) g) : isLs M he base (m + 1) fi (upd la (base + mCn M m - 1) (nI m)) (upd gr (base + mCn M m - 1) g) := by
  intro a ha hb
  obtain ⟨a', g1, g2, g3, g4⟩ := mRun m hp
  have hne : ¬ a = m := fun c => by have := (mBg_t.mp hb).2; rw [c, hp] at this; cases this
  obtain ⟨h1, e, h2, h3, h4⟩ := h a (by omega) hb
  by_cases c : a = a'
  · subst c
    have ix : base + mCn M m - 1 = base + mCn M a := by omega
    have ee : e + 1 = m := by
      have e1 : isRn M a (m - 1) m := ⟨by omega, by omega, fun i i1 i2 => g4 i i1 (by omega), fun w => absurd w (by omega)⟩
      have := isRn_uni h3 e1
      omega
    rw [ix] at hg ⊢
    rw [upd_s, upd_s]
    refine ⟨h1, m, rfl, ⟨by omega, by omega, fun i i1 i2 => ?_, fun w => absurd w (by omega)⟩, ?_⟩
    · by_cases q : i = m
      · rw [q]; exact hM
      · exact g4 i i1 (by omega)
    · rw [ee] at h4
      exact hg a h4 (by omega)
  · have hcn : ¬ mCn M a = mCn M a' := fun w => c (mCn_inj hb g2 w)
    have hle := mCn_lt (M := M) (show a < m by omega) hb
    rw [upd_n (by omega), upd_n (by omega)]
    exact ⟨h1, e, h2, isRn_old h3 hb (Or.inl (by omega)), h4⟩
