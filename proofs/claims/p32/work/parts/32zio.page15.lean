/-! marks passed over, on both sides -/
/-- from a minute on, as long as y marks, x does not -/
def mClr (M1 M2 : Nat → Bool) : Nat → Nat → Bool
  | 0, _ => true
  | r + 1, m => if M2 m then (if M1 m then false else mClr M1 M2 r (m + 1)) else true
def mAl (M1 M2 : Nat → Bool) (a : Nat) : Bool := mBg M2 a && mClr M1 M2 (1440 - a) a
def aCn (M1 M2 : Nat → Bool) : Nat → Nat
  | 0 => 0
  | m + 1 => aCn M1 M2 m + (mAl M1 M2 m).toNat
theorem aCn_s (M1 M2 : Nat → Bool) (m : Nat) : aCn M1 M2 (m + 1) = aCn M1 M2 m + (mAl M1 M2 m).toNat := rfl
theorem aCn_le (M1 M2 : Nat → Bool) : ∀ m, aCn M1 M2 m ≤ mCn M2 m := by
  intro m
  induction m with
  | zero => exact Nat.le_refl _
  | succ m ih =>
    rw [aCn_s, mCn_s]
    unfold mAl
    cases mBg M2 m
    · show aCn M1 M2 m + 0 ≤ mCn M2 m + 0
      omega
    · cases mClr M1 M2 (1440 - m) m
      · show aCn M1 M2 m + 0 ≤ mCn M2 m + 1
        omega
      · show aCn M1 M2 m + 1 ≤ mCn M2 m + 1
        omega
theorem aCn_mono {M1 M2 : Nat → Bool} {a b : Nat} (h : a ≤ b) : aCn M1 M2 a ≤ aCn M1 M2 b := by
  induction h with
  | refl => exact Nat.le_refl _
  | step _ ih => rw [aCn_s]; omega
theorem aCn_eq0 {M1 M2 : Nat → Bool} {a : Nat} : ∀ r, mCn M2 a = mCn M2 (a + r) → aCn M1 M2 a = aCn M1 M2 (a + r) := by
  intro r
  induction r with
  | zero => intro _; rfl
  | succ r ih =>
    intro e
    have e : mCn M2 a = mCn M2 (a + r + 1) := e
    have g1 := mCn_le (M := M2) (show a ≤ a + r by omega)
    have g2 := mCn_s M2 (a + r)
    have hb : mBg M2 (a + r) = false := by
      cases hb : mBg M2 (a + r) with
      | false => rfl
      | true => rw [hb, show true.toNat = 1 from rfl] at g2; omega
    rw [hb, show false.toNat = 0 from rfl] at g2
    show aCn M1 M2 a = aCn M1 M2 (a + r + 1)
    rw [aCn_s]
    unfold mAl
    rw [hb, Bool.false_and, show false.toNat = 0 from rfl, Nat.add_zero]
    exact ih (by omega)
theorem aCn_eq1 {M1 M2 : Nat → Bool} {a b : Nat} (h : a ≤ b) (e : mCn M2 a = mCn M2 b) : aCn M1 M2 a = aCn M1 M2 b := by
  obtain ⟨r, rfl⟩ : ∃ r, b = a + r := ⟨b - a, by omega⟩
  exact aCn_eq0 r e
theorem aCn_eq {M1 M2 : Nat → Bool} {a b : Nat} (e : mCn M2 a = mCn M2 b) : aCn M1 M2 a = aCn M1 M2 b := by
  rcases Nat.le_total a b with h | h
  · exact aCn_eq1 h e
  · exact (aCn_eq1 h e.symm).symm
/-- the first that is passed over -/
def isFa (M1 M2 : Nat → Bool) (f : Nat) : Prop := f < 1440 ∧ mAl M1 M2 f = true ∧ ∀ i, i < f → mAl M1 M2 i = false
theorem isFa_uni {M1 M2 : Nat → Bool} {f g : Nat} (h : isFa M1 M2 f) (h' : isFa M1 M2 g) : f = g := by
  rcases Nat.lt_trichotomy f g with w | w | w
  · have := h'.2.2 f w; rw [h.2.1] at this; cases this
  · exact w
  · have := h.2.2 g w; rw [h'.2.1] at this; cases this
theorem aCn_0 {M1 M2 : Nat → Bool} {m : Nat} (h : aCn M1 M2 m = 0) : ∀ i, i < m → mAl M1 M2 i = false := by
  intro i hi
  have h1 := aCn_mono (M1 := M1) (M2 := M2) (show i + 1 ≤ m from hi)
  rw [aCn_s] at h1
  cases hb : mAl M1 M2 i with
  | false => rfl
  | true => rw [hb, show true.toNat = 1 from rfl] at h1; omega
theorem mClr_i {M1 M2 : Nat → Bool} {e : Nat} : ∀ (r a : Nat), a + r = 1440 → isRn M2 a e 1440 → (mClr M1 M2 r a = true ↔ ∀ i, a ≤ i → i ≤ e → M1 i = false) := by
  intro r
  induction r with
  | zero => intro a h hr; exact absurd hr.2.1 (by have := hr.1; omega)
  | succ r ih =>
    intro a h hr
    obtain ⟨h1, h2, h3, h4⟩ := hr
    have hMa : M2 a = true := h3 a (Nat.le_refl _) h1
    show (if M2 a then (if M1 a then false else mClr M1 M2 r (a + 1)) else true) = true ↔ _
    rw [hMa, if_pos rfl]
    cases hx : M1 a with
    | true =>
      rw [if_pos rfl]
      exact ⟨fun w => (by cases w), fun w => (by have := w a (Nat.le_refl _) h1; rw [hx] at this; cases this)⟩
    | false =>
      rw [if_neg (by decide)]
      by_cases c : a = e
      · subst c
        have hend : mClr M1 M2 r (a + 1) = true := by
          cases r with
          | zero => rfl
          | succ r =>
            show (if M2 (a + 1) then (if M1 (a + 1) then false else mClr M1 M2 r (a + 1 + 1)) else true) = true
            rw [h4 (by omega)]
            rfl
        exact ⟨fun _ i i1 i2 => by rw [show i = a by omega]; exact hx, fun _ => hend⟩
      · rw [ih (a + 1) (by omega) ⟨by omega, h2, fun i i1 i2 => h3 i (by omega) i2, h4⟩]
        refine ⟨fun w i i1 i2 => ?_, fun w i i1 i2 => w i (by omega) i2⟩
        by_cases d : i = a
        · rw [d]; exact hx
        · exact w i (by omega) i2
/-- no minute in common: by the beginnings and the ends -/
theorem apart_i {M1 M2 : Nat → Bool} {a e : Nat} (hr : isRn M2 a e 1440) : (∀ i, a ≤ i → i ≤ e → M1 i = false) ↔ ∀ a' e', a' < 1440 → mBg M1 a' = true → isRn M1 a' e' 1440 → e < a' ∨ e' < a := by
  obtain ⟨h1, h2, h3, h4⟩ := hr
  constructor
  · intro h a' e' ha hb hr'
    obtain ⟨g1, g2, g3, g4⟩ := hr'
    by_cases c1 : e < a'
    · exact Or.inl c1
    by_cases c2 : e' < a
    · exact Or.inr c2
    exfalso
    by_cases c : a ≤ a'
    · have := h a' c (by omega); rw [g3 a' (Nat.le_refl _) g1] at this; cases this
    · have := h a (Nat.le_refl _) h1; rw [g3 a (by omega) (by omega)] at this; cases this
  · intro h i i1 i2
    cases hb : M1 i with
    | false => rfl
    | true =>
      exfalso
      obtain ⟨a', g1, g2, -, g4⟩ := mRun (M := M1) (i + 1) hb
      obtain ⟨e', q1, q2⟩ : ∃ e', i ≤ e' ∧ isRn M1 a' e' 1440 := by
        have key : ∀ (r x : Nat), x + r = 1439 → i ≤ x → (∀ j, a' ≤ j → j ≤ x → M1 j = true) → ∃ e', i ≤ e' ∧ isRn M1 a' e' 1440 := by
          intro r
          induction r with
          | zero => intro x hx hi hj; exact ⟨x, hi, by omega, by omega, hj, fun w => absurd w (by omega)⟩
          | succ r ih =>
            intro x hx hi hj
            cases hn : M1 (x + 1) with
            | false => exact ⟨x, hi, by omega, by omega, hj, fun _ => hn⟩
            | true =>
              refine ih (x + 1) (by omega) (by omega) (fun j j1 j2 => ?_)
              by_cases d : j = x + 1
              · rw [d]; exact hn
              · exact hj j j1 (by omega)
        exact key (1439 - i) i (by omega) (Nat.le_refl _) (fun j j1 j2 => g4 j j1 (by omega))
      rcases h a' e' (by omega) g2 q2 with w | w <;> omega
section PC
variable {mk : Nat → Int32} {k1 k3 : Nat} {M1 M2 : Nat → Bool}
theorem bps_L (h1 : k1 < 4) (h2 : k3 < 4) (m1 : mBt mk k1 M1) (m2 : mBt mk k3 M2) : ∀ (r m n : Nat), m + r = 1440 → f_X4_beginsPassed_L14 mk (nI k1) (nI k3) (n + r + 1) (nI m) = some (mI (mClr M1 M2 r m)) := by
  intro r
  induction r with
  | zero =>
    intro m n hm
    have hm : m = 1440 := by omega
    subst hm
    rw [Nat.add_zero, f_X4_beginsPassed_L14, if_pos (by decide +kernel)]
    rfl
  | succ r ih =>
    intro m n hm
    rw [show n + (r + 1) + 1 = (n + r + 1) + 1 by omega, f_X4_beginsPassed_L14, if_neg (show ¬ (1440 : Int32) ≤ nI m from nI_ge (a := m) (b := 1440) (by omega) (by decide)), imk_e h2 (by omega), m2 m (by omega), cb1_o]
    show _ = some (mI (if M2 m then (if M1 m then false else mClr M1 M2 r (m + 1)) else true))
    cases hb : M2 m with
    | false => rw [if_pos (mI_0.mpr rfl)]; rfl
    | true =>
      rw [if_neg (by decide), imk_e h1 (by omega), m1 m (by omega), cb1_o, if_pos rfl]
      cases hc : M1 m with
      | false => rw [if_pos (mI_0.mpr rfl), nmI_o, nI_1, if_neg (by decide)]; exact ih (m + 1) n (by omega)
      | true => rw [if_neg (by decide), if_pos rfl]; rfl
theorem bps_e {m : Nat} (h1 : k1 < 4) (h2 : k3 < 4) (m1 : mBt mk k1 M1) (m2 : mBt mk k3 M2) (hm : m < 1440) : f_X4_beginsPassed mk (nI k1) (nI k3) (nI m) = some (mI (mAl M1 M2 m)) := by
  obtain ⟨n, hn⟩ : ∃ n, FU = n + (1440 - m) + 1 := ⟨FU - (1440 - m) - 1, by have := FU_ge; omega⟩
  rw [f_X4_beginsPassed, ibg_e h2 hm m2, cb1_o]
  unfold mAl
  cases hb : mBg M2 m with
  | false => rw [if_pos (mI_0.mpr rfl)]; rfl
  | true => rw [if_neg (by decide), hn, bps_L h1 h2 m1 m2 (1440 - m) m n (by omega), Bool.true_and]
theorem pms_L (h1 : k1 < 4) (h2 : k3 < 4) (m1 : mBt mk k1 M1) (m2 : mBt mk k3 M2) : ∀ (r m n : Nat), m + r = 1440 → f_X4_passedMarks_L5 mk (nI k1) (nI k3) (n + r + 1) (nI (aCn M1 M2 m)) (nI m) = some (nI (aCn M1 M2 1440)) := by
  intro r
  induction r with
  | zero =>
    intro m n hm
    have hm : m = 1440 := by omega
    subst hm
    rw [Nat.add_zero, f_X4_passedMarks_L5, if_pos (by decide +kernel)]
  | succ r ih =>
    intro m n hm
    rw [show n + (r + 1) + 1 = (n + r + 1) + 1 by omega, f_X4_passedMarks_L5, if_neg (show ¬ (1440 : Int32) ≤ nI m from nI_ge (a := m) (b := 1440) (by omega) (by decide)), bps_e h1 h2 m1 m2 (by omega), cb1_o]
    have hs := aCn_s M1 M2 m
    cases hb : mAl M1 M2 m with
    | false =>
      rw [hb] at hs
      have hs : aCn M1 M2 (m + 1) = aCn M1 M2 m := hs
      rw [if_pos (mI_0.mpr rfl), nmI_o, nmI_o, nI_1, show (0 : Int32) = nI 0 from nI_0.symm, nI_add, Nat.add_zero, ← hs]
      exact ih (m + 1) n (by omega)
    | true =>
      rw [hb] at hs
      have hs : aCn M1 M2 (m + 1) = aCn M1 M2 m + 1 := hs
      rw [if_neg (by decide), nmI_o, nmI_o, nI_1, nI_1, ← hs]
      exact ih (m + 1) n (by omega)
theorem pms_e (h1 : k1 < 4) (h2 : k3 < 4) (m1 : mBt mk k1 M1) (m2 : mBt mk k3 M2) : f_X4_passedMarks mk (nI k1) (nI k3) = some (nI (aCn M1 M2 1440)) := by
  obtain ⟨n, hn⟩ : ∃ n, FU = n + 1440 + 1 := ⟨FU - 1441, by have := FU_ge; omega⟩
  have h := pms_L h1 h2 m1 m2 1440 0 n (by omega)
  have z1 : nI (aCn M1 M2 0) = 0 := nI_0
  rw [z1, nI_0, ← hn] at h
  rw [f_X4_passedMarks]
  exact h
theorem fps_L (h1 : k1 < 4) (h2 : k3 < 4) (m1 : mBt mk k1 M1) (m2 : mBt mk k3 M2) {f : Nat} (hf : isFa M1 M2 f) : ∀ (r m n : Nat), m + r = 1440 → m ≤ f → f_X4_firstPassed_L2 mk (nI k1) (nI k3) (n + r + 1) (nI m) = some (nI f) := by
  intro r
  induction r with
  | zero => intro m n hm hle; exact absurd hf.1 (by omega)
  | succ r ih =>
    intro m n hm hle
    rw [show n + (r + 1) + 1 = (n + r + 1) + 1 by omega, f_X4_firstPassed_L2, if_neg (show ¬ (1440 : Int32) ≤ nI m from nI_ge (a := m) (b := 1440) (by omega) (by decide)), bps_e h1 h2 m1 m2 (by omega), cb1_o]
    by_cases c : m = f
    · subst c
      rw [hf.2.1, if_neg (by decide)]
    · rw [hf.2.2 m (by omega), if_pos (mI_0.mpr rfl), nmI_o, nI_1]
      exact ih (m + 1) n (by omega) (by omega)
theorem fps_e (h1 : k1 < 4) (h2 : k3 < 4) (m1 : mBt mk k1 M1) (m2 : mBt mk k3 M2) {f : Nat} (hf : isFa M1 M2 f) : f_X4_firstPassed mk (nI k1) (nI k3) = some (nI f) := by
  obtain ⟨n, hn⟩ : ∃ n, FU = n + 1440 + 1 := ⟨FU - 1441, by have := FU_ge; omega⟩
  have h := fps_L h1 h2 m1 m2 hf 1440 0 n (by omega) (Nat.zero_le _)
  rw [nI_0, ← hn] at h
  rw [f_X4_firstPassed]
  exact h
end PC
section RA
variable {he fi la gr mkR : Nat → Int32} {M1 M2 : Nat → Bool}
theorem alo_L {a e : Nat} (L1 : isLs M1 he (720 * 0) 1440 fi la gr) (hm0 : mkR 0 = nI (mCn M1 1440)) (f2 : fi (720 + mCn M2 a) = nI a) (l2 : la (720 + mCn M2 a) = nI e) (hc : mCn M2 a < 720) (he : isRn M2 a e 1440) : ∀ (r x n : Nat), x + r = mCn M1 1440 → (∀ a' e', a' < 1440 → mBg M1 a' = true → isRn M1 a' e' 1440 → mCn M1 a' < x → e < a' ∨ e' < a) → Sf (f_X12_isAlone_L2 fi la mkR (nI (mCn M2 a)) (n + r + 1) (nI x)) (fun y => (y = 1 ∧ ∀ i, a ≤ i → i ≤ e → M1 i = false) ∨ (y = 0 ∧ ¬ ∀ i, a ≤ i → i ≤ e → M1 i = false)) := by
  have hbd := mCn_bd M1 1440
  have hbt : (mPr M1 1440).toNat ≤ 1 := by cases mPr M1 1440 <;> decide
  have e720 : (720 : Int32) + nI (mCn M2 a) = nI (720 + mCn M2 a) := by rw [show (720 : Int32) = nI 720 from rfl, nI_add]
  have j7 : jin (nI (720 + mCn M2 a)) 1440 = true := jin_n (by omega) (by omega)
  have c7 : (nI (720 + mCn M2 a)).toNatClampNeg = 720 + mCn M2 a := nI_clamp (by omega)
  have h1440 : e < 1440 := he.2.1
  have hae : a ≤ e := he.1
  intro r
  induction r with
  | zero =>
    intro x n hx hall
    have hx : x = mCn M1 1440 := by omega
    subst hx
    rw [Nat.add_zero, f_X12_isAlone_L2, rdI_o (by decide), show (0 : Int32).toNatClampNeg = 0 by decide, hm0, if_pos (nI_le (Nat.le_refl _) (by omega))]
    exact Sf_some (Or.inl ⟨rfl, (apart_i he).mpr (fun a' e' g1 g2 g3 => hall a' e' g1 g2 g3 (mCn_lt g1 g2))⟩)
  | succ r ih =>
    intro x n hx hall
    obtain ⟨b, b1, b2, b3⟩ := mNth (M := M1) (j := x) 1440 (by omega)
    obtain ⟨s1, e1, s2, s3, -⟩ := L1 b b1 b2
    rw [Nat.mul_zero, Nat.zero_add, b3] at s1 s2
    have he1 : e1 < 1440 := s3.2.1
    have jx : jin (nI x) 1440 = true := jin_n (by omega) (by omega)
    have cx : (nI x).toNatClampNeg = x := nI_clamp (by omega)
    have next : (e < b ∨ e1 < a) → ∀ a' e', a' < 1440 → mBg M1 a' = true → isRn M1 a' e' 1440 → mCn M1 a' < x + 1 → e < a' ∨ e' < a := by
      intro hh a' e' g1 g2 g3 g4
      by_cases c : mCn M1 a' = x
      · have eab : a' = b := mCn_inj g2 b2 (by omega)
        subst eab
        have := isRn_uni g3 s3
        subst this
        exact hh
      · exact hall a' e' g1 g2 g3 (by omega)
    rw [show n + (r + 1) + 1 = (n + r + 1) + 1 by omega, f_X12_isAlone_L2, rdI_o (by decide), show (0 : Int32).toNatClampNeg = 0 by decide, hm0, if_neg (nI_ge (by omega) (by omega)), rdI_o jx, cx, s1, e720, rdI_o j7, c7, l2]
    refine Sf_ite (fun c => ?_) (fun c => ?_)
    · have c : e < b := (nI_ltI (by omega) (by omega)).mp c
      rw [nmI_o, nI_1]
      exact ih (x + 1) n (by omega) (next (Or.inl c))
    · have c : ¬ e < b := fun w => c ((nI_ltI (by omega) (by omega)).mpr w)
      rw [rdI_o jx, cx, s2, rdI_o j7, c7, f2]
      refine Sf_ite (fun c2 => ?_) (fun c2 => ?_)
      · have c2 : e1 < a := (nI_ltI (by omega) (by omega)).mp c2
        rw [nmI_o, nI_1]
        exact ih (x + 1) n (by omega) (next (Or.inr c2))
      · have c2 : ¬ e1 < a := fun w => c2 ((nI_ltI (by omega) (by omega)).mpr w)
        refine Sf_some (Or.inr ⟨rfl, fun w => ?_⟩)
        rcases (apart_i he).mp w b e1 b1 b2 s3 with g | g
        · exact c g
        · exact c2 g
theorem alo_e {a : Nat} (L1 : isLs M1 he (720 * 0) 1440 fi la gr) (hm0 : mkR 0 = nI (mCn M1 1440)) (L2 : isLs M2 he (720 * 1) 1440 fi la gr) (ha : a < 1440) (hb : mBg M2 a = true) : f_X12_isAlone fi la mkR (nI (mCn M2 a)) = some (mI (mAl M1 M2 a)) := by
  have hbd1 := mCn_bd M1 1440
  have hbt1 : (mPr M1 1440).toNat ≤ 1 := by cases mPr M1 1440 <;> decide
  have hbd := mCn_bd M2 1440
  have hbt : (mPr M2 1440).toNat ≤ 1 := by cases mPr M2 1440 <;> decide
  have hlt := mCn_lt ha hb
  obtain ⟨s1, e, s2, s3, -⟩ := L2 a ha hb
  rw [Nat.mul_one] at s1 s2
  obtain ⟨n, hn⟩ : ∃ n, FU = n + mCn M1 1440 + 1 := ⟨FU - mCn M1 1440 - 1, by have := FU_ge; omega⟩
  have h := alo_L (M2 := M2) L1 hm0 s1 s2 (by omega) s3 (mCn M1 1440) 0 n (by omega) (fun a' e' _ _ _ w => absurd w (Nat.not_lt_zero _))
  rw [nI_0, ← hn] at h
  obtain ⟨y, ey, hy⟩ := h
  rw [f_X12_isAlone, ey]
  unfold mAl
  rw [hb, Bool.true_and]
  have hi := mClr_i (M1 := M1) (1440 - a) a (by omega) s3
  rcases hy with ⟨y1, y2⟩ | ⟨y1, y2⟩
  · rw [y1, hi.mpr y2]; rfl
  · rw [y1]
    cases hc : mClr M1 M2 (1440 - a) a with
    | false => rfl
    | true => exact absurd (hi.mp hc) y2
end RA
