/-! the reference goes over the page -/
def keepB (n : Nat) (f g : Nat → Int32) : Prop := ∀ i, i < n → g i = f i
theorem keepB_upd {n i : Nat} {f g : Nat → Int32} {x : Int32} (h : keepB n f g) (hi : n ≤ i) : keepB n f (upd g i x) := fun j hj => by rw [upd_n (by omega)]; exact h j hj
theorem keepB_refl (n : Nat) (f : Nat → Int32) : keepB n f f := fun _ _ => rfl
abbrev R19g : Type := Int32 × Int32 × Int32 × Int32 × Int32 × Int32 × Int32 × Int32 × Int32 × Int32 × Int32 × Int32 × Int32 × (Nat → Int32) × (Nat → Int32) × (Nat → Int32) × (Nat → Int32) × (Nat → Int32) × (Nat → Int32)
section GO
variable {code ca cf ct many he sp hA sA : Nat → Int32} {k b : Nat} {d : Int32} {D : Nat → Nat → Bool} {P : R19g → Prop}
theorem go_J83 {p3 x4 r o1 o2 o3 o4 o5 o6 o7 o8 o9 o10 o11 o12 o13 : Int32} {la rf wo fi gr : Nat → Int32} {m ix : Nat} {K9 : Int32 → Int32 → Int32 → Int32 → Int32 → Int32 → Int32 → Int32 → Int32 → Int32 → Int32 → Int32 → Int32 → Int32 → Int32 → Int32 → (Nat → Int32) → (Nat → Int32) → (Nat → Int32) → (Nat → Int32) → (Nat → Int32) → Option R19g} (hm : m < 1440) (hix : ix < 1440) (hr : ¬ r = 0) (hv : 720 * p3 + x4 - 1 = nI ix) (hK : Sf (K9 x4 r (nI (m + 1)) o1 o2 o3 o4 o5 o6 o7 o8 o9 o10 o11 o12 o13 fi (upd gr ix (if hA m ≤ gr ix then gr ix else hA m)) rf (upd la ix (nI m)) wo) P) : Sf (f_X12_goesOver_J83 hA p3 (nI m) la r o1 o2 o3 o4 o5 o6 o7 o8 o9 o10 o11 o12 o13 rf wo K9 x4 fi gr) P := by
  have jm : jin (nI m) 1440 = true := jin_n hm (by omega)
  have cm : (nI m).toNatClampNeg = m := nI_clamp (by omega)
  have ji : jin (nI ix) 1440 = true := jin_n hix (by omega)
  have ci : (nI ix).toNatClampNeg = ix := nI_clamp (by omega)
  rw [f_X12_goesOver_J83, if_neg hr, nmI_o, hv, wrI_o ji, rdI_o jm, rdI_o ji, cm, ci]
  by_cases c : hA m ≤ gr ix
  · rw [if_pos c] at hK
    rw [if_pos c, rdI_o ji, f_X12_goesOver_J149, wrI_o ji, nmI_o, nI_1, ci]
    exact hK
  · rw [if_neg c] at hK
    rw [if_neg c, rdI_o jm, f_X12_goesOver_J149, wrI_o ji, nmI_o, nI_1, ci, cm]
    exact hK
theorem mx_if {a m : Nat} {v : Int32} (h : isMx he a m v) (ha : a ≤ m) (hm : m < 1440) (hP : isPr he sp hA sA 1440) : isMx he a (m + 1) (if hA m ≤ v then v else hA m) := by
  have h2 := isMx_add h ha
  rw [(hP m hm).1]
  unfold jmax at h2
  by_cases c : he m ≤ v
  · have c' := leI c
    rw [if_neg (fun w => by have := ltI w; omega)] at h2
    rw [if_pos c]; exact h2
  · have c' := nleI c
    rw [if_pos (Int32.lt_iff_toInt_lt.mpr c')] at h2
    rw [if_neg c]; exact h2
set_option maxHeartbeats 4000000 in
theorem go_L {fi0 la0 gr0 : Nat → Int32} {K160 : Int32 → Int32 → Int32 → Int32 → Int32 → Int32 → Int32 → Int32 → Int32 → Int32 → Int32 → Int32 → Int32 → Int32 → (Nat → Int32) → (Nat → Int32) → (Nat → Int32) → (Nat → Int32) → (Nat → Int32) → Option R19g} (hb : b < 2) (hD : isDr code ca cf ct many k d he sp D) (hP : isPr he sp hA sA 1440)
    (hK : ∀ (a1 a2 a3 a4 a5 a6 a7 a8 a9 a10 a11 a12 a13 : Int32) (fi gr rf la wo : Nat → Int32), isLs (mRw D) he (720 * b) 1440 fi la gr → keepB (720 * b) fi0 fi → keepB (720 * b) la0 la → keepB (720 * b) gr0 gr → Sf (K160 (nI (mCn (mRw D) 1440)) a1 a2 a3 a4 a5 a6 a7 a8 a9 a10 a11 a12 a13 fi gr rf la wo) P) :
    ∀ (r m n : Nat) (a1 a2 a3 a4 a5 a6 a7 a8 a9 a10 a11 a12 a13 : Int32) (fi gr rf la wo : Nat → Int32), m + r = 1440 → isLs (mRw D) he (720 * b) m fi la gr → keepB (720 * b) fi0 fi → keepB (720 * b) la0 la → keepB (720 * b) gr0 gr → Sf (f_X12_goesOver_L9 code ca cf ct hA many sA (nI k) d (nI b) K160 (n + r + 1) (nI (mCn (mRw D) m)) (mI (mPr (mRw D) m)) (nI m) a1 a2 a3 a4 a5 a6 a7 a8 a9 a10 a11 a12 a13 fi gr rf la wo) P := by
  intro r
  induction r with
  | zero =>
    intro m n a1 a2 a3 a4 a5 a6 a7 a8 a9 a10 a11 a12 a13 fi gr rf la wo hm hL k1 k2' k3
    have hm : m = 1440 := by omega
    subst hm
    rw [Nat.add_zero, f_X12_goesOver_L9, if_pos (by decide +kernel)]
    exact hK a1 a2 a3 a4 a5 a6 a7 a8 a9 a10 a11 a12 a13 fi gr rf la wo hL k1 k2' k3
  | succ r ih =>
    intro m n a1 a2 a3 a4 a5 a6 a7 a8 a9 a10 a11 a12 a13 fi gr rf la wo hmr hL k1 k2' k3
    have hm : m < 1440 := by omega
    have hcT := mCn_T D m
    have hbd := mCn_bd (mRw D) m
    have e720 : ∀ x : Nat, (720 : Int32) * nI b + nI x = nI (720 * b + x) := fun x => by rw [show (720 : Int32) = nI 720 from rfl, pk_mul, nI_add]
    rw [show n + (r + 1) + 1 = (n + r + 1) + 1 by omega, f_X12_goesOver_L9, if_neg (show ¬ (1440 : Int32) ≤ nI m from nI_ge (a := m) (b := 1440) (by omega) (by decide))]
    cases hp : mPr (mRw D) m with
    | false =>
      rw [hp, show false.toNat = 0 from rfl] at hcT hbd
      rw [if_pos (mI_0.mpr rfl), f_X12_goesOver_J36]
      have ht : nI (mCn (mRw D) m) = nI (mT D m) := by rw [hcT, Nat.add_zero]
      have him := imr_e (a1 := a1) (a2 := a2) (a3 := a3) (a4 := a4) (a5 := a5) (a6 := a6) (a7 := a7) (a8 := a8) (a9 := a9) (a10 := a10) (a11 := a11) (a12 := a12) (a13 := a13) (rf := rf) (wo := wo) (t := mT D m) hm hD hP
      rw [← ht] at him
      refine Sf_cb16 him (fun q o1 o2 o3 o4 o5 o6 o7 o8 o9 o10 o11 o12 o13 rf' wo' hq => ?_)
      have hq : q = mI (mRw D m) := hq
      have hq2 : mI (mPr (mRw D) (m + 1)) = q := hq.symm
      refine Sf_ite (fun c => ?_) (fun c => ?_)
      · have hM : mRw D m = false := mI_0.mp (hq.symm.trans c)
        have hcn : mCn (mRw D) (m + 1) = mCn (mRw D) m := by rw [mCn_s, mBg_f.mpr (Or.inl hM)]; rfl
        rw [f_X12_goesOver_J83, if_pos c, nmI_o, nI_1, ← hq2, ← hcn]
        exact ih (m + 1) n o1 o2 o3 o4 o5 o6 o7 o8 o9 o10 o11 o12 o13 fi gr rf' la wo' (by omega) (isLs_no hL hM) k1 k2' k3
      · have hM : mRw D m = true := by
          cases hM : mRw D m with
          | true => rfl
          | false => exact absurd (hq.trans (mI_0.mpr hM)) c
        have hcn : mCn (mRw D) (m + 1) = mCn (mRw D) m + 1 := by rw [mCn_s, mBg_t.mpr ⟨hM, hp⟩]; rfl
        have hix : 720 * b + mCn (mRw D) m < 1440 := by omega
        have ji : jin (nI (720 * b + mCn (mRw D) m)) 1440 = true := jin_n hix (by omega)
        have ci : (nI (720 * b + mCn (mRw D) m)).toNatClampNeg = 720 * b + mCn (mRw D) m := nI_clamp (by omega)
        rw [if_pos (mI_0.mpr rfl), e720, wrI_o ji, wrI_o ji, nmI_o, nI_1, ci]
        refine go_J83 (ix := 720 * b + mCn (mRw D) m) hm hix c (by rw [e720, ← Nat.add_assoc]; exact n_m1 _) ?_
        rw [upd_s, ← hq2, ← hcn]
        exact ih (m + 1) n o1 o2 o3 o4 o5 o6 o7 o8 o9 o10 o11 o12 o13 _ _ rf' _ wo' (by omega) (isLs_new hL hM hp (mx_if (isMx_nil (Nat.le_refl _)) (Nat.le_refl _) hm hP)) (keepB_upd k1 (by omega)) (keepB_upd k2' (by omega)) (keepB_upd (keepB_upd k3 (by omega)) (by omega))
    | true =>
      rw [hp, show true.toNat = 1 from rfl] at hcT hbd
      rw [if_neg (by decide), f_X12_goesOver_J36]
      have ht : nI (mCn (mRw D) m) - 1 = nI (mT D m) := by rw [hcT]; exact n_m1 _
      have him := imr_e (a1 := a1) (a2 := a2) (a3 := a3) (a4 := a4) (a5 := a5) (a6 := a6) (a7 := a7) (a8 := a8) (a9 := a9) (a10 := a10) (a11 := a11) (a12 := a12) (a13 := a13) (rf := rf) (wo := wo) (t := mT D m) hm hD hP
      rw [← ht] at him
      refine Sf_cb16 him (fun q o1 o2 o3 o4 o5 o6 o7 o8 o9 o10 o11 o12 o13 rf' wo' hq => ?_)
      have hq : q = mI (mRw D m) := hq
      have hq2 : mI (mPr (mRw D) (m + 1)) = q := hq.symm
      have hcn : mCn (mRw D) (m + 1) = mCn (mRw D) m := by rw [mCn_s, mBg_f.mpr (Or.inr hp)]; rfl
      refine Sf_ite (fun c => ?_) (fun c => ?_)
      · have hM : mRw D m = false := mI_0.mp (hq.symm.trans c)
        rw [f_X12_goesOver_J83, if_pos c, nmI_o, nI_1, ← hq2, ← hcn]
        exact ih (m + 1) n o1 o2 o3 o4 o5 o6 o7 o8 o9 o10 o11 o12 o13 fi gr rf' la wo' (by omega) (isLs_no hL hM) k1 k2' k3
      · have hM : mRw D m = true := by
          cases hM : mRw D m with
          | true => rfl
          | false => exact absurd (hq.trans (mI_0.mpr hM)) c
        have hix : 720 * b + mCn (mRw D) m - 1 < 1440 := by omega
        rw [if_neg (by decide)]
        refine go_J83 (ix := 720 * b + mCn (mRw D) m - 1) hm hix c ?_ ?_
        · rw [e720]
          have := pk_sub (a := 720 * b + mCn (mRw D) m) (b := 1) (by omega)
          exact this
        · rw [← hq2, ← hcn]
          refine ih (m + 1) n o1 o2 o3 o4 o5 o6 o7 o8 o9 o10 o11 o12 o13 _ _ rf' _ wo' (by omega) ?_ k1 (keepB_upd k2' (by omega)) (keepB_upd k3 (by omega))
          rw [hcn]
          exact isLs_on hL hM hp (fun a h ha => mx_if h ha hm hP)
theorem go_e {a1 a2 a3 a4 a5 a6 a7 a8 a9 a10 a11 a12 a13 : Int32} {fi gr rf la mk wo : Nat → Int32} (hb : b < 2) (hD : isDr code ca cf ct many k d he sp D) (hP : isPr he sp hA sA 1440) : Sf (f_X12_goesOver a1 a2 a3 a4 a5 a6 a7 a8 a9 a10 a11 a12 a13 code ca cf ct fi gr hA rf la many mk sA wo (nI k) d (nI b)) (fun z : R19g => isLs (mRw D) he (720 * b) 1440 (z.2.2.2.2.2.2.2.2.2.2.2.2.2.1) (z.2.2.2.2.2.2.2.2.2.2.2.2.2.2.2.2.1) (z.2.2.2.2.2.2.2.2.2.2.2.2.2.2.1) ∧ keepB (720 * b) fi (z.2.2.2.2.2.2.2.2.2.2.2.2.2.1) ∧ keepB (720 * b) la (z.2.2.2.2.2.2.2.2.2.2.2.2.2.2.2.2.1) ∧ keepB (720 * b) gr (z.2.2.2.2.2.2.2.2.2.2.2.2.2.2.1) ∧ z.2.2.2.2.2.2.2.2.2.2.2.2.2.2.2.2.2.1 = upd mk b (nI (mCn (mRw D) 1440))) := by
  obtain ⟨n, hn⟩ : ∃ n, FU = n + 1440 + 1 := ⟨FU - 1441, by have := FU_ge; omega⟩
  have jb : jin (nI b) 2 = true := jin_n hb (by omega)
  have cb : (nI b).toNatClampNeg = b := nI_clamp (by omega)
  have h := go_L (fi0 := fi) (la0 := la) (gr0 := gr) (K160 := f_X12_goesOver_J160 mk (nI b)) (P := fun z : R19g => isLs (mRw D) he (720 * b) 1440 (z.2.2.2.2.2.2.2.2.2.2.2.2.2.1) (z.2.2.2.2.2.2.2.2.2.2.2.2.2.2.2.2.1) (z.2.2.2.2.2.2.2.2.2.2.2.2.2.2.1) ∧ keepB (720 * b) fi (z.2.2.2.2.2.2.2.2.2.2.2.2.2.1) ∧ keepB (720 * b) la (z.2.2.2.2.2.2.2.2.2.2.2.2.2.2.2.2.1) ∧ keepB (720 * b) gr (z.2.2.2.2.2.2.2.2.2.2.2.2.2.2.1) ∧ z.2.2.2.2.2.2.2.2.2.2.2.2.2.2.2.2.2.1 = upd mk b (nI (mCn (mRw D) 1440))) hb hD hP (fun o1 o2 o3 o4 o5 o6 o7 o8 o9 o10 o11 o12 o13 fi' gr' rf' la' wo' g1 g2 g3 g4 => by
    rw [f_X12_goesOver_J160, wrI_o jb, cb]
    exact Sf_some ⟨g1, g2, g3, g4, rfl⟩) 1440 0 n a1 a2 a3 a4 a5 a6 a7 a8 a9 a10 a11 a12 a13 fi gr rf la wo (by omega) (fun a ha => absurd ha (by omega)) (keepB_refl _ _) (keepB_refl _ _) (keepB_refl _ _)
  have z1 : nI (mCn (mRw D) 0) = 0 := nI_0
  have z2 : mI (mPr (mRw D) 0) = 0 := rfl
  rw [z1, z2, nI_0, ← hn] at h
  rw [f_X12_goesOver]
  exact h
end GO
