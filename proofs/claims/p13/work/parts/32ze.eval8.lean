/-! where a story falls, on both sides -/
theorem sub64 (r v : Int32) : (Int32.toInt64 r - Int32.toInt64 v).toInt = r.toInt - v.toInt := by
  have h1 := rgI r
  have h2 := rgI v
  rw [Int64.toInt_sub, t64, t64, Int.bmod_eq_of_le (by omega) (by omega)]
abbrev inTol (r v p : Int32) : Prop := -p.toInt ≤ r.toInt - v.toInt ∧ r.toInt - v.toInt ≤ p.toInt
theorem tolR {r v p : Int32} (h0 : 0 ≤ p.toInt) : f_X12_lies (Int32.toInt64 r - Int32.toInt64 v) (Int32.toInt64 (-p)) (Int32.toInt64 p) = some (bI (inTol r v p)) := by
  rw [L_iff, sub64, t64, t64, ngX p (by omega)]
theorem tolC {r v p : Int32} (h0 : 0 ≤ p.toInt) : (lg_cmp (jabsL (Int32.toInt64 r - Int32.toInt64 v)) (Int32.toInt64 p) ≤ 0) ↔ inTol r v p := by
  have h1 := rgI r
  have h2 := rgI v
  have e : (lg_cmp (jabsL (Int32.toInt64 r - Int32.toInt64 v)) (Int32.toInt64 p) ≤ 0) ↔ ¬ (0 < lg_cmp (jabsL (Int32.toInt64 r - Int32.toInt64 v)) (Int32.toInt64 p)) := by
    rw [Int32.le_iff_toInt_le, Int32.lt_iff_toInt_lt]; omega
  rw [e, lg_gt, t64]
  have s := sub64 r v
  have z : (0 : Int64).toInt = 0 := by decide
  unfold jabsL inTol
  by_cases c : 0 < Int32.toInt64 r - Int32.toInt64 v
  · rw [if_pos c]
    have c' := Int64.lt_iff_toInt_lt.mp c
    omega
  · rw [if_neg c]
    have c' : ¬ (0 : Int64).toInt < (Int32.toInt64 r - Int32.toInt64 v).toInt := fun w => c (Int64.lt_iff_toInt_lt.mpr w)
    have n : (-(Int32.toInt64 r - Int32.toInt64 v)).toInt = -(r.toInt - v.toInt) := by
      rw [Int64.toInt_neg, s, Int.bmod_eq_of_le (by omega) (by omega)]
    rw [n]
    omega
/-- the first night that a story misses -/
def isFal (w shift : Nat → Int32) (p : Int32) (x m z : Nat) : Prop := x ≤ z ∧ z < m ∧ ¬ inTol (w z) (shift z) p ∧ ∀ i, x ≤ i → i < z → inTol (w i) (shift i) p
def noFal (w shift : Nat → Int32) (p : Int32) (x m : Nat) : Prop := ∀ i, x ≤ i → i < m → inTol (w i) (shift i) p
theorem fal_uni {w shift : Nat → Int32} {p : Int32} {x m z z' : Nat} (h : isFal w shift p x m z) (h' : isFal w shift p x m z') : z = z' := by
  obtain ⟨h1, h2, h3, h4⟩ := h
  obtain ⟨g1, g2, g3, g4⟩ := h'
  rcases Nat.lt_trichotomy z z' with c | c | c
  · exact absurd (g4 z h1 c) h3
  · exact c
  · exact absurd (h4 z' g1 c) g3
theorem fal_no {w shift : Nat → Int32} {p : Int32} {x m z : Nat} (h : isFal w shift p x m z) (h' : noFal w shift p x m) : False := h.2.2.1 (h' z h.1 h.2.1)
section FL
variable {v : kTv} {days shift code ca cf ct sf w : Nat → Int32} {k m : Nat} {p : Int32}
theorem fall_L (hm : m ≤ 30) (hp : 0 ≤ p.toInt) (hw : ∀ x, x < 30 → ∀ Lt vals : Nat → Int32, LtN Lt → ∃ Lt' vals' : Nat → Int32, f_X2_shiftBy v.2.1.1 v.2.2.2.1 v.2.2.1.1 v.2.1.2 v.2.2.2.2 v.2.2.1.2 days Lt vals (nI x) = some (w x, Lt', vals') ∧ LtN Lt') :
    ∀ (r x n : Nat) (Lt vals : Nat → Int32), x + r = m → LtN Lt → Sf (f_X2_fallOf_L2 (nI m) v.2.1.1 v.2.1.2 v.2.2.2.1 v.2.2.2.2 v.2.2.1.1 v.2.2.1.2 days shift p (n + r + 1) (nI x) Lt vals) (fun y => LtN y.2.1 ∧ ((∃ z, isFal w shift p x m z ∧ y.1 = nI z) ∨ (noFal w shift p x m ∧ y.1 = -2))) := by
  intro r
  induction r with
  | zero =>
    intro x n Lt vals h hL
    have hx : x = m := by omega
    subst hx
    rw [Nat.add_zero, f_X2_fallOf_L2, if_pos (nI_le (Nat.le_refl _) (by omega))]
    exact Sf_some ⟨hL, Or.inr ⟨fun i h1 h2 => absurd h1 (by omega), rfl⟩⟩
  | succ r ih =>
    intro x n Lt vals h hL
    obtain ⟨Lt', vals', e, hL'⟩ := hw x (by omega) Lt vals hL
    rw [show n + (r + 1) + 1 = (n + r + 1) + 1 by omega, f_X2_fallOf_L2, if_neg (nI_ge (by omega) (by omega)), e, cb3_o, rdI_o (jin_n (by omega) (by omega)), nI_clamp (by omega)]
    refine Sf_ite (fun g => ?_) (fun g => ?_)
    · have hf := (tolC hp).mp g
      rw [nmI_o, nI_1]
      refine Sf_mono (ih (x + 1) n Lt' vals' (by omega) hL') (fun y hy => ⟨hy.1, ?_⟩)
      rcases hy.2 with ⟨z, ⟨z1, z2, z3, z4⟩, hz⟩ | ⟨hn, hy⟩
      · refine Or.inl ⟨z, ⟨by omega, z2, z3, fun i i1 i2 => ?_⟩, hz⟩
        by_cases d : i = x
        · rw [d]; exact hf
        · exact z4 i (by omega) i2
      · refine Or.inr ⟨fun i i1 i2 => ?_, hy⟩
        by_cases d : i = x
        · rw [d]; exact hf
        · exact hn i (by omega) i2
    · exact Sf_some ⟨hL', Or.inl ⟨x, ⟨Nat.le_refl _, by omega, fun c => g ((tolC hp).mpr c), fun i i1 i2 => absurd i1 (by omega)⟩, rfl⟩⟩
theorem falls_L (hm : m ≤ 30) (hp : 0 ≤ p.toInt) (hw : ∀ x, x < 30 → ∀ (a1 a2 a3 a4 a5 a6 a7 a8 a9 a10 a11 a12 a13 : Int32) (rf wo : Nat → Int32), ∃ z : R15, saysF a1 a2 a3 a4 a5 a6 a7 a8 a9 a10 a11 a12 a13 code ca cf rf days sf wo k x = some (w x, z)) :
    ∀ (r x n : Nat) (a1 a2 a3 a4 a5 a6 a7 a8 a9 a10 a11 a12 a13 : Int32) (rf wo : Nat → Int32), x + r = m → Sf (f_X12_fallsAt_L2 (nI m) code ca cf shift days sf (nI k) p (n + r + 1) (nI x) a1 a2 a3 a4 a5 a6 a7 a8 a9 a10 a11 a12 a13 rf wo) (fun y => (∃ z, isFal w shift p x m z ∧ y.1 = nI z) ∨ (noFal w shift p x m ∧ y.1 = nI m)) := by
  intro r
  induction r with
  | zero =>
    intro x n a1 a2 a3 a4 a5 a6 a7 a8 a9 a10 a11 a12 a13 rf wo h
    have hx : x = m := by omega
    subst hx
    rw [Nat.add_zero, f_X12_fallsAt_L2, if_pos (nI_le (Nat.le_refl _) (by omega))]
    exact Sf_some (Or.inr ⟨fun i h1 h2 => absurd h1 (by omega), rfl⟩)
  | succ r ih =>
    intro x n a1 a2 a3 a4 a5 a6 a7 a8 a9 a10 a11 a12 a13 rf wo h
    obtain ⟨z, e⟩ := hw x (by omega) a1 a2 a3 a4 a5 a6 a7 a8 a9 a10 a11 a12 a13 rf wo
    obtain ⟨z1, z2, z3, z4, z5, z6, z7, z8, z9, z10, z11, z12, z13, z14, z15⟩ := z
    have e : f_X12_saysOf a1 a2 a3 a4 a5 a6 a7 a8 a9 a10 a11 a12 a13 code ca cf rf days sf wo (nI k) (nI x) = some (w x, z1, z2, z3, z4, z5, z6, z7, z8, z9, z10, z11, z12, z13, z14, z15) := e
    rw [show n + (r + 1) + 1 = (n + r + 1) + 1 by omega, f_X12_fallsAt_L2, if_neg (nI_ge (by omega) (by omega)), e, cb16_o, rdI_o (jin_n (by omega) (by omega)), nI_clamp (by omega), tolR hp, cb1_o]
    refine Sf_ite (fun g => ?_) (fun g => ?_)
    · rw [bI_0] at g
      exact Sf_some (Or.inl ⟨x, ⟨Nat.le_refl _, by omega, g, fun i i1 i2 => absurd i1 (by omega)⟩, rfl⟩)
    · rw [bI_0] at g
      have hf := Classical.not_not.mp g
      rw [nmI_o, nI_1]
      refine Sf_mono (ih (x + 1) n z1 z2 z3 z4 z5 z6 z7 z8 z9 z10 z11 z12 z13 z14 z15 (by omega)) (fun y hy => ?_)
      rcases hy with ⟨z, ⟨z1, z2, z3, z4⟩, hz⟩ | ⟨hn, hy⟩
      · refine Or.inl ⟨z, ⟨by omega, z2, z3, fun i i1 i2 => ?_⟩, hz⟩
        by_cases d : i = x
        · rw [d]; exact hf
        · exact z4 i (by omega) i2
      · refine Or.inr ⟨fun i i1 i2 => ?_, hy⟩
        by_cases d : i = x
        · rw [d]; exact hf
        · exact hn i (by omega) i2
/-- both: the same night, or none -/
theorem falls_both (hT : TXE v code ca cf ct sf (14 + k) 1) (hk : k < 6) (hm : m ≤ 30) (hp : 0 ≤ p.toInt) : ∃ t : Option Nat, (∀ z, t = some z → z < m) ∧
    (∀ Lt vals : Nat → Int32, LtN Lt → Sf (f_X2_fallOf v.2.1.1 v.2.2.2.1 v.2.2.1.1 (nI m) v.2.1.2 v.2.2.2.2 v.2.2.1.2 days shift Lt vals p) (fun y => LtN y.2.1 ∧ y.1 = (match t with | some z => nI z | none => -2))) ∧
    (∀ (a1 a2 a3 a4 a5 a6 a7 a8 a9 a10 a11 a12 a13 : Int32) (rf wo : Nat → Int32), Sf (f_X12_fallsAt (nI m) a1 a2 a3 a4 a5 a6 a7 a8 a9 a10 a11 a12 a13 code ca cf shift rf days sf wo (nI k) p) (fun y => y.1 = (match t with | some z => nI z | none => nI m))) := by
  obtain ⟨w, hw⟩ := tale_eval hT hk days
  obtain ⟨n, hn⟩ : ∃ n, FU = n + m + 1 := ⟨FU - m - 1, by have := FU_ge; omega⟩
  have hC := fall_L (v := v) (days := days) (shift := shift) (w := w) hm hp (fun x hx => (hw x hx).1) m 0 n
  have hR := falls_L (code := code) (ca := ca) (cf := cf) (sf := sf) (days := days) (shift := shift) (w := w) (k := k) hm hp (fun x hx => (hw x hx).2) m 0 n
  rw [← hn, nI_0] at hC hR
  by_cases c : noFal w shift p 0 m
  · refine ⟨none, fun z hz => (by cases hz), fun Lt vals hL => ?_, fun a1 a2 a3 a4 a5 a6 a7 a8 a9 a10 a11 a12 a13 rf wo => ?_⟩
    · rw [f_X2_fallOf]
      refine Sf_mono (hC Lt vals (by omega) hL) (fun y hy => ⟨hy.1, ?_⟩)
      rcases hy.2 with ⟨z, hz, -⟩ | ⟨-, h⟩
      · exact absurd (fal_no hz c) (fun w => w)
      · exact h
    · rw [f_X12_fallsAt]
      refine Sf_mono (hR a1 a2 a3 a4 a5 a6 a7 a8 a9 a10 a11 a12 a13 rf wo (by omega)) (fun y hy => ?_)
      rcases hy with ⟨z, hz, -⟩ | ⟨-, h⟩
      · exact absurd (fal_no hz c) (fun w => w)
      · exact h
  · obtain ⟨z0', hz0⟩ : ∃ z, isFal w shift p 0 m z := by
      obtain ⟨y, -, hy⟩ := hR 0 0 0 0 0 0 0 0 0 0 0 0 0 days days (by omega)
      rcases hy with ⟨z, hz, -⟩ | ⟨h, -⟩
      · exact ⟨z, hz⟩
      · exact absurd h c
    refine ⟨some z0', fun z hz => by cases hz; exact hz0.2.1, fun Lt vals hL => ?_, fun a1 a2 a3 a4 a5 a6 a7 a8 a9 a10 a11 a12 a13 rf wo => ?_⟩
    · rw [f_X2_fallOf]
      refine Sf_mono (hC Lt vals (by omega) hL) (fun y hy => ⟨hy.1, ?_⟩)
      rcases hy.2 with ⟨z, hz, h⟩ | ⟨h, -⟩
      · rw [h, fal_uni hz hz0]
      · exact absurd h c
    · rw [f_X12_fallsAt]
      refine Sf_mono (hR a1 a2 a3 a4 a5 a6 a7 a8 a9 a10 a11 a12 a13 rf wo (by omega)) (fun y hy => ?_)
      rcases hy with ⟨z, hz, h⟩ | ⟨h, -⟩
      · rw [h, fal_uni hz hz0]
      · exact absurd h c
end FL
section FS
variable {G : kG} {days shift code ca cf ct sf many rf wo Lt vals : Nat → Int32} {ni y1 y2 a1 a2 a3 a4 a5 a6 a7 a8 a9 a10 a11 a12 a13 : Int32}
set_option maxHeartbeats 4000000 in
theorem falls_sim (hT : TX G code ca cf ct sf many) (h0 : 0 ≤ ni.toInt) (h1 : ni.toInt ≤ 30) (hL : LtN Lt) :
    Sf (f_X11_falls G ni days shift Lt vals y1 y2) (fun y => LtN y.2.1 ∧ Sf (f_X12_falls ni a1 a2 a3 a4 a5 a6 a7 a8 a9 a10 a11 a12 a13 code ca cf shift rf many days sf wo y1 y2) (fun z => y.1 = z.1)) := by
  rw [f_X11_falls]
  rcases storyAt_n (G := G) (many := many) (y1 := y1) with ⟨k, hk, hy, e⟩ | ⟨e, e2⟩
  · subst hy
    rw [e, cb1_o]
    rcases told_n hT hk with ⟨g1, g2⟩ | ⟨x, g1, g2, g3⟩
    · refine Sf_oT (fun i hi => by cases hi; omega) (fun _ => Sf_some ⟨hL, ?_⟩) (fun i t hi _ ht => ?_)
      · rw [f_X12_falls, g2, cb1_o, if_pos rfl]; exact Sf_some rfl
      · cases hi; rw [g1] at ht; cases ht
    · refine Sf_oT (fun i hi => by cases hi; omega) (fun h => ?_) (fun i t hi _ ht => ?_)
      · exfalso
        rcases h with h | ⟨i, hi, hn⟩
        · cases h
        · cases hi; rw [g1] at hn; cases hn
      · cases hi
        rw [g1] at ht
        cases ht
        obtain ⟨r, e3, e4, hr⟩ := err_n (y2 := y2)
        rw [e3, cb1_o]
        refine Sf_ite (fun g => Sf_some ⟨hL, ?_⟩) (fun g => ?_)
        · rw [f_X12_falls, g2, cb1_o, if_neg (by decide), e4, cb1_o, if_pos g]; exact Sf_some rfl
        · have hr := hr.resolve_right g
          have ht := tN ni h0
          have hni : ni = nI ni.toNatClampNeg := i32_eq (by rw [nI_toInt (by omega)]; omega)
          generalize ni.toNatClampNeg = m at *
          subst hni
          obtain ⟨t, ht2, hC, hR⟩ := falls_both (days := days) (shift := shift) (m := m) (p := y2) g3 hk (by omega) hr.2.1
          refine Sf_cb3 (hC Lt vals hL) (fun b1 b2 b3 hb => Sf_some ⟨hb.1, ?_⟩)
          rw [f_X12_falls, g2, cb1_o, if_neg (by decide), e4, cb1_o, if_neg g]
          refine Sf_cb16 (hR a1 a2 a3 a4 a5 a6 a7 a8 a9 a10 a11 a12 a13 rf wo) (fun c1 c2 c3 c4 c5 c6 c7 c8 c9 c10 c11 c12 c13 c14 c15 c16 hc => ?_)
          have hb2 := hb.2
          cases t with
          | none =>
            have hc : c1 = nI m := hc
            have hb2 : b1 = -2 := hb2
            rw [if_pos hc]
            exact Sf_some hb2
          | some z =>
            have hc : c1 = nI z := hc
            have hb2 : b1 = nI z := hb2
            have hz := ht2 z rfl
            rw [if_neg (fun w => by rw [hc] at w; have := (nI_eq (by omega) (by omega)).mp w; omega)]
            exact Sf_some (hb2.trans hc.symm)
  · rw [e, cb1_o]
    refine Sf_oT (fun i hi => by cases hi) (fun _ => Sf_some ⟨hL, ?_⟩) (fun i t hi _ ht => by cases hi)
    rw [f_X12_falls, e2, cb1_o, if_pos rfl]; exact Sf_some rfl
end FS
