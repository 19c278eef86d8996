/-! stories, on both sides -/
def LtN (L : Nat → Int32) : Prop := L 97 = 0 ∧ L 98 = 0 ∧ L 102 = 0 ∧ L 103 = 0 ∧ L 104 = 0 ∧ L 108 = 0 ∧ L 109 = 0 ∧ L 115 = 0 ∧ L 116 = 0 ∧ L 117 = 0 ∧ L 120 = 0
theorem LtN_upd {L : Nat → Int32} {i : Nat} {x : Int32} (h : LtN L) (hi : i = 100 ∨ i = 110) : LtN (upd L i x) := by
  obtain ⟨h1, h2, h3, h4, h5, h6, h7, h8, h9, h10, h11⟩ := h
  refine ⟨?_, ?_, ?_, ?_, ?_, ?_, ?_, ?_, ?_, ?_, ?_⟩ <;> (rw [upd_n (by omega)]; assumption)
abbrev R15 : Type := Int32 × Int32 × Int32 × Int32 × Int32 × Int32 × Int32 × Int32 × Int32 × Int32 × Int32 × Int32 × Int32 × (Nat → Int32) × (Nat → Int32)
noncomputable abbrev saysF (a1 a2 a3 a4 a5 a6 a7 a8 a9 a10 a11 a12 a13 : Int32) (code ca cf rf days sf wo : Nat → Int32) (k x : Nat) : Option R16 := f_X12_saysOf a1 a2 a3 a4 a5 a6 a7 a8 a9 a10 a11 a12 a13 code ca cf rf days sf wo (nI k) (nI x)
theorem tale_eval {v : kTv} {code ca cf ct sf : Nat → Int32} {k c : Nat} (hT : TXE v code ca cf ct sf (14 + k) c) (hk : k < 6) (days : Nat → Int32) : ∃ w : Nat → Int32, ∀ x, x < 30 → (∀ Lt vals : Nat → Int32, LtN Lt → ∃ Lt' vals' : Nat → Int32, f_X2_shiftBy v.2.1.1 v.2.2.2.1 v.2.2.1.1 v.2.1.2 v.2.2.2.2 v.2.2.1.2 days Lt vals (nI x) = some (w x, Lt', vals') ∧ LtN Lt') ∧ (∀ (a1 a2 a3 a4 a5 a6 a7 a8 a9 a10 a11 a12 a13 : Int32) (rf wo : Nat → Int32), ∃ z : R15, saysF a1 a2 a3 a4 a5 a6 a7 a8 a9 a10 a11 a12 a13 code ca cf rf days sf wo k x = some (w x, z)) := by
  obtain ⟨t1, t2, L, t3, t4, t5, t6, t7, t8, t9, t10, t11, t12, f, fC, fR⟩ := hT
  refine ⟨fun x => sV f (fun c => vO (qv 0 0 (days x) 0 0 0 0 0 (nI x) 0 0 0 0) c), fun x hx => ⟨fun Lt vals hL => ?_, fun a1 a2 a3 a4 a5 a6 a7 a8 a9 a10 a11 a12 a13 rf wo => ?_⟩⟩
  · have hL' : LtN (upd (upd Lt 100 (days x)) 110 (nI x)) := LtN_upd (LtN_upd hL (by omega)) (by omega)
    have hV : ∀ c, valB c = true → vO (qv 0 0 (days x) 0 0 0 0 0 (nI x) 0 0 0 0) c = (upd (upd Lt 100 (days x)) 110 (nI x)) c.toNatClampNeg := by
      obtain ⟨k1, k2', k3, k4, k5, k6, k7, k8, k9, k10, k11⟩ := hL'
      refine V_all (V := fun c => (upd (upd Lt 100 (days x)) 110 (nI x)) c.toNatClampNeg) ⟨k1, k2', ?_, k3, k4, k5, k6, k7, ?_, k8, k9, k10, k11⟩ <;> rfl
    obtain ⟨vals', e⟩ := reck_n (vals := vals) (Lt := upd (upd Lt 100 (days x)) 110 (nI x)) (V := fun c => vO (qv 0 0 (days x) 0 0 0 0 0 (nI x) 0 0 0 0) c) fC (show 0 + L ≤ v.2.1.1 by omega) (by omega) (fun c hc => (hV c hc).symm)
    refine ⟨_, vals', ?_, hL'⟩
    have e : f_X5_reckon v.2.1.1 v.2.1.2 (upd (upd Lt 100 (days x)) 110 (nI x)) vals (v.2.2.1.2 0) (v.2.2.2.2 0) = some (sV f (fun c => vO (qv 0 0 (days x) 0 0 0 0 0 (nI x) 0 0 0 0) c), vals') := by
      rw [t7, t8]; rw [Nat.zero_add] at e; exact e
    have j1 : jin 0 v.2.2.2.1 = true := by rw [t6]; decide
    have j2 : jin 0 v.2.2.1.1 = true := by rw [t5]; decide
    rw [f_X2_shiftBy, rdI_o (jin_n (by omega) (by omega)), nI_clamp (by omega), wrI_o (by decide), wrI_o (by decide), show (100 : Int32).toNatClampNeg = 100 by decide, show (110 : Int32).toNatClampNeg = 110 by decide, f_X5_worth, rdI_o j2, rdI_o j1, show (0 : Int32).toNatClampNeg = 0 by decide, e, cb2_o, cb2_o]
  · obtain ⟨rf', wo', e⟩ := sum_n (x := 0) (rf := rf) (wo := wo) (q := qv 0 0 (days x) 0 0 0 0 0 (nI x) 0 0 0 0) (V := fun c => vO (qv 0 0 (days x) 0 0 0 0 0 (nI x) 0 0 0 0) c) (cf := cf) (sf := sf) fR (by omega) (by omega) (by omega) (by rw [Nat.add_zero, Nat.add_zero]; exact t10) (by rw [Nat.add_zero, Nat.zero_add]; exact t11) (fun _ _ => rfl)
    have e : f_X12_sumOf 0 0 (days x) 0 0 0 0 0 (nI x) 0 0 0 0 code ca cf rf sf wo (nI (12 * (14 + k))) = some (sV f (fun c => vO (qv 0 0 (days x) 0 0 0 0 0 (nI x) 0 0 0 0) c), rf', wo') := e
    have c2 : (12 : Int32) * (14 + nI k) = nI (12 * (14 + k)) := by rw [show (14 : Int32) = nI 14 from rfl, show (12 : Int32) = nI 12 from rfl, nI_add, pk_mul]
    refine ⟨(0, 0, days x, 0, 0, 0, 0, 0, nI x, 0, 0, 0, 0, rf', wo'), ?_⟩
    unfold saysF
    rw [f_X12_saysOf, f_X12_clears, cb13_o, rdI_o (jin_n (by omega) (by omega)), nI_clamp (by omega), c2, e, cb3_o]
/-- is a story told -/
theorem told_n {G : kG} {code ca cf ct sf many : Nat → Int32} {k : Nat} (hT : TX G code ca cf ct sf many) (hk : k < 6) : (G.2 (14 + k) = none ∧ f_X12_isTold many (nI k) = some 0) ∨ (∃ x : kTx, G.2 (14 + k) = some x ∧ f_X12_isTold many (nI k) = some 1 ∧ TXE x.2 code ca cf ct sf (14 + k) 1) := by
  have h14 : (14 : Int32) + nI k = nI (14 + k) := by rw [show (14 : Int32) = nI 14 from rfl, nI_add]
  have ht : f_X12_isTale (nI k) = some 1 := by
    obtain ⟨y, e, h⟩ := s_X12_isTale (nI k)
    have tk : (nI k).toInt = (k : Int) := nI_toInt (by omega)
    have l1 : (1 : Int32).toInt = 1 := by decide
    rw [e, show y = 1 from i32_eq (by omega)]
  have hi : f_X12_isTold many (nI k) = if many (14 + k) ≤ 0 then some 0 else some 1 := by
    rw [f_X12_isTold, ht, cb1_o, if_neg (by decide), h14, rdI_o (jin_n (by omega) (by omega)), nI_clamp (by omega)]
  rcases hT (14 + k) (by omega) with ⟨g1, g2⟩ | ⟨x, c, g1, g2, g3⟩
  · exact Or.inl ⟨g1, by rw [hi, g2, if_pos (by decide)]⟩
  · rcases g3 with g | g | ⟨-, g⟩
    · exact absurd g.1 (by omega)
    · exact absurd g.2.1 (by omega)
    · have e := g.2.1
      subst e
      exact Or.inr ⟨x, g1, by rw [hi, g2, if_neg (by decide)], g⟩
section NT
variable {G : kG} {days code ca cf ct sf many rf wo Lt vals : Nat → Int32} {ni y1 y2 a1 a2 a3 a4 a5 a6 a7 a8 a9 a10 a11 a12 a13 : Int32}
theorem night_n (h0 : 0 ≤ ni.toInt) (h1 : ni.toInt ≤ 30) : ∃ r : Int32, f_X11_isWithin y2 0 (ni - 1) = some r ∧ f_X12_isNight ni y2 = some r ∧ ((r = 1 ∧ 0 ≤ y2.toInt ∧ y2.toInt < ni.toInt) ∨ r = 0) := by
  have l0 : (0 : Int32).toInt = 0 := by decide
  have l1 : (1 : Int32).toInt = 1 := by decide
  have s1 := sbX ni 1 (by omega) (by omega)
  obtain ⟨r, e, h⟩ := s_X11_isWithin y2 0 (ni - 1)
  have h := h.2
  have e2 : f_X12_isNight ni y2 = some (bI ((0 : Int64).toInt ≤ (Int32.toInt64 y2).toInt ∧ (Int32.toInt64 y2).toInt ≤ (Int32.toInt64 (ni - 1)).toInt)) := by
    rw [f_X12_isNight, L_iff, cb1_o]
    unfold bo bI
    split
    · rw [if_pos (Or.inr rfl)]
    · rw [if_pos (Or.inl rfl)]
  rw [t64, t64, i64_0] at e2
  rcases h with ⟨a, b, c⟩ | ⟨a, b⟩
  · have : r = 1 := i32_eq (by omega)
    subst this
    refine ⟨1, e, ?_, Or.inl ⟨rfl, by omega, by omega⟩⟩
    rw [e2]; unfold bI; rw [if_pos ⟨by omega, by omega⟩]
  · have : r = 0 := i32_eq (by omega)
    subst this
    refine ⟨0, e, ?_, Or.inr rfl⟩
    rw [e2]; unfold bI; rw [if_neg (fun w => by omega)]
theorem err_n : ∃ r : Int32, f_X11_isNightError y2 = some r ∧ f_X12_isError y2 = some r ∧ ((r = 1 ∧ 0 ≤ y2.toInt ∧ y2.toInt ≤ 100000) ∨ r = 0) := by
  have l0 : (0 : Int32).toInt = 0 := by decide
  have l1 : (1 : Int32).toInt = 1 := by decide
  have lh : (100000 : Int32).toInt = 100000 := by decide
  have lH : (100000 : Int64).toInt = 100000 := by decide
  obtain ⟨r, e, h⟩ := s_X11_isWithin y2 0 100000
  have h := h.2
  have e1 : f_X11_isNightError y2 = bo r (some r) := by rw [f_X11_isNightError, e, cb1_o]
  have e2 : f_X12_isError y2 = some (bI ((0 : Int64).toInt ≤ (Int32.toInt64 y2).toInt ∧ (Int32.toInt64 y2).toInt ≤ (100000 : Int64).toInt)) := by
    rw [f_X12_isError, L_iff, cb1_o]
    unfold bo bI
    split
    · rw [if_pos (Or.inr rfl)]
    · rw [if_pos (Or.inl rfl)]
  rw [t64, i64_0, lH] at e2
  rcases h with ⟨a, b, c⟩ | ⟨a, b⟩
  · have : r = 1 := i32_eq (by omega)
    subst this
    refine ⟨1, by rw [e1]; unfold bo; rw [if_pos (Or.inr rfl)], ?_, Or.inl ⟨rfl, by omega, by omega⟩⟩
    rw [e2]; unfold bI; rw [if_pos ⟨by omega, by omega⟩]
  · have : r = 0 := i32_eq (by omega)
    subst this
    refine ⟨0, by rw [e1]; unfold bo; rw [if_pos (Or.inl rfl)], ?_, Or.inr rfl⟩
    rw [e2]; unfold bI; rw [if_neg (fun w => by omega)]
theorem storyAt_n : (∃ k : Nat, k < 6 ∧ y1 = nI k ∧ f_X2_storyAt G y1 = some (some (14 + k))) ∨ (f_X2_storyAt G y1 = some none ∧ f_X12_isTold many y1 = some 0) := by
  have l0 : (0 : Int32).toInt = 0 := by decide
  obtain ⟨r, e, h⟩ := s_X11_isStory y1
  have h := h.2
  rcases h with ⟨a, b, c⟩ | ⟨a, b⟩
  · have t := tN y1 b
    refine Or.inl ⟨y1.toNatClampNeg, by omega, i32_eq (by rw [nI_toInt (by omega)]; omega), ?_⟩
    rw [f_X2_storyAt, e, cb1_o, if_neg (fun w => by have := eqI w; omega)]
    have hy : y1 = nI y1.toNatClampNeg := i32_eq (by rw [nI_toInt (by omega)]; omega)
    have j : jin y1 6 = true := by rw [hy]; exact jin_n (by omega) (by omega)
    rw [gdN_o j]
  · refine Or.inr ⟨?_, ?_⟩
    · rw [f_X2_storyAt, e, cb1_o, if_pos (i32_eq (by omega))]
    · obtain ⟨q, e2, h2⟩ := s_X12_isTale y1
      have h2 := h2.2
      rw [f_X12_isTold, e2, cb1_o, if_pos (i32_eq (by omega))]
set_option maxHeartbeats 4000000 in
theorem says_sim (hT : TX G code ca cf ct sf many) (h0 : 0 ≤ ni.toInt) (h1 : ni.toInt ≤ 30) (hL : LtN Lt) :
    Sf (f_X11_says G ni days Lt vals y1 y2) (fun y => LtN y.2.1 ∧ Sf (f_X12_says ni a1 a2 a3 a4 a5 a6 a7 a8 a9 a10 a11 a12 a13 code ca cf rf many days sf wo y1 y2) (fun z => y.1 = z.1)) := by
  rw [f_X11_says]
  rcases storyAt_n (G := G) (many := many) (y1 := y1) with ⟨k, hk, hy, e⟩ | ⟨e, e2⟩
  · subst hy
    rw [e, cb1_o]
    rcases told_n hT hk with ⟨g1, g2⟩ | ⟨x, g1, g2, g3⟩
    · refine Sf_oT (fun i hi => by cases hi; omega) (fun _ => Sf_some ⟨hL, ?_⟩) (fun i t hi _ ht => ?_)
      · rw [f_X12_says, g2, cb1_o, if_pos rfl]; exact Sf_some rfl
      · cases hi; rw [g1] at ht; cases ht
    · refine Sf_oT (fun i hi => by cases hi; omega) (fun h => ?_) (fun i t hi _ ht => ?_)
      · exfalso
        rcases h with h | ⟨i, hi, hn⟩
        · cases h
        · cases hi; rw [g1] at hn; cases hn
      · cases hi
        rw [g1] at ht
        cases ht
        obtain ⟨r, e3, e4, hr⟩ := night_n (y2 := y2) h0 h1
        rw [e3, cb1_o]
        refine Sf_ite (fun g => Sf_some ⟨hL, ?_⟩) (fun g => ?_)
        · rw [f_X12_says, g2, cb1_o, if_neg (by decide), e4, cb1_o, if_pos g]; exact Sf_some rfl
        · have hr := hr.resolve_right g
          have ht := tN y2 hr.2.1
          have hy2 : y2 = nI y2.toNatClampNeg := i32_eq (by rw [nI_toInt (by omega)]; omega)
          generalize y2.toNatClampNeg = n at *
          subst hy2
          obtain ⟨w, hw⟩ := tale_eval g3 hk days
          obtain ⟨hw1, hw2⟩ := hw n (by omega)
          obtain ⟨Lt', vals', e5, hL'⟩ := hw1 Lt vals hL
          obtain ⟨z, e6⟩ := hw2 a1 a2 a3 a4 a5 a6 a7 a8 a9 a10 a11 a12 a13 rf wo
          obtain ⟨z1, z2, z3, z4, z5, z6, z7, z8, z9, z10, z11, z12, z13, z14, z15⟩ := z
          have e6 : f_X12_saysOf a1 a2 a3 a4 a5 a6 a7 a8 a9 a10 a11 a12 a13 code ca cf rf days sf wo (nI k) (nI n) = some (w n, z1, z2, z3, z4, z5, z6, z7, z8, z9, z10, z11, z12, z13, z14, z15) := e6
          rw [e5, cb3_o]
          refine Sf_some ⟨hL', ?_⟩
          rw [f_X12_says, g2, cb1_o, if_neg (by decide), e4, cb1_o, if_neg g, e6, cb16_o]
          exact Sf_some rfl
  · rw [e, cb1_o]
    refine Sf_oT (fun i hi => by cases hi) (fun _ => Sf_some ⟨hL, ?_⟩) (fun i t hi _ ht => by cases hi)
    rw [f_X12_says, e2, cb1_o, if_pos rfl]; exact Sf_some rfl
end NT
