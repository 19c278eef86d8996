theorem shape_2 (y : Int32) : ∃ r : Int32, f_X11_isShape y = some r ∧ f_X12_isShape y = some r ∧ (r = 0 ∨ r = 1) := by
  obtain ⟨a, q1, h1⟩ := s_X11_isShape y
  obtain ⟨b, q2, h2⟩ := s_X12_isShape y
  have h1 := h1.2
  have h2 := h2.2
  have e : a = b := i32_eq (by omega)
  refine ⟨a, q1, by rw [q2, e], ?_⟩
  rcases h1 with h | h
  · exact Or.inr (i32_eq (h.1.trans (by decide)))
  · exact Or.inl (i32_eq (h.1.trans (by decide)))
theorem arcw_2 (y : Int32) : ∃ r : Int32, f_X11_isWithin y 0 700 = some r ∧ f_X12_isWithin y = some r ∧ isB r (0 ≤ y.toInt ∧ y.toInt ≤ 700) := by
  have z : (0 : Int32).toInt = 0 := by decide
  have z7 : (700 : Int32).toInt = 700 := by decide
  obtain ⟨a, q1, h1⟩ := s_X11_isWithin y 0 700
  obtain ⟨b, q2, h2⟩ := s_X12_isWithin y
  have h1 := h1.2
  have h2 := h2.2
  have e : a = b := i32_eq (by omega)
  exact ⟨a, q1, by rw [q2, e], isB_mk (by omega)⟩
theorem pe_12 {no y1 y2 rx rm : Int32} {D M S g g' : Nat → Int32} (ex : f_X11_one no D g M S y1 y2 = some (rx, g')) (em : f_X12_one no D M S y1 y2 = some rm) (h1 : 0 ≤ no.toInt) (h2 : no.toInt ≤ 40) (hB : nBd D M) : rx = rm := by
  have o : (1 : Int32).toInt = 1 := by decide
  obtain ⟨r, q1, q2, hr⟩ := shape_2 y1
  obtain ⟨r2, q3, q4, hr2⟩ := arcw_2 y2
  rw [f_X11_one, q1, cb1_o, q3] at ex
  rw [f_X12_one, q2, cb1_o, q4] at em
  by_cases c : r = 0
  · rw [if_pos c] at ex em
    cases ex; cases em; rfl
  · rw [if_neg c, cb1_o] at ex em
    by_cases d : r2 = 0
    · rw [if_pos d] at ex em
      cases ex; cases em; rfl
    · rw [if_neg d] at ex em
      obtain ⟨⟨u, gu⟩, q5, hu⟩ := oneBy_e (g := g) (S := S) (s := y1) (w := y2) (d := 400) h1 h2 hB
      obtain ⟨m, q6, hm⟩ := manyOf_e (D := D) (S := S) (s := y1) (d := 400) h1 h2
      obtain ⟨v, q7, hv⟩ := oneBits_e (S := S) (s := y1) (w := y2) (d := 400) h1 h2 hB
      have hu : onQ D M S y1 400 y2 no.toNatClampNeg u := hu
      rw [q5, cb2_o] at ex
      rw [q6, cb1_o, q7, cb1_o] at em
      by_cases k : m ≤ 1
      · rw [if_pos k] at em
        have k := leI k
        have hu2 := hu.resolve_left (fun w => by have := w.1; omega)
        cases ex; cases em; exact hu2.2
      · rw [if_neg k] at em
        have k := nleI k
        have hu2 := hu.resolve_right (fun w => by have := w.1; omega)
        cases ex; cases em; exact bitP_eq hu2.2 hv
theorem known_2 {no s w : Int32} {D M S : Nat → Int32} (h1 : 0 ≤ no.toInt) (h2 : no.toInt ≤ 40) (hB : nBd D M) : ∀ (n : Nat) (x : Int32) (g : Nat → Int32), 0 ≤ x.toInt → x.toInt ≤ 40 → 41 - x.toInt < (n : Int) → ∃ (r : Int32) (g' : Nat → Int32), f_X3_knownDay_L2 no D M S s w n x g = some (r, g') ∧ f_X12_known_L18 no D M S s w n x = some r := by
  have o : (2 : Int32).toInt = 2 := by decide
  intro n
  induction n with
  | zero => intro x g a1 a2 hm; exact absurd hm (by omega)
  | succ n ih =>
    intro x g a1 a2 hme
    rw [f_X3_knownDay_L2, f_X12_known_L18]
    by_cases c : no ≤ x
    · rw [if_pos c, if_pos c]
      exact ⟨-1, g, rfl, rfl⟩
    · have c1 := nleI c
      have jl : jin x 40 = true := jin_of a1 (by omega)
      have e1 := adN x 1 1 (by decide) (by omega) (by omega)
      rw [if_neg c, if_neg c, rdI_o (f := S) jl, rdI_o (f := S) jl]
      by_cases d : S x.toNatClampNeg = s
      · rw [if_pos d, if_pos d, rdI_o jl, rdI_o jl]
        obtain ⟨⟨u, gu⟩, q5, hu⟩ := oneBy_e (g := g) (S := S) (s := s) (w := w) (d := D x.toNatClampNeg) h1 h2 hB
        obtain ⟨m, q6, hm⟩ := manyOf_e (D := D) (S := S) (s := s) (d := D x.toNatClampNeg) h1 h2
        obtain ⟨v, q7, hv⟩ := oneBits_e (S := S) (s := s) (w := w) (d := D x.toNatClampNeg) h1 h2 hB
        have hu : onQ D M S s (D x.toNatClampNeg) w no.toNatClampNeg u := hu
        rw [q5, cb2_o, q6, cb1_o]
        have next := ih (x + 1) gu (by omega) (by omega) (by omega)
        by_cases k : 2 ≤ m
        · have k1 := leI k
          have hu := hu.resolve_right (fun w => by have := w.1; omega)
          have euv : u = v := bitP_eq hu.2 hv
          rw [if_pos k]
          simp only [rdI_o jl, q7, cb1_o]
          rw [← euv]
          by_cases f : u = 1
          · rw [if_pos f, if_pos f]
            exact ⟨_, _, rfl, rfl⟩
          · rw [if_neg f, if_neg f]
            by_cases f2 : u = 2
            · rw [if_pos f2, if_pos f2]
              exact ⟨_, _, rfl, rfl⟩
            · rw [if_neg f2, if_neg f2]
              exact next
        · have k1 := nleI k
          have hu := hu.resolve_left (fun w => by have := w.1; omega)
          rw [if_neg k, if_neg (by rw [hu.2]; decide), if_neg (by rw [hu.2]; decide)]
          exact next
      · rw [if_neg d, if_neg d]
        exact ih (x + 1) g (by omega) (by omega) (by omega)
theorem pe_13 {no y1 y2 rx rm : Int32} {D M S g g' : Nat → Int32} (ex : f_X11_known no D g M S y1 y2 = some (rx, g')) (em : f_X12_known no D M S y1 y2 = some rm) (h1 : 0 ≤ no.toInt) (h2 : no.toInt ≤ 40) (hB : nBd D M) : rx = rm := by
  have hFU : (100000 : Int) ≤ (FU : Int) := Int.ofNat_le.mpr FU_ge
  have z : (0 : Int32).toInt = 0 := by decide
  obtain ⟨r, q1, q2, hr⟩ := shape_2 y1
  obtain ⟨r2, q3, q4, hr2⟩ := arcw_2 y2
  rw [f_X11_known, q1, cb1_o, q3] at ex
  rw [f_X12_known, q2, cb1_o, q4] at em
  by_cases c : r = 0
  · rw [if_pos c] at ex em
    cases ex; cases em; rfl
  · rw [if_neg c, cb1_o] at ex em
    by_cases d : r2 = 0
    · rw [if_pos d] at ex em
      cases ex; cases em; rfl
    · rw [if_neg d] at ex em
      obtain ⟨u, gu, q5, q6⟩ := known_2 (S := S) (s := y1) (w := y2) h1 h2 hB FU 0 g (by omega) (by omega) (by omega)
      rw [f_X3_knownDay, q5, cb2_o] at ex
      rw [q6] at em
      cases ex; cases em; rfl
/-! THE ROW -/
theorem floorMod_e (p : Int32) : Sf (f_J9_floorMod_7cf53 p 1440) (fun r => r.toInt = p.toInt % 1440) := by
  have z : (0 : Int32).toInt = 0 := by decide
  have c : (1440 : Int32).toInt = 1440 := by decide
  have gp := rgI p
  have hd := dv_ p 1440 1440 (by omega) c
  have h1 := ub p.toInt 1440 (by omega)
  have e : (jrem p 1440).toInt = p.toInt - p.toInt.tdiv 1440 * 1440 := by
    unfold jrem
    rw [Int32.toInt_sub, Int32.toInt_mul, hd, c, Int.sub_bmod_bmod]
    exact Int.bmod_eq_of_le (by omega) (by omega)
  rw [f_J9_floorMod_7cf53]
  refine Sf_dvI (by omega) (Sf_nmI (fun v hv => ?_))
  have q := (eqI hv).trans e
  have a := xo_ p 1440 (by omega)
  obtain ⟨t, ht⟩ : ∃ t, t = p.toInt.tdiv 1440 := ⟨_, rfl⟩
  rw [← ht] at q h1
  refine Sf_ite (fun g => Sf_some ?_) (fun g => Sf_ite (fun g2 => Sf_some ?_) (fun g2 => Sf_some ?_))
  · have g := leI g
    show v.toInt = _
    omega
  · have g := nleI g
    have g2 := eqI g2
    show v.toInt = _
    omega
  · have g := nleI g
    have g2 := neI g2
    have es := adX v 1440 (by omega) (by omega)
    show (v + 1440).toInt = _
    omega
theorem arc_f {v b : Int} (h1 : 0 ≤ v ∧ v < 1440) (h2 : 0 ≤ b ∧ b < 1440) : (v - b) % 1440 = arcA v b 1440 := by
  unfold arcA
  split <;> omega
theorem rowFrom_L {g : Nat → Int32} {b f w : Int32} (h1 : 0 ≤ f.toInt) (h2 : f.toInt ≤ 40) (hb : 0 ≤ b.toInt ∧ b.toInt < 1440) (hg : ∀ k : Nat, (k : Int) < f.toInt → 0 ≤ (g k).toInt ∧ (g k).toInt < 1440) :
    ∀ (n : Nat) (c x : Int32), 0 ≤ x.toInt → x.toInt ≤ f.toInt → 0 ≤ c.toInt → c.toInt = (cnt (fun k => decide (arcA (g k).toInt b.toInt 1440 ≤ w.toInt)) x.toNatClampNeg : Int) → 41 - x.toInt < (n : Int) → Sf (f_X3_rowFrom_L6 g b f w n c x) (fun r => r.toInt = (cnt (fun k => decide (arcA (g k).toInt b.toInt 1440 ≤ w.toInt)) f.toNatClampNeg : Int)) := by
  intro n
  induction n with
  | zero => intro c x a1 a2 a3 a4 hm; exact absurd hm (by omega)
  | succ n ih =>
    intro c x a1 a2 a3 a4 hme
    rw [f_X3_rowFrom_L6]
    have tn := tN f h1
    have tx := tN x a1
    have hle := cnt_le (fun k => decide (arcA (g k).toInt b.toInt 1440 ≤ w.toInt)) x.toNatClampNeg
    refine Sf_ite (fun k => ?_) (fun k => ?_)
    · have k := leI k
      have e : x.toNatClampNeg = f.toNatClampNeg := by omega
      rw [e] at a4
      exact Sf_some a4
    · have k := nleI k
      have e1 := adN x 1 1 (by decide) (by omega) (by omega)
      have e2 := adN c 1 1 (by decide) (by omega) (by omega)
      have e0 := adN c 0 0 (by decide) (by omega) (by omega)
      have tx1 : (x + 1).toNatClampNeg = x.toNatClampNeg + 1 := by have := tN (x + 1) (by omega); omega
      refine Sf_rdI (by omega) (by omega) (fun v hv => ?_)
      have hgv := hg x.toNatClampNeg (by omega)
      rw [← hv] at hgv
      have es := sbX v b (by omega) (by omega)
      refine Sf_cb1 (floorMod_e (v - b)) (fun r hr => ?_)
      have hr : r.toInt = (v - b).toInt % 1440 := hr
      rw [es, arc_f hgv hb, hv] at hr
      refine Sf_ite (fun d => ?_) (fun d => ?_)
      · have d := ltI d
        refine Sf_nmI (fun f2 hf2 => Sf_nmI (fun x2 hx2 => ?_))
        subst hf2; subst hx2
        refine ih (c + 0) (x + 1) (by omega) (by omega) (by omega) ?_ (by omega)
        rw [tx1, cnt_n (by simp; omega)]; omega
      · have d := nltI d
        refine Sf_nmI (fun f2 hf2 => Sf_nmI (fun x2 hx2 => ?_))
        subst hf2; subst hx2
        refine ih (c + 1) (x + 1) (by omega) (by omega) (by omega) ?_ (by omega)
        rw [tx1, cnt_s (by simp; omega)]; omega
/-- how many lie on the arc that begins at b -/
def lenR (D M S : Nat → Int32) (s w b : Int32) (n : Nat) : Nat := cnt (fun i => mtB D S s 400 i && arB D M 1 b w i) n
theorem rowFrom_e {D M S g : Nat → Int32} {b f w s : Int32} {n : Nat} (h1 : 0 ≤ f.toInt) (h2 : f.toInt ≤ 40) (hb : 0 ≤ b.toInt ∧ b.toInt < 1440) (hg : ∀ k : Nat, (k : Int) < f.toInt → 0 ≤ (g k).toInt ∧ (g k).toInt < 1440) (ha : gaP D M S s 400 1 g f.toNatClampNeg n) : Sf (f_X3_rowFrom g b f w) (fun r => r.toInt = (lenR D M S s w b n : Int)) := by
  have hFU : (100000 : Int) ≤ (FU : Int) := Int.ofNat_le.mpr FU_ge
  have z : (0 : Int32).toInt = 0 := by decide
  have zn : (0 : Int32).toNatClampNeg = 0 := by decide
  rw [f_X3_rowFrom]
  refine Sf_mono (rowFrom_L h1 h2 hb hg FU 0 0 (by omega) (by omega) (by omega) (by rw [zn]; rfl) (by omega)) (fun r hr => ?_)
  have e := ha (fun v => decide (arcA v.toInt b.toInt 1440 ≤ w.toInt))
  rw [hr]
  unfold lenR arB
  rw [← e]
/-- the best row among those of a set of beginnings -/
def bestR (D M S : Nat → Int32) (s w : Int32) (n : Nat) (I : Int32 → Prop) (L B : Int32) : Prop := (∃ v, I v ∧ B = v ∧ L.toInt = (lenR D M S s w v n : Int)) ∧ ∀ v, I v → (lenR D M S s w v n : Int) ≤ L.toInt ∧ ((lenR D M S s w v n : Int) = L.toInt → B.toInt ≤ v.toInt)
theorem bestR_eq {D M S : Nat → Int32} {s w : Int32} {n : Nat} {I J : Int32 → Prop} {L B L' B' : Int32} (h : bestR D M S s w n I L B) (h' : bestR D M S s w n J L' B') (hij : ∀ v, I v ↔ J v) : L = L' ∧ B = B' := by
  obtain ⟨⟨v, a1, a2, a3⟩, a4⟩ := h
  obtain ⟨⟨u, b1, b2, b3⟩, b4⟩ := h'
  subst a2; subst b2
  have c1 := a4 _ ((hij _).mpr b1)
  have c2 := b4 _ ((hij _).mp a1)
  have e : L.toInt = L'.toInt := by omega
  exact ⟨i32_eq e, i32_eq (by have := c1.2 (by omega); have := c2.2 (by omega); omega)⟩
theorem lenR_pos {D M S : Nat → Int32} {s w v : Int32} {n i : Nat} (hi : i < n) (hm : mtB D S s 400 i = true) (hv : vOf D M 1 i = v) (hw : 0 ≤ w.toInt) : 1 ≤ lenR D M S s w v n := by
  refine cnt_pos hi ?_
  have : arcA (vOf D M 1 i).toInt v.toInt 1440 = 0 := by
    rw [hv]; unfold arcA; rw [if_neg (by omega)]; omega
  simp [hm, arB, this, hw]
theorem longest_L {D M S g : Nat → Int32} {s w f : Int32} {n : Nat} {K : Int32 → Int32 → Option (Int32 × (Nat → Int32))} {P : Int32 × (Nat → Int32) → Prop} (h1 : 0 ≤ f.toInt) (h2 : f.toInt ≤ 40) (hw : 0 ≤ w.toInt) (hg : ∀ k : Nat, (k : Int) < f.toInt → 0 ≤ (g k).toInt ∧ (g k).toInt < 1440) (ha : gaP D M S s 400 1 g f.toNatClampNeg n)
    (hK : ∀ L B : Int32, (f.toInt = 0 ∧ B = -1) ∨ (0 < f.toInt ∧ bestR D M S s w n (fun v => ∃ k : Nat, (k : Int) < f.toInt ∧ g k = v) L B) → Sf (K L B) P) :
    ∀ (m : Nat) (L B x : Int32), 0 ≤ x.toInt → x.toInt ≤ f.toInt → (x.toInt = 0 ∧ B = -1 ∧ L = 0) ∨ (0 < x.toInt ∧ bestR D M S s w n (fun v => ∃ k : Nat, (k : Int) < x.toInt ∧ g k = v) L B) → 41 - x.toInt < (m : Int) → Sf (f_X3_longestRow_L20 w f g K m L B x) P := by
  intro m
  induction m with
  | zero => intro L B x a1 a2 a3 hm; exact absurd hm (by omega)
  | succ m ih =>
    intro L B x a1 a2 a3 hme
    rw [f_X3_longestRow_L20]
    have z : (0 : Int32).toInt = 0 := by decide
    have tn := tN f h1
    have tx := tN x a1
    refine Sf_ite (fun k => ?_) (fun k => ?_)
    · have k := leI k
      have e : x.toInt = f.toInt := by omega
      rw [e] at a3
      refine hK L B ?_
      rcases a3 with h | h
      · exact Or.inl ⟨h.1, h.2.1⟩
      · exact Or.inr h
    · have k := nleI k
      have e1 := adN x 1 1 (by decide) (by omega) (by omega)
      have jl : jin x 40 = true := jin_of a1 (by omega)
      rw [rdI_o jl]
      have hgv := hg x.toNatClampNeg (by omega)
      refine Sf_cb1 (rowFrom_e (w := w) h1 h2 hgv hg ha) (fun r hr => ?_)
      have hr : r.toInt = (lenR D M S s w (g x.toNatClampNeg) n : Int) := hr
      obtain ⟨i, i1, i2, i3⟩ := gaP_to ha (k := x.toNatClampNeg) (by omega)
      have hp := lenR_pos (w := w) i1 i2 i3 hw
      have hmem : ∀ v, (∃ q : Nat, (q : Int) < (x + 1).toInt ∧ g q = v) ↔ ((∃ q : Nat, (q : Int) < x.toInt ∧ g q = v) ∨ v = g x.toNatClampNeg) := by
        intro v
        constructor
        · rintro ⟨q, q1, q2⟩
          by_cases d : q = x.toNatClampNeg
          · right; rw [← q2, d]
          · left; exact ⟨q, by omega, q2⟩
        · rintro (⟨q, q1, q2⟩ | q1)
          · exact ⟨q, by omega, q2⟩
          · exact ⟨x.toNatClampNeg, by omega, q1.symm⟩
      have take : (L.toInt < r.toInt ∨ (r.toInt = L.toInt ∧ (g x.toNatClampNeg).toInt < B.toInt)) → Sf (f_X3_longestRow_J69 g r (f_X3_longestRow_L20 w f g K m) x) P := by
        intro ht
        rw [f_X3_longestRow_J69, rdI_o jl]
        refine Sf_nmI (fun x2 hx2 => ?_)
        subst hx2
        refine ih r (g x.toNatClampNeg) (x + 1) (by omega) (by omega) (Or.inr ⟨by omega, ⟨g x.toNatClampNeg, (hmem _).mpr (Or.inr rfl), rfl, hr⟩, fun v hv => ?_⟩) (by omega)
        rcases (hmem v).mp hv with hv | hv
        · rcases a3 with h | h
          · obtain ⟨q, q1, q2⟩ := hv; exfalso; omega
          · have := h.2.2 v hv
            rcases ht with ht | ht
            · exact ⟨by omega, fun w => by omega⟩
            · exact ⟨by omega, fun w => by have := this.2 (by omega); omega⟩
        · rw [hv]; exact ⟨by omega, fun _ => by omega⟩
      have skip : ¬ L.toInt < r.toInt → ¬ (r.toInt = L.toInt ∧ (g x.toNatClampNeg).toInt < B.toInt) → Sf (f_X3_longestRow_L20 w f g K m L B (x + 1)) P := by
        intro c1 c2
        rcases a3 with h | h
        · have := eqI h.2.2
          exfalso; omega
        · refine ih L B (x + 1) (by omega) (by omega) (Or.inr ⟨by omega, ?_, fun v hv => ?_⟩) (by omega)
          · obtain ⟨v, v1, v2, v3⟩ := h.2.1
            exact ⟨v, (hmem v).mpr (Or.inl v1), v2, v3⟩
          · rcases (hmem v).mp hv with hv | hv
            · exact h.2.2 v hv
            · rw [hv]; exact ⟨by omega, fun w => by omega⟩
      refine Sf_ite (fun c => take (Or.inl (ltI c))) (fun c => ?_)
      have c := nltI c
      refine Sf_ite (fun c2 => ?_) (fun c2 => ?_)
      · have c2 := eqI c2
        rw [rdI_o jl]
        refine Sf_ite (fun c3 => ?_) (fun c3 => take (Or.inr ⟨c2, nleI c3⟩))
        have c3 := leI c3
        exact Sf_nmI (fun x2 hx2 => by subst hx2; exact skip (by omega) (by omega))
      · have c2 := neI c2
        exact Sf_nmI (fun x2 hx2 => by subst hx2; exact skip (by omega) (by omega))
theorem row_L {no s w : Int32} {D M S : Nat → Int32} {K : Int32 → Int32 → Option Int32} {P : Int32 → Prop} (h1 : 0 ≤ no.toInt) (h2 : no.toInt ≤ 40) (hB : nBd D M) (hw : 0 ≤ w.toInt)
    (hK : ∀ L B : Int32, (∀ i : Nat, i < no.toNatClampNeg → ¬ mtB D S s 400 i = true) ∨ bestR D M S s w no.toNatClampNeg (fun v => ∃ i : Nat, i < no.toNatClampNeg ∧ mtB D S s 400 i = true ∧ vOf D M 1 i = v) L B → Sf (K L B) P) :
    ∀ (m : Nat) (L B x : Int32), 0 ≤ x.toInt → x.toInt ≤ no.toInt → (L = 0 ∧ ∀ i : Nat, i < x.toNatClampNeg → ¬ mtB D S s 400 i = true) ∨ bestR D M S s w no.toNatClampNeg (fun v => ∃ i : Nat, i < x.toNatClampNeg ∧ mtB D S s 400 i = true ∧ vOf D M 1 i = v) L B → 41 - x.toInt < (m : Int) → Sf (f_X12_row_L46 no D M S s w K m L B x) P := by
  intro m
  induction m with
  | zero => intro L B x a1 a2 a3 hm; exact absurd hm (by omega)
  | succ m ih =>
    intro L B x a1 a2 a3 hme
    rw [f_X12_row_L46]
    have z : (0 : Int32).toInt = 0 := by decide
    have z4 : (400 : Int32).toInt = 400 := by decide
    have tn := tN no h1
    have tx := tN x a1
    refine Sf_ite (fun k => ?_) (fun k => ?_)
    · have k := leI k
      have e : x.toNatClampNeg = no.toNatClampNeg := by omega
      rw [e] at a3
      refine hK L B ?_
      rcases a3 with h | h
      · exact Or.inl h.2
      · exact Or.inr h
    · have k := nleI k
      have e1 := adN x 1 1 (by decide) (by omega) (by omega)
      have tx1 : (x + 1).toNatClampNeg = x.toNatClampNeg + 1 := by have := tN (x + 1) (by omega); omega
      have jl : jin x 40 = true := jin_of a1 (by omega)
      rw [rdI_o jl]
      refine Sf_ite (fun c2 => ?_) (fun c2 => ?_)
      · have hd : ¬ (400 : Int32) < D x.toNatClampNeg := fun w => by
          have := ltI w
          have := (hB x.toNatClampNeg).1
          omega
        have hm := mtB_t c2 hd
        rw [minuteBy_e a1 (by omega), cb1_o]
        refine Sf_cb1 (onArc_e h1 h2 hB (vOf_b hB 1 _)) (fun r hr => ?_)
        have hr : r.toInt = (lenR D M S s w (vOf D M 1 x.toNatClampNeg) no.toNatClampNeg : Int) := hr
        have hp := lenR_pos (M := M) (n := no.toNatClampNeg) (w := w) (by omega) hm rfl hw
        have hmem : ∀ v, (∃ q : Nat, q < (x + 1).toNatClampNeg ∧ mtB D S s 400 q = true ∧ vOf D M 1 q = v) ↔ ((∃ q : Nat, q < x.toNatClampNeg ∧ mtB D S s 400 q = true ∧ vOf D M 1 q = v) ∨ v = vOf D M 1 x.toNatClampNeg) := by
          intro v
          rw [tx1]
          constructor
          · rintro ⟨q, q1, q2, q3⟩
            by_cases d : q = x.toNatClampNeg
            · right; rw [← q3, d]
            · left; exact ⟨q, by omega, q2, q3⟩
          · rintro (⟨q, q1, q2, q3⟩ | q1)
            · exact ⟨q, by omega, q2, q3⟩
            · exact ⟨x.toNatClampNeg, by omega, hm, q1.symm⟩
        have take : (L.toInt < r.toInt ∨ (r.toInt = L.toInt ∧ (vOf D M 1 x.toNatClampNeg).toInt < B.toInt)) → Sf (f_X12_row_J116 (vOf D M 1 x.toNatClampNeg) r (f_X12_row_L46 no D M S s w K m) x) P := by
          intro ht
          rw [f_X12_row_J116]
          refine Sf_nmI (fun x2 hx2 => ?_)
          subst hx2
          refine ih r (vOf D M 1 x.toNatClampNeg) (x + 1) (by omega) (by omega) (Or.inr ⟨⟨_, (hmem _).mpr (Or.inr rfl), rfl, hr⟩, fun v hv => ?_⟩) (by omega)
          rcases (hmem v).mp hv with hv | hv
          · rcases a3 with h | h
            · obtain ⟨q, q1, q2, q3⟩ := hv
              exact absurd q2 (h.2 q q1)
            · have := h.2 v hv
              rcases ht with ht | ht
              · exact ⟨by omega, fun w => by omega⟩
              · exact ⟨by omega, fun w => by have := this.2 (by omega); omega⟩
          · rw [hv]; exact ⟨by omega, fun _ => by omega⟩
        have skip : ¬ L.toInt < r.toInt → ¬ (r.toInt = L.toInt ∧ (vOf D M 1 x.toNatClampNeg).toInt < B.toInt) → Sf (f_X12_row_L46 no D M S s w K m L B (x + 1)) P := by
          intro c1 c3
          rcases a3 with h | h
          · have := eqI h.1
            exfalso; omega
          · refine ih L B (x + 1) (by omega) (by omega) (Or.inr ⟨?_, fun v hv => ?_⟩) (by omega)
            · obtain ⟨v, v1, v2, v3⟩ := h.1
              exact ⟨v, (hmem v).mpr (Or.inl v1), v2, v3⟩
            · rcases (hmem v).mp hv with hv | hv
              · exact h.2 v hv
              · rw [hv]; exact ⟨by omega, fun w => by omega⟩
        refine Sf_ite (fun c => ?_) (fun c => ?_)
        · have c := ltI c
          exact Sf_nmI (fun x2 hx2 => by subst hx2; exact skip (by omega) (by omega))
        · have c := nltI c
          refine Sf_ite (fun c3 => ?_) (fun c3 => ?_)
          · have c3 := eqI c3
            refine Sf_ite (fun c4 => take (Or.inr ⟨c3, ltI c4⟩)) (fun c4 => ?_)
            have c4 := nltI c4
            exact Sf_nmI (fun x2 hx2 => by subst hx2; exact skip (by omega) (by omega))
          · have c3 := neI c3
            exact take (Or.inl (by omega))
      · refine Sf_nmI (fun x2 hx2 => ?_)
        subst hx2
        have hmem : ∀ q : Nat, q < (x + 1).toNatClampNeg → mtB D S s 400 q = true → q < x.toNatClampNeg := by
          intro q q1 q2
          rw [tx1] at q1
          by_cases d : q = x.toNatClampNeg
          · rw [d] at q2; exact absurd q2 (mtB_f1 c2)
          · omega
        refine ih L B (x + 1) (by omega) (by omega) ?_ (by omega)
        rcases a3 with h | h
        · exact Or.inl ⟨h.1, fun i hi hm => h.2 i (hmem i hi hm) hm⟩
        · refine Or.inr ⟨?_, fun v hv => ?_⟩
          · obtain ⟨v, ⟨q, q1, q2⟩, v2, v3⟩ := h.1
            exact ⟨v, ⟨q, by omega, q2⟩, v2, v3⟩
          · obtain ⟨q, q1, q2, q3⟩ := hv
            exact h.2 v ⟨q, hmem q q1 q2, q2, q3⟩
def rowQ (D M S : Nat → Int32) (s w what : Int32) (n : Nat) (r : Int32) : Prop := (cnt (mtB D S s 400) n = 0 ∧ r = -1) ∨ (¬ cnt (mtB D S s 400) n = 0 ∧ ∃ L B, bestR D M S s w n (fun v => ∃ i : Nat, i < n ∧ mtB D S s 400 i = true ∧ vOf D M 1 i = v) L B ∧ r = if what = 0 then L else B)
theorem longest_e {no s w what : Int32} {D M S g : Nat → Int32} (h1 : 0 ≤ no.toInt) (h2 : no.toInt ≤ 40) (hB : nBd D M) (hw : 0 ≤ w.toInt) : Sf (f_X3_longestRow no D g M S s w what) (fun y => rowQ D M S s w what no.toNatClampNeg y.1) := by
  have hFU : (100000 : Int) ≤ (FU : Int) := Int.ofNat_le.mpr FU_ge
  have z : (0 : Int32).toInt = 0 := by decide
  rw [f_X3_longestRow]
  refine Sf_cb2 (gather_e h1 h2) (fun f g1 hg => ?_)
  obtain ⟨a1, a2, a3⟩ := hg
  have a1 : 0 ≤ f.toInt := a1
  have a2 : f.toInt ≤ no.toInt := a2
  have a3 : gaP D M S s 400 1 g1 f.toNatClampNeg no.toNatClampNeg := a3
  have hn := gaP_n a3
  have tf := tN f a1
  refine longest_L a1 (by omega) hw (gaP_b a3 a1 hB) a3 (fun L B hLB => ?_) FU 0 (-1) 0 (by omega) (by omega) (Or.inl ⟨z, rfl, rfl⟩) (by omega)
  rw [f_X3_longestRow_J88]
  rcases hLB with h | h
  · have e0 : cnt (mtB D S s 400) no.toNatClampNeg = 0 := by omega
    refine Sf_ite (fun c => Sf_ite (fun c2 => Sf_some (Or.inl ⟨e0, h.2⟩)) (fun c2 => ?_)) (fun c => Sf_some (Or.inl ⟨e0, h.2⟩))
    have c2 := nleI c2
    exfalso; omega
  · have e0 : ¬ cnt (mtB D S s 400) no.toNatClampNeg = 0 := by omega
    have hb : bestR D M S s w no.toNatClampNeg (fun v => ∃ i : Nat, i < no.toNatClampNeg ∧ mtB D S s 400 i = true ∧ vOf D M 1 i = v) L B := by
      have hij : ∀ v, (∃ k : Nat, (k : Int) < f.toInt ∧ g1 k = v) ↔ (∃ i : Nat, i < no.toNatClampNeg ∧ mtB D S s 400 i = true ∧ vOf D M 1 i = v) := by
        intro v
        constructor
        · rintro ⟨k, k1, k2⟩
          obtain ⟨i, i1, i2, i3⟩ := gaP_to a3 (k := k) (by omega)
          exact ⟨i, i1, i2, by rw [i3, k2]⟩
        · rintro ⟨i, i1, i2, i3⟩
          obtain ⟨k, k1, k2⟩ := gaP_of a3 i1 i2
          exact ⟨k, by omega, by rw [k2, i3]⟩
      obtain ⟨⟨v, v1, v2, v3⟩, v4⟩ := h.2
      exact ⟨⟨v, (hij v).mp v1, v2, v3⟩, fun u hu => v4 u ((hij u).mpr hu)⟩
    refine Sf_ite (fun c => Sf_ite (fun c2 => ?_) (fun c2 => Sf_some (Or.inr ⟨e0, L, B, hb, (if_pos c).symm⟩))) (fun c => Sf_some (Or.inr ⟨e0, L, B, hb, (if_neg c).symm⟩))
    have c2 := leI c2
    exfalso; omega
theorem rowm_e {no s w what : Int32} {D M S : Nat → Int32} (h1 : 0 ≤ no.toInt) (h2 : no.toInt ≤ 40) (hB : nBd D M) (hw : 0 ≤ w.toInt) (hne : ¬ cnt (mtB D S s 400) no.toNatClampNeg = 0) : Sf (f_X12_row_L46 no D M S s w (f_X12_row_J130 what) FU 0 0 0) (fun r => rowQ D M S s w what no.toNatClampNeg r) := by
  have hFU : (100000 : Int) ≤ (FU : Int) := Int.ofNat_le.mpr FU_ge
  have z : (0 : Int32).toInt = 0 := by decide
  have zn : (0 : Int32).toNatClampNeg = 0 := by decide
  refine row_L h1 h2 hB hw (fun L B hLB => ?_) FU 0 0 0 (by omega) (by omega) (Or.inl ⟨rfl, fun i hi => absurd hi (by rw [zn]; omega)⟩) (by omega)
  rw [f_X12_row_J130]
  have hb := hLB.resolve_left (fun w => by
    obtain ⟨i, i1, i2⟩ := cnt_ex (Q := mtB D S s 400) (n := no.toNatClampNeg) (by omega)
    exact w i i1 i2)
  exact Sf_ite (fun c => Sf_some (Or.inr ⟨hne, L, B, hb, (if_pos c).symm⟩)) (fun c => Sf_some (Or.inr ⟨hne, L, B, hb, (if_neg c).symm⟩))
theorem rowQ_eq {D M S : Nat → Int32} {s w what : Int32} {n : Nat} {r q : Int32} (h : rowQ D M S s w what n r) (h' : rowQ D M S s w what n q) : r = q := by
  rcases h with ⟨a1, a2⟩ | ⟨a1, L, B, a2, a3⟩ <;> rcases h' with ⟨b1, b2⟩ | ⟨b1, L', B', b2, b3⟩
  · rw [a2, b2]
  · exact absurd a1 b1
  · exact absurd b1 a1
  · obtain ⟨e1, e2⟩ := bestR_eq a2 b2 (fun _ => Iff.rfl)
    rw [a3, b3, e1, e2]
theorem pe_14 {no y1 y2 y3 rx rm : Int32} {D M S g g' : Nat → Int32} (ex : f_X11_row no D g M S y1 y2 y3 = some (rx, g')) (em : f_X12_row no D M S y1 y2 y3 = some rm) (h1 : 0 ≤ no.toInt) (h2 : no.toInt ≤ 40) (hB : nBd D M) : rx = rm := by
  have z : (0 : Int32).toInt = 0 := by decide
  obtain ⟨r, q1, q2, hr⟩ := shape_2 y1
  obtain ⟨r2, q3, q4, hr2⟩ := arcw_2 y2
  obtain ⟨r3, q5, q6, hr3⟩ := within_2 (p := y3) 0 1 0 1 (by decide) (by decide)
  rw [f_X11_row, q1, cb1_o, q3] at ex
  rw [f_X12_row, q2, cb1_o, q4] at em
  by_cases c : r = 0
  · rw [if_pos c] at ex em
    cases ex; cases em; rfl
  · rw [if_neg c, cb1_o] at ex em
    by_cases d : r2 = 0
    · rw [if_pos d] at ex em
      cases ex; cases em; rfl
    · rw [if_neg d] at ex em
      rw [q5, cb1_o] at ex
      rw [q6, cb1_o] at em
      by_cases f : r3 = 0
      · rw [if_pos f] at ex em
        cases ex; cases em; rfl
      · rw [if_neg f] at ex em
        have hw := (isB_1 hr2 d).1
        obtain ⟨⟨u, gu⟩, q7, hu⟩ := longest_e (g := g) (S := S) (s := y1) (w := y2) (what := y3) h1 h2 hB hw
        have hu : rowQ D M S y1 y2 y3 no.toNatClampNeg u := hu
        obtain ⟨m, q8, hm⟩ := manyOf_e (D := D) (S := S) (s := y1) (d := 400) h1 h2
        rw [q7, cb2_o] at ex
        rw [q8, cb1_o] at em
        by_cases k : m = 0
        · rw [if_pos k] at em
          have k := eqI k
          have hu2 := hu.resolve_right (fun w => w.1 (by omega))
          cases ex; cases em; exact hu2.2
        · rw [if_neg k] at em
          have k := neI k
          obtain ⟨v, q9, hv⟩ := rowm_e (D := D) (M := M) (S := S) (s := y1) (w := y2) (what := y3) h1 h2 hB hw (by omega)
          rw [q9] at em
          cases ex; cases em; exact rowQ_eq hu hv
