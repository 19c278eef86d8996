/-! the two sides, from like states: like answers, like states -/
theorem i32_eq {x y : Int32} (h : x.toInt = y.toInt) : x = y := Int32.toInt_inj.mp h
theorem pe_1 {pd sd y1 rx pd' sd' rm sd2 : Int32} (ex : f_X11_seed pd sd y1 = some (rx, pd', sd')) (em : f_X12_seed sd y1 = some (rm, sd2)) (hb : 0 ≤ sd.toInt ∧ sd.toInt ≤ 999) : rx = rm ∧ sd' = sd2 ∧ (0 ≤ sd2.toInt ∧ sd2.toInt ≤ 999) ∧ (pd'.toInt = -1 ∨ (pd' = pd ∧ sd' = sd)) := by
  have px := Sf_det ex (e_X11_seed pd sd y1)
  have pm := Sf_det em (e_X12_seed sd y1)
  have px : (rx.toInt = 1 ∧ 0 ≤ y1.toInt ∧ y1.toInt ≤ 999 ∧ sd' = y1 ∧ pd'.toInt = -1) ∨ (rx.toInt = 0 ∧ (y1.toInt < 0 ∨ 999 < y1.toInt) ∧ sd' = sd ∧ pd' = pd) := px
  have pm : (rm.toInt = 1 ∧ 0 ≤ y1.toInt ∧ y1.toInt ≤ 999 ∧ sd2 = y1) ∨ (rm.toInt = 0 ∧ (y1.toInt < 0 ∨ 999 < y1.toInt) ∧ sd2 = sd) := pm
  rcases px with ⟨a1, a2, a3, a4, a5⟩ | ⟨a1, a2, a3, a4⟩ <;> rcases pm with ⟨b1, b2, b3, b4⟩ | ⟨b1, b2, b3⟩
  · subst a4; subst b4; exact ⟨i32_eq (by omega), rfl, ⟨b2, b3⟩, Or.inl a5⟩
  · exfalso; omega
  · exfalso; omega
  · subst a3; subst b3; exact ⟨i32_eq (by omega), rfl, hb, Or.inr ⟨a4, rfl⟩⟩
theorem pf_2 {l y1 y2 y3 y4 y5 rx l' rm m' : Int32} {b t b' t' : Nat → Int32} (ex : f_X11_feed l b y1 y2 y3 y4 y5 = some (rx, l', b')) (em : f_X12_feed l t y1 y2 y3 y4 y5 = some (rm, m', t')) (h1 : 0 ≤ l.toInt) (h2 : l.toInt ≤ 200) (h : TBy b t) : rx = rm ∧ l' = m' ∧ TBy b' t' := by
  obtain ⟨r, l3, b3, t3, q1, q2, q3⟩ := pe_2 l y1 y2 y3 y4 y5 b t h1 h2 h
  rw [ex] at q1
  rw [em] at q2
  cases q1
  cases q2
  exact ⟨rfl, rfl, q3⟩
theorem pe_11 {no y1 y2 y3 rx no' rm nm' : Int32} {D M S D' M' S' D2 M2 S2 : Nat → Int32} (ex : f_X11_note no D M S y1 y2 y3 = some (rx, no', D', M', S')) (em : f_X12_note no D M S y1 y2 y3 = some (rm, nm', D2, M2, S2)) (h1 : 0 ≤ no.toInt) (h2 : no.toInt ≤ 40) (hb : ∀ j, (0 ≤ (D j).toInt ∧ (D j).toInt ≤ 399) ∧ (0 ≤ (M j).toInt ∧ (M j).toInt ≤ 1439) ∧ (0 ≤ (S j).toInt ∧ (S j).toInt ≤ 3)) :
    rx = rm ∧ no' = nm' ∧ D' = D2 ∧ M' = M2 ∧ S' = S2 ∧ (∀ j, (0 ≤ (D2 j).toInt ∧ (D2 j).toInt ≤ 399) ∧ (0 ≤ (M2 j).toInt ∧ (M2 j).toInt ≤ 1439) ∧ (0 ≤ (S2 j).toInt ∧ (S2 j).toInt ≤ 3)) := by
  have px := Sf_det ex (e_X11_note no D M S y1 y2 y3 h1 h2)
  have pm := Sf_det em (e_X12_note no D M S y1 y2 y3 h1 h2)
  dsimp only at px pm
  rcases px with ⟨a1, a2, a3, a4, a5, a6⟩ | ⟨a1, a2, a3, a4, a5, a6⟩ <;> rcases pm with ⟨b1, b2, b3, b4, b5, b6⟩ | ⟨b1, b2, b3, b4, b5, b6⟩
  · subst a4; subst a5; subst a6; subst b4; subst b5; subst b6; exact ⟨i32_eq (by omega), i32_eq (by omega), rfl, rfl, rfl, hb⟩
  · exact absurd b3 a3
  · exact absurd a3 b3
  · subst a4; subst a5; subst a6; subst b4; subst b5; subst b6
    refine ⟨i32_eq (by omega), i32_eq (by omega), rfl, rfl, rfl, fun j => ?_⟩
    unfold upd
    by_cases c : j = no.toNatClampNeg
    · rw [if_pos c, if_pos c, if_pos c]; omega
    · rw [if_neg c, if_neg c, if_neg c]; exact hb j
theorem pe_15 {no y1 rx no' rm nm' : Int32} {T T' T2 : Nat → Int32} (ex : f_X11_blip no T y1 = some (rx, no', T')) (em : f_X12_blip no T y1 = some (rm, nm', T2)) (h1 : 0 ≤ no.toInt) (h2 : no.toInt ≤ 40) (hb : ∀ j, 0 ≤ (T j).toInt ∧ (T j).toInt ≤ 1000000000) :
    rx = rm ∧ no' = nm' ∧ T' = T2 ∧ (∀ j, 0 ≤ (T2 j).toInt ∧ (T2 j).toInt ≤ 1000000000) := by
  have px := Sf_det ex (e_X11_blip no T y1 h1 h2)
  have pm := Sf_det em (e_X12_blip no T y1 h1 h2)
  dsimp only at px pm
  rcases px with ⟨a1, a2, a3, a4⟩ | ⟨a1, a2, a3, a4⟩ <;> rcases pm with ⟨b1, b2, b3, b4⟩ | ⟨b1, b2, b3, b4⟩
  · subst a4; subst b4; exact ⟨i32_eq (by omega), i32_eq (by omega), rfl, hb⟩
  · exact absurd b3 a3
  · exact absurd a3 b3
  · subst a4; subst b4
    refine ⟨i32_eq (by omega), i32_eq (by omega), rfl, fun j => ?_⟩
    unfold upd
    by_cases c : j = no.toNatClampNeg
    · rw [if_pos c]; omega
    · rw [if_neg c]; exact hb j
theorem pe_21 {no y1 y2 rx no' rm nm' : Int32} {D F D' F' D2 F2 : Nat → Int32} (ex : f_X11_night no D F y1 y2 = some (rx, no', D', F')) (em : f_X12_night no F D y1 y2 = some (rm, nm', F2, D2)) (h1 : 0 ≤ no.toInt) (h2 : no.toInt ≤ 30) (hb : ∀ j, (0 ≤ (D j).toInt ∧ (D j).toInt ≤ 399) ∧ (-100000 ≤ (F j).toInt ∧ (F j).toInt ≤ 100000)) :
    rx = rm ∧ no' = nm' ∧ D' = D2 ∧ F' = F2 ∧ (∀ j, (0 ≤ (D2 j).toInt ∧ (D2 j).toInt ≤ 399) ∧ (-100000 ≤ (F2 j).toInt ∧ (F2 j).toInt ≤ 100000)) := by
  have px := Sf_det ex (e_X11_night no D F y1 y2 h1 h2)
  have pm := Sf_det em (e_X12_night no F D y1 y2 h1 h2)
  dsimp only at px pm
  rcases px with ⟨a1, a2, a3, a4, a5⟩ | ⟨a1, a2, a3, a4, a5⟩ <;> rcases pm with ⟨b1, b2, b3, b4, b5⟩ | ⟨b1, b2, b3, b4, b5⟩
  · subst a4; subst a5; subst b4; subst b5; exact ⟨i32_eq (by omega), i32_eq (by omega), rfl, rfl, hb⟩
  · exact absurd b3 a3
  · exact absurd a3 b3
  · subst a4; subst a5; subst b4; subst b5
    refine ⟨i32_eq (by omega), i32_eq (by omega), rfl, rfl, fun j => ?_⟩
    unfold upd
    by_cases c : j = no.toNatClampNeg
    · rw [if_pos c, if_pos c]; omega
    · rw [if_neg c, if_neg c]; exact hb j
theorem pe_26 {y1 y2 rx rm : Int32} {T T' T2 : Nat → Int32} (ex : f_X11_there T y1 y2 = some (rx, T')) (em : f_X12_there T y1 y2 = some (rm, T2)) : rx = rm ∧ T' = T2 := by
  have px := Sf_det ex (e_X11_there T y1 y2)
  have pm := Sf_det em (e_X12_there T y1 y2)
  dsimp only at px pm
  rcases px with ⟨a1, a2, a3⟩ | ⟨a1, a2, a3⟩ <;> rcases pm with ⟨b1, b2, b3⟩ | ⟨b1, b2, b3⟩
  · subst a3; subst b3; exact ⟨i32_eq (by omega), rfl⟩
  · exact absurd b2 a2
  · exact absurd a2 b2
  · subst a3; subst b3; exact ⟨i32_eq (by omega), rfl⟩
/-- the sources of both sides -/
def SRC (G : kG) (sk : Int32) (bs mo wi sh wd : Nat → Int32) : Prop := ∀ i : Nat, (i : Int) < sk.toInt → ∃ a : Nat, G.1 i = some (a, Int32.ofNat i, bs i, mo i, wi i, sh i, wd i) ∧ (bs i = 0 ∨ bs i = 1) ∧ (0 ≤ (mo i).toInt ∧ (mo i).toInt ≤ 1439) ∧ (0 ≤ (wi i).toInt ∧ (wi i).toInt ≤ 30) ∧ (0 ≤ (sh i).toInt ∧ (sh i).toInt ≤ 3) ∧ (0 ≤ (wd i).toInt ∧ (wd i).toInt ≤ 127)
theorem SRC_s {G : kG} {sk : Int32} {bs mo wi sh wd : Nat → Int32} (h : SRC G sk bs mo wi sh wd) : ∀ i : Nat, (i : Int) < sk.toInt → ∃ s, G.1 i = some s := fun i hi => by
  obtain ⟨a, e, -⟩ := h i hi
  exact ⟨_, e⟩
theorem SRC_T {G G' : kG} {nt : Option (Nat × kTv)} {sk : Int32} {bs mo wi sh wd : Nat → Int32} (h : SRC G sk bs mo wi sh wd) (hG : kGT G nt G') : SRC G' sk bs mo wi sh wd := by
  cases nt with
  | none =>
    have e : G' = G := hG
    rw [e]; exact h
  | some q =>
    obtain ⟨ta, e⟩ := hG
    rw [e]
    exact h
theorem ofN_t {x : Int32} (h : 0 ≤ x.toInt) : Int32.ofNat x.toNatClampNeg = x := by
  have g := rgI x
  have t := tN x h
  exact i32_eq (by rw [ofN _ (by omega)]; exact t)
theorem zb {y : Int32} (h : y.toInt = 0 ∨ y.toInt = 1) : vp_nar .boolean y = y ∧ (y = 0 ∨ y = 1) := by
  rcases h with h | h
  · have e : y = 0 := i32_eq (h.trans (by decide))
    subst e
    exact ⟨by decide, Or.inl rfl⟩
  · have e : y = 1 := i32_eq (h.trans (by decide))
    subst e
    exact ⟨by decide, Or.inr rfl⟩
theorem pe_0 {G G' : kG} {pd sk y1 y2 y3 y4 y5 rx pd' sk' rm so' : Int32} {nt : Option (Nat × Int32 × Int32 × Int32 × Int32 × Int32 × Int32)} {bs mo sh wd wi bs' mo' sh' wd' wi' : Nat → Int32}
    (ex : f_X11_source G pd sk y1 y2 y3 y4 y5 = some (rx, pd', sk', nt)) (em : f_X12_source sk bs mo sh wd wi y1 y2 y3 y4 y5 = some (rm, so', bs', mo', sh', wd', wi')) (h1 : 0 ≤ sk.toInt ∧ sk.toInt ≤ 10) (hy : y1.toInt = 0 ∨ y1.toInt = 1) (h2 : ∀ i : Nat, sk.toInt ≤ (i : Int) → i < 10 → G.1 i = none ∧ G.2 i = none) (hS : SRC G sk bs mo wi sh wd) (hG : kGS G nt G') :
    rx = rm ∧ sk' = so' ∧ SRC G' sk' bs' mo' wi' sh' wd' := by
  have px := Sf_det ex (e_X11_source G pd sk y1 y2 y3 y4 y5 h1.1 h1.2 hy h2)
  have pm := Sf_det em (e_X12_source sk bs mo sh wd wi y1 y2 y3 y4 y5 h1.1 h1.2)
  dsimp only at px pm
  rcases px with ⟨a1, a2, a3, a4, a5⟩ | ⟨a1, a2, a3, a4, a5⟩ <;> rcases pm with ⟨b1, b2, b3, b4, b5, b6, b7, b8⟩ | ⟨b1, b2, b3, b4, b5, b6, b7, b8⟩
  · subst b4; subst b5; subst b6; subst b7; subst b8; subst a1
    have e : G' = G := hG
    have e2 : sk' = sk := i32_eq a3
    rw [e, e2]
    exact ⟨i32_eq (by omega), i32_eq (by omega), hS⟩
  · exact absurd b3 a5
  · exact absurd a5 b3
  · subst b4; subst b5; subst b6; subst b7; subst b8; subst a1
    obtain ⟨a, e⟩ := hG
    refine ⟨i32_eq (by omega), i32_eq (by omega), fun i hi => ?_⟩
    have tk := tN sk h1.1
    rw [e]
    show ∃ a_1, (if i = sk.toNatClampNeg then some (a, (sk, y1, y2, y3, y4, y5)) else G.1 i) = _ ∧ _
    obtain ⟨z1, z2⟩ := zb hy
    unfold upd
    by_cases c : i = sk.toNatClampNeg
    · refine ⟨a, ?_⟩
      rw [if_pos c, if_pos c, if_pos c, if_pos c, if_pos c, if_pos c, c, ofN_t h1.1, z1]
      refine ⟨rfl, z2, ?_, ?_, ?_, ?_⟩ <;> omega
    · rw [if_neg c, if_neg c, if_neg c, if_neg c, if_neg c, if_neg c]
      exact hS i (by omega)
theorem tape_e {P Q : Prop} {a b : Int32} {t : Int} (hpq : P ↔ Q) (h1 : (a.toInt = 0 ∧ P) ∨ (a.toInt = t ∧ ¬ P)) (h2 : (b.toInt = 0 ∧ Q) ∨ (b.toInt = t ∧ ¬ Q)) : a = b := by
  rcases h1 with ⟨a1, a2⟩ | ⟨a1, a2⟩ <;> rcases h2 with ⟨b1, b2⟩ | ⟨b1, b2⟩
  · exact i32_eq (by omega)
  · exact absurd (hpq.mp a2) b2
  · exact absurd (hpq.mpr b2) a2
  · exact i32_eq (by omega)
