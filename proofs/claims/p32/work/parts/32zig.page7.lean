/-! the page is kept by every step -/
section PK
variable {β : Type} {P : β → Prop}
theorem Pt_iteH {C : Prop} {_ : Decidable C} {a b : Option β} (h1 : C → Pt a P) (h2 : ¬ C → Pt b P) : Pt (if C then a else b) P := by
  intro y hy
  by_cases c : C
  · rw [if_pos c] at hy; exact h1 c y hy
  · rw [if_neg c] at hy; exact h2 c y hy
theorem Pt_cb1S {T1 : Type} {x : Option T1} {R : T1 → Prop} {k : T1 → Option β} (hx : Sf x R) (h : ∀ v, R v → Pt (k v) P) : Pt (cb1 x k) P := fun y hy => by
  obtain ⟨v, e0, e⟩ := cb1_s hy
  exact h v (Sf_det e0 hx) y e
theorem Pt_nmE {e : Int32} {k : Int32 → Option β} (h : Pt (k e) P) : Pt (nmI e k) P := fun y hy => h y hy
end PK
theorem kGT_lo {G G' : kG} {nt : Option (Nat × kTv)} (hq : ∀ q, nt = some q → 10 ≤ q.1) (hG : kGT G nt G') : ∀ s, s < 10 → G'.2 s = G.2 s := by
  intro s hs
  cases nt with
  | none =>
    have e : G' = G := hG
    rw [e]
  | some q =>
    obtain ⟨ta, e⟩ := hG
    have h := hq q rfl
    rw [e]
    show (if s = q.1 then some (ta, q.2) else G.2 s) = G.2 s
    rw [if_neg (by omega)]
theorem law_day {G : kG} {dy len at0 us fa mn tl p1 p2 : Int32} {co md sta tb : Nat → Int32} : Pt (f_X11_law G dy len at0 us fa mn tl co md sta tb p1 p2) (fun y => y.2.1.toInt = -1 ∨ (y.2.1 = dy ∧ y.2.2.2.2.2.2.2.2.2.2 = none)) := by
  rw [f_X11_law]
  refine Pt_cb1 (fun r => Pt_oS (Pt_some (Or.inr ⟨rfl, rfl⟩)) (fun k s => Pt_cb1 (fun r2 => Pt_ite (Pt_some (Or.inr ⟨rfl, rfl⟩)) ?_)))
  intro y hy
  obtain ⟨v1, v2, v3, v4, v5, v6, v7, v8, -, e⟩ := cb8_s hy
  rcases oN_s e with ⟨-, e⟩ | ⟨v, -, e⟩
  · exact Pt_cb1 (P := fun y => y.2.1.toInt = -1 ∨ (y.2.1 = dy ∧ y.2.2.2.2.2.2.2.2.2.2 = none)) (fun _ => Pt_cb1 (fun _ => Pt_some (Or.inr ⟨rfl, rfl⟩))) y e
  · refine Pt_cb1 (P := fun y => y.2.1.toInt = -1 ∨ (y.2.1 = dy ∧ y.2.2.2.2.2.2.2.2.2.2 = none)) (fun _ => ?_) y e
    rw [f_X4_forget]
    exact Pt_cb1S (R := fun v => v = -1) (Sf_some rfl) (fun v hv => Pt_some (Or.inl (show v.toInt = -1 by rw [hv]; decide)))
theorem PGo_law {G G' : kG} {nt : Option (Nat × kTv)} {so sd dy dy' : Int32} {bs mo wi sh wd he hi sp : Nat → Int32} (h : PGo G so sd bs mo wi sh wd dy he hi sp) (hd : dy'.toInt = -1 ∨ (dy' = dy ∧ nt = none)) (hG : kGT G nt G') : PGo G' so sd bs mo wi sh wd dy' he hi sp := by
  rcases hd with e | ⟨e1, e2⟩
  · exact PGo_no e
  · subst e1
    subst e2
    have e : G' = G := hG
    rw [e]
    exact h
theorem PGo_src {G G' : kG} {pd sk y1 y2 y3 y4 y5 rx pd' sk' rm so' sd : Int32} {nt : Option (Nat × Int32 × Int32 × Int32 × Int32 × Int32 × Int32)} {bs mo sh wd wi bs' mo' sh' wd' wi' he hi sp : Nat → Int32}
    (ex : f_X11_source G pd sk y1 y2 y3 y4 y5 = some (rx, pd', sk', nt)) (em : f_X12_source sk bs mo sh wd wi y1 y2 y3 y4 y5 = some (rm, so', bs', mo', sh', wd', wi')) (h1 : 0 ≤ sk.toInt ∧ sk.toInt ≤ 10) (hy : y1.toInt = 0 ∨ y1.toInt = 1) (h2 : ∀ i : Nat, sk.toInt ≤ (i : Int) → i < 10 → G.1 i = none ∧ G.2 i = none) (hG : kGS G nt G') (hP : PGo G sk sd bs mo wi sh wd pd he hi sp) :
    PGo G' so' sd bs' mo' wi' sh' wd' pd' he hi sp := by
  have px := Sf_det ex (e_X11_source G pd sk y1 y2 y3 y4 y5 h1.1 h1.2 hy h2)
  have pm := Sf_det em (e_X12_source sk bs mo sh wd wi y1 y2 y3 y4 y5 h1.1 h1.2)
  dsimp only at px pm
  rcases px with ⟨a1, a2, a3, a4, a5⟩ | ⟨a1, a2, a3, a4, a5⟩
  · rcases pm with ⟨b1, b2, b3, b4, b5, b6, b7, b8⟩ | ⟨b1, b2, b3, b4, b5, b6, b7, b8⟩
    · subst b4; subst b5; subst b6; subst b7; subst b8; subst a4; subst a1
      have e : G' = G := hG
      have e2 : so' = sk := i32_eq b2
      rw [e, e2]
      exact hP
    · exact absurd b3 a5
  · exact PGo_no a4
section PQ
variable {G : kG} {so sd rd dy tl p1 p2 p3 p4 p5 : Int32} {bs mo wi sh wd code ca cf ct sf many he hi mk sp pL pv Lt vals tb : Nat → Int32}
theorem lay_Pg (hk0 : 0 ≤ so.toInt) (hk1 : so.toInt ≤ 10) (hsd : 0 ≤ sd.toInt ∧ sd.toInt ≤ 999) (hsrc : SRC G so bs mo wi sh wd) (hT : TX G code ca cf ct sf many) {d : Int32} (hd : 0 ≤ d.toInt ∧ d.toInt ≤ 399) (hL : LtS Lt) (hP : PGo G so sd bs mo wi sh wd dy he hi sp) : Pt (f_X7_lay G so sd rd dy he hi sp Lt vals d) (fun y => LtS y.2.2.2.2.2.1 ∧ PGo G so sd bs mo wi sh wd y.2.1 y.2.2.1 y.2.2.2.1 y.2.2.2.2.1) := by
  intro y hy
  obtain ⟨n, HH, -, -, -, h⟩ := lay_pg (rd := rd) (vals := vals) (d := d) hk0 hk1 hsd hsrc hT hd hL hP
  obtain ⟨g1, g2, -, g4, -⟩ := Sf_det hy h
  refine ⟨g2, ?_⟩
  rw [g1]
  exact g4
theorem marks_Pg (hk0 : 0 ≤ so.toInt) (hk1 : so.toInt ≤ 10) (hsd : 0 ≤ sd.toInt ∧ sd.toInt ≤ 999) (hsrc : SRC G so bs mo wi sh wd) (hT : TX G code ca cf ct sf many) (hL : LtS Lt) (hP : PGo G so sd bs mo wi sh wd dy he hi sp) : Pt (f_X11_marks G rd dy so sd he hi mk sp pL pv Lt vals p1 p2 p3) (fun y => PGo G so sd bs mo wi sh wd y.2.2.1 y.2.2.2.1 y.2.2.2.2.1 y.2.2.2.2.2.2.1) := by
  have hJ : ∀ {a3 : Int32} {b1 b2 b3 b4 b5 b6 b7 b8 : Nat → Int32} {a5 : Int32}, PGo G so sd bs mo wi sh wd a3 b1 b2 b3 → Pt (f_X11_marks_J47 p1 p3 a3 b1 b2 b3 b4 b5 a5 b6 b7 b8) (fun y => PGo G so sd bs mo wi sh wd y.2.2.1 y.2.2.2.1 y.2.2.2.2.1 y.2.2.2.2.2.2.1) := by
    intro a3 b1 b2 b3 b4 b5 b6 b7 b8 a5 h
    rw [f_X11_marks_J47]
    exact Pt_ite (Pt_cb1 (fun _ => Pt_some h)) (Pt_cb1 (fun _ => Pt_some h))
  have l0 : (0 : Int32).toInt = 0 := by decide
  rw [f_X11_marks]
  refine Pt_cb1 (fun _ => Pt_ite (Pt_some hP) (Pt_cb1S (s_X11_isDay p2) (fun r hr => Pt_iteH (fun _ => Pt_some hP) (fun g => Pt_ite ?_ (Pt_some hP)))))
  have g := neI g
  have hr := hr.2
  exact Pt_cb7R (lay_Pg hk0 hk1 hsd hsrc hT (by omega) hL hP) (fun _ _ _ _ _ L' _ hL' => Pt_gdN (Pt_oT (Pt_cb3 (fun _ _ _ => hJ hL'.2)) (fun _ _ => Pt_cb4 (fun _ _ _ _ => hJ hL'.2))))
theorem check_Pg (hk0 : 0 ≤ so.toInt) (hk1 : so.toInt ≤ 10) (hsd : 0 ≤ sd.toInt ∧ sd.toInt ≤ 999) (hsrc : SRC G so bs mo wi sh wd) (hT : TX G code ca cf ct sf many) (hL : LtS Lt) (hP : PGo G so sd bs mo wi sh wd dy he hi sp) : Pt (f_X11_check G rd dy so sd tl he hi mk sp tb pL pv Lt vals p1 p2 p3) (fun y => PGo G so sd bs mo wi sh wd y.2.2.1 y.2.2.2.2.1 y.2.2.2.2.2.1 y.2.2.2.2.2.2.2.1) := by
  have hJ : ∀ {a3 : Int32} {b1 b2 b3 b4 b5 b6 b7 b8 : Nat → Int32} {a5 : Int32}, PGo G so sd bs mo wi sh wd a3 b1 b2 b3 → Pt (f_X11_check_J61 tl tb p1 p3 a3 b1 b2 b3 b4 b5 a5 b6 b7 b8) (fun y => PGo G so sd bs mo wi sh wd y.2.2.1 y.2.2.2.2.1 y.2.2.2.2.2.1 y.2.2.2.2.2.2.2.1) := by
    intro a3 b1 b2 b3 b4 b5 b6 b7 b8 a5 h
    rw [f_X11_check_J61]
    exact Pt_cb1 (fun _ => Pt_cb1 (fun _ => Pt_some h))
  have l0 : (0 : Int32).toInt = 0 := by decide
  rw [f_X11_check]
  refine Pt_cb1 (fun _ => Pt_ite (Pt_some hP) (Pt_cb1S (s_X11_isDay p2) (fun r hr => Pt_iteH (fun _ => Pt_some hP) (fun g => Pt_cb1 (fun _ => Pt_ite (Pt_some hP) ?_)))))
  have g := neI g
  have hr := hr.2
  exact Pt_cb7R (lay_Pg hk0 hk1 hsd hsrc hT (by omega) hL hP) (fun _ _ _ _ _ L' _ hL' => Pt_gdN (Pt_oT (Pt_cb3 (fun _ _ _ => hJ hL'.2)) (fun _ _ => Pt_cb4 (fun _ _ _ _ => hJ hL'.2))))
theorem passed_Lg (hk0 : 0 ≤ so.toInt) (hk1 : so.toInt ≤ 10) (hsd : 0 ≤ sd.toInt ∧ sd.toInt ≤ 999) (hsrc : SRC G so bs mo wi sh wd) (hT : TX G code ca cf ct sf many) (h4 : p4.toInt ≤ 399) : ∀ (n : Nat) (x7 x8 dy rd : Int32) (he hi mk pL pv sp Lt vals : Nat → Int32), 0 ≤ x8.toInt → LtS Lt → PGo G so sd bs mo wi sh wd dy he hi sp → Pt (f_X11_passed_L74 so sd p1 p2 p4 p5 G (f_X11_passed_J143 p1 p2 p5) (f_X11_passed_J177 p5) n x7 x8 dy rd he hi mk pL pv sp Lt vals) (fun y => PGo G so sd bs mo wi sh wd y.2.2.1 y.2.2.2.1 y.2.2.2.2.1 y.2.2.2.2.2.2.1) := by
  have l1 : (1 : Int32).toInt = 1 := by decide
  intro n
  induction n with
  | zero => intro x7 x8 dy rd he hi mk pL pv sp Lt vals _ _ _; exact Pt_none
  | succ n ih =>
    intro x7 x8 dy rd he hi mk pL pv sp Lt vals h8 hL hP
    rw [f_X11_passed_L74]
    refine Pt_iteH (fun _ => ?_) (fun g => ?_)
    · rw [f_X11_passed_J177]; exact Pt_ite (Pt_some hP) (Pt_some hP)
    · have g := nltI g
      have s1 := adX x8 1 (by omega) (by omega)
      refine Pt_cb7R (lay_Pg hk0 hk1 hsd hsrc hT (by omega) hL hP) (fun _ _ _ _ _ L' _ hL' => Pt_gdN (Pt_oT (Pt_cb3 (fun _ _ _ => ?_)) (fun _ _ => Pt_cb4 (fun _ _ _ _ => ?_))))
      all_goals
        rw [f_X11_passed_J108]
        refine Pt_gdN (Pt_oT (Pt_cb3 (fun _ _ _ => ?_)) (fun _ _ => Pt_cb4 (fun _ _ _ _ => ?_)))
        all_goals
          rw [f_X11_passed_J122]
          refine Pt_cb1 (fun _ => Pt_ite ?_ (Pt_ite ?_ ?_))
          · rw [f_X11_passed_J164]; exact Pt_nmI (fun _ => Pt_nmE (ih _ _ _ _ _ _ _ _ _ _ _ _ (by omega) hL'.1 hL'.2))
          · rw [f_X11_passed_J164]; exact Pt_nmI (fun _ => Pt_nmE (ih _ _ _ _ _ _ _ _ _ _ _ _ (by omega) hL'.1 hL'.2))
          · rw [f_X11_passed_J143]; exact Pt_ite (Pt_some hL'.2) (Pt_cb1 (fun _ => Pt_some hL'.2))
theorem passed_Pg (hk0 : 0 ≤ so.toInt) (hk1 : so.toInt ≤ 10) (hsd : 0 ≤ sd.toInt ∧ sd.toInt ≤ 999) (hsrc : SRC G so bs mo wi sh wd) (hT : TX G code ca cf ct sf many) (hL : LtS Lt) (hP : PGo G so sd bs mo wi sh wd dy he hi sp) : Pt (f_X11_passed G rd dy so sd he hi mk sp pL pv Lt vals p1 p2 p3 p4 p5) (fun y => PGo G so sd bs mo wi sh wd y.2.2.1 y.2.2.2.1 y.2.2.2.2.1 y.2.2.2.2.2.2.1) := by
  have l0 : (0 : Int32).toInt = 0 := by decide
  have hJ0 : Pt (f_X11_passed_J44 rd dy so sd he hi mk sp pL pv Lt vals p1 p2 p3 p4 p5 G 0) (fun y => PGo G so sd bs mo wi sh wd y.2.2.1 y.2.2.2.1 y.2.2.2.2.1 y.2.2.2.2.2.2.1) := by
    rw [f_X11_passed_J44, if_pos rfl]
    exact Pt_some hP
  rw [f_X11_passed]
  refine Pt_cb1 (fun _ => Pt_ite hJ0 (Pt_cb1 (fun _ => Pt_ite hJ0 (Pt_cb1S (s_X11_isDay p3) (fun r1 h1 => Pt_iteH (fun _ => hJ0) (fun g1 => Pt_cb1S (s_X11_isDay p4) (fun r2 h2 => Pt_iteH (fun _ => hJ0) (fun g2 => Pt_cb1 (fun _ => Pt_ite hJ0 ?_)))))))))
  have g1 := neI g1
  have g2 := neI g2
  have h1 := h1.2
  have h2 := h2.2
  rw [f_X11_passed_J44]
  exact Pt_ite (Pt_some hP) (Pt_ite (Pt_some hP) (Pt_ite (passed_Lg hk0 hk1 hsd hsrc hT (by omega) _ _ _ _ _ _ _ _ _ _ _ _ _ (by omega) hL hP) (Pt_some hP)))
end PQ
theorem PGo_seed {G : kG} {so sd sd' sd2 dy pd' : Int32} {bs mo wi sh wd he hi sp : Nat → Int32} (hP : PGo G so sd bs mo wi sh wd dy he hi sp) (h : pd'.toInt = -1 ∨ (pd' = dy ∧ sd' = sd)) (hs : sd' = sd2) : PGo G so sd2 bs mo wi sh wd pd' he hi sp := by
  rcases h with e | ⟨e1, e2⟩
  · exact PGo_no e
  · subst e1
    rw [← hs, e2]
    exact hP
