/-! what stays: letters of the sky's reckoner that are never set -/
def Pt {β : Type} (o : Option β) (P : β → Prop) : Prop := ∀ y, o = some y → P y
section PT
variable {β : Type} {P : β → Prop}
theorem Pt_some {y : β} (h : P y) : Pt (some y) P := fun z hz => by cases hz; exact h
theorem Pt_none : Pt (none : Option β) P := fun z hz => by cases hz
theorem Pt_ite {C : Prop} {_ : Decidable C} {a b : Option β} (h1 : Pt a P) (h2 : Pt b P) : Pt (if C then a else b) P := by
  intro y hy
  by_cases c : C
  · rw [if_pos c] at hy; exact h1 y hy
  · rw [if_neg c] at hy; exact h2 y hy
theorem Pt_nmI {e : Int32} {k : Int32 → Option β} (h : ∀ v, Pt (k v) P) : Pt (nmI e k) P := fun y hy => h e y hy
theorem Pt_rdI {f : Nat → Int32} {n : Nat} {i : Int32} {k : Int32 → Option β} (h : ∀ v, Pt (k v) P) : Pt (rdI f n i k) P := fun y hy => by
  obtain ⟨-, v, -, e⟩ := rdI_s hy
  exact h v y e
theorem Pt_wrI {f : Nat → Int32} {n : Nat} {i x : Int32} {k : (Nat → Int32) → Option β} (h : Pt (k (upd f i.toNatClampNeg x)) P) : Pt (wrI f n i x k) P := fun y hy => by
  obtain ⟨-, v, hv, e⟩ := wrI_s hy
  subst hv
  exact h y e
theorem Pt_gdN {n : Nat} {i : Int32} {k : Option β} (h : Pt k P) : Pt (gdN n i k) P := fun y hy => h y (gdN_s hy).2
theorem Pt_oS {G : kG} {r : Option Nat} {nb : Option β} {sb : Nat → kSr → Option β} (h1 : Pt nb P) (h2 : ∀ i s, Pt (sb i s) P) : Pt (oS G r nb sb) P := fun y hy => by
  rcases oS_s hy with ⟨-, e⟩ | ⟨i, s, -, -, -, -, e⟩
  · exact h1 y e
  · exact h2 i s y e
theorem Pt_oT {G : kG} {r : Option Nat} {nb : Option β} {tb : Nat → kTx → Option β} (h1 : Pt nb P) (h2 : ∀ i s, Pt (tb i s) P) : Pt (oT G r nb tb) P := fun y hy => by
  rcases oT_s hy with ⟨-, e⟩ | ⟨i, s, -, -, -, -, e⟩
  · exact h1 y e
  · exact h2 i s y e
theorem Pt_cb1 {T1 : Type} {x : Option T1} {k : T1 → Option β} (h : ∀ v, Pt (k v) P) : Pt (cb1 x k) P := fun y hy => by
  obtain ⟨v, -, e⟩ := cb1_s hy
  exact h v y e
theorem Pt_cb2 {T1 T2 : Type} {x : Option (T1 × T2)} {k : T1 → T2 → Option β} (h : ∀ a b, Pt (k a b) P) : Pt (cb2 x k) P := fun y hy => by
  obtain ⟨a, b, -, e⟩ := cb2_s hy
  exact h a b y e
theorem Pt_cb3 {T1 T2 T3 : Type} {x : Option (T1 × T2 × T3)} {k : T1 → T2 → T3 → Option β} (h : ∀ a b c, Pt (k a b c) P) : Pt (cb3 x k) P := fun y hy => by
  obtain ⟨a, b, c, -, e⟩ := cb3_s hy
  exact h a b c y e
theorem Pt_cb3R {T1 T2 T3 : Type} {x : Option (T1 × T2 × T3)} {R : T1 × T2 × T3 → Prop} {k : T1 → T2 → T3 → Option β} (hx : Pt x R) (h : ∀ a b c, R (a, b, c) → Pt (k a b c) P) : Pt (cb3 x k) P := fun y hy => by
  obtain ⟨a, b, c, e0, e⟩ := cb3_s hy
  exact h a b c (hx _ e0) y e
theorem Pt_cb4 {T1 T2 T3 T4 : Type} {x : Option (T1 × T2 × T3 × T4)} {k : T1 → T2 → T3 → T4 → Option β} (h : ∀ a b c d, Pt (k a b c d) P) : Pt (cb4 x k) P := fun y hy => by
  obtain ⟨a, b, c, d, -, e⟩ := cb4_s hy
  exact h a b c d y e
theorem Pt_cb5R {T1 T2 T3 T4 T5 : Type} {x : Option (T1 × T2 × T3 × T4 × T5)} {R : T1 × T2 × T3 × T4 × T5 → Prop} {k : T1 → T2 → T3 → T4 → T5 → Option β} (hx : Pt x R) (h : ∀ a b c d e, R (a, b, c, d, e) → Pt (k a b c d e) P) : Pt (cb5 x k) P := fun y hy => by
  obtain ⟨a, b, c, d, e', e0, e⟩ := cb5_s hy
  exact h a b c d e' (hx _ e0) y e
theorem Pt_cb5 {T1 T2 T3 T4 T5 : Type} {x : Option (T1 × T2 × T3 × T4 × T5)} {k : T1 → T2 → T3 → T4 → T5 → Option β} (h : ∀ a b c d e, Pt (k a b c d e) P) : Pt (cb5 x k) P := Pt_cb5R (R := fun _ => True) (fun _ _ => trivial) (fun a b c d e _ => h a b c d e)
theorem Pt_cb7R {T1 T2 T3 T4 T5 T6 T7 : Type} {x : Option (T1 × T2 × T3 × T4 × T5 × T6 × T7)} {R : T1 × T2 × T3 × T4 × T5 × T6 × T7 → Prop} {k : T1 → T2 → T3 → T4 → T5 → T6 → T7 → Option β} (hx : Pt x R) (h : ∀ a b c d e f g, R (a, b, c, d, e, f, g) → Pt (k a b c d e f g) P) : Pt (cb7 x k) P := fun y hy => by
  obtain ⟨a, b, c, d, e', f, g, e0, e⟩ := cb7_s hy
  exact h a b c d e' f g (hx _ e0) y e
end PT
theorem hgt_Pt {nc nm ns : Nat} {sd nu stv mi wi wd cl p2 p3 : Int32} {co md sta Lt vals : Nat → Int32} (hL : LtS Lt) : Pt (f_X7_heightOf nc nm ns sd nu stv mi wi wd cl co md sta Lt vals p2 p3) (fun y => LtS y.2.1) := by
  have hJ : ∀ t0 r2, Pt (f_X7_heightOf_J20 sd nu mi wi wd cl nc co nm md ns sta Lt vals p2 p3 r2 t0) (fun y => LtS y.2.1) := by
    intro t0 r2
    rw [f_X7_heightOf_J20]
    refine Pt_cb1 (fun r24 => Pt_ite (Pt_some hL) (Pt_cb1 (fun r40 => Pt_ite (Pt_some hL) ?_)))
    refine Pt_wrI (Pt_wrI (Pt_wrI (Pt_wrI (Pt_cb1 (fun _ => Pt_cb1 (fun _ => Pt_wrI (Pt_nmI (fun _ => Pt_wrI (Pt_cb1 (fun _ => Pt_wrI ?_))))))))))
    rw [show (100 : Int32).toNatClampNeg = 100 by decide, show (109 : Int32).toNatClampNeg = 109 by decide, show (115 : Int32).toNatClampNeg = 115 by decide, show (97 : Int32).toNatClampNeg = 97 by decide, show (117 : Int32).toNatClampNeg = 117 by decide, show (102 : Int32).toNatClampNeg = 102 by decide, show (120 : Int32).toNatClampNeg = 120 by decide]
    have hL' := fun a b c d e f g => LtS_upd (x := g) (i := 120) (LtS_upd (x := f) (i := 102) (LtS_upd (x := e) (i := 117) (LtS_upd (x := d) (i := 97) (LtS_upd (x := c) (i := 115) (LtS_upd (x := b) (i := 109) (LtS_upd (x := a) (i := 100) hL (by omega)) (by omega)) (by omega)) (by omega)) (by omega)) (by omega)) (by omega)
    exact Pt_cb2 (fun _ _ => Pt_ite (Pt_some (hL' _ _ _ _ _ _ _)) (Pt_cb2 (fun _ _ => Pt_some (hL' _ _ _ _ _ _ _))))
  rw [f_X7_heightOf]
  exact Pt_cb1 (fun _ => Pt_ite (hJ _ _) (hJ _ _))
theorem one_Pt {nc nm ns : Nat} {sd day nu stv mi wi sh wd cl t0 : Int32} {co md sta : Nat → Int32} : ∀ (n : Nat) (x : Int32) (he hi sp Lt vals : Nat → Int32), LtS Lt → Pt (f_X7_layOne_L33 sd day nu stv mi wi sh wd cl nc co nm md ns sta t0 n x he hi sp Lt vals) (fun y => LtS y.2.2.2.1) := by
  intro n
  induction n with
  | zero => intro x he hi sp Lt vals hL; exact Pt_none
  | succ n ih =>
    intro x he hi sp Lt vals hL
    rw [f_X7_layOne_L33]
    exact Pt_ite (Pt_some hL) (Pt_cb1 (fun _ => Pt_cb3R (hgt_Pt hL) (fun _ L' _ hL' => Pt_cb3 (fun _ _ _ => Pt_nmI (fun _ => ih _ _ _ _ L' _ hL')))))
theorem layOne_Pt {nc nm ns : Nat} {sd day nu stv mi wi sh wd cl : Int32} {he hi sp co md sta Lt vals : Nat → Int32} (hL : LtS Lt) : Pt (f_X7_layOne nc nm ns sd day nu stv mi wi sh wd he hi sp cl co md sta Lt vals) (fun y => LtS y.2.2.2.1) := by
  rw [f_X7_layOne]
  refine Pt_ite ?_ ?_
  · rw [f_X7_layOne_J25]
    exact Pt_nmI (fun _ => one_Pt _ _ _ _ _ _ _ hL)
  · rw [f_X7_layOne_J25]
    exact Pt_nmI (fun _ => one_Pt _ _ _ _ _ _ _ hL)
theorem layL_Pt {G : kG} {mn sd p2 rd dy : Int32} : ∀ (n : Nat) (x : Int32) (he hi sp Lt vals : Nat → Int32), LtS Lt → Pt (f_X7_lay_L16 mn sd p2 G rd dy n x he hi sp Lt vals) (fun y => LtS y.2.2.2.2.2.1) := by
  intro n
  induction n with
  | zero => intro x he hi sp Lt vals hL; exact Pt_none
  | succ n ih =>
    intro x he hi sp Lt vals hL
    rw [f_X7_lay_L16]
    exact Pt_ite (Pt_some hL) (Pt_gdN (Pt_oS (Pt_nmI (fun _ => ih _ _ _ _ _ _ hL)) (fun _ _ => Pt_oT (Pt_nmI (fun _ => ih _ _ _ _ _ _ hL)) (fun _ _ => Pt_cb1 (fun _ => Pt_ite (Pt_nmI (fun _ => ih _ _ _ _ _ _ hL)) (Pt_cb5R (layOne_Pt hL) (fun _ _ _ L' _ hL' => Pt_nmI (fun _ => ih _ _ _ _ L' _ hL'))))))))
theorem lay_Pt {G : kG} {mn sd rd dy p2 : Int32} {he hi sp Lt vals : Nat → Int32} (hL : LtS Lt) : Pt (f_X7_lay G mn sd rd dy he hi sp Lt vals p2) (fun y => LtS y.2.2.2.2.2.1) := by
  rw [f_X7_lay]
  exact Pt_ite (Pt_some hL) (Pt_cb5 (fun _ _ _ _ _ => layL_Pt _ _ _ _ _ _ _ hL))
section SK
variable {G : kG} {rd dy mn sd tl p1 p2 p3 p4 p5 : Int32} {he hi mk sp pL pv Lt vals tb : Nat → Int32}
theorem paper_Pt (hL : LtS Lt) : Pt (f_X11_paper G rd dy mn sd he hi sp Lt vals p1 p2 p3) (fun y => LtS y.2.2.2.2.2.2.1) := by
  rw [f_X11_paper]
  exact Pt_cb1 (fun _ => Pt_ite (Pt_some hL) (Pt_cb1 (fun _ => Pt_ite (Pt_some hL) (Pt_cb1 (fun _ => Pt_ite (Pt_some hL) (Pt_cb7R (lay_Pt hL) (fun _ _ _ _ _ L' _ hL' => Pt_ite (Pt_rdI (fun _ => Pt_some hL')) (Pt_rdI (fun _ => Pt_some hL')))))))))
theorem marks_Pt (hL : LtS Lt) : Pt (f_X11_marks G rd dy mn sd he hi mk sp pL pv Lt vals p1 p2 p3) (fun y => LtS y.2.2.2.2.2.2.2.2.2.1) := by
  have hJ : ∀ {a1 a2 a3 a4 : Int32} {b1 b2 b3 b4 b5 b6 b7 b8 : Nat → Int32} {a5 : Int32}, LtS b4 → Pt (f_X11_marks_J47 a1 a2 a3 b1 b2 b3 b4 b5 a5 b6 b7 b8) (fun y => LtS y.2.2.2.2.2.2.2.2.2.1) := by
    intro a1 a2 a3 a4 b1 b2 b3 b4 b5 b6 b7 b8 a5 h
    rw [f_X11_marks_J47]
    exact Pt_ite (Pt_cb1 (fun _ => Pt_some h)) (Pt_cb1 (fun _ => Pt_some h))
  rw [f_X11_marks]
  exact Pt_cb1 (fun _ => Pt_ite (Pt_some hL) (Pt_cb1 (fun _ => Pt_ite (Pt_some hL) (Pt_ite (Pt_cb7R (lay_Pt hL) (fun _ _ _ _ _ L' _ hL' => Pt_gdN (Pt_oT (Pt_cb3 (fun _ _ _ => hJ (a4 := 0) hL')) (fun _ _ => Pt_cb4 (fun _ _ _ _ => hJ (a4 := 0) hL'))))) (Pt_some hL)))))
theorem check_Pt (hL : LtS Lt) : Pt (f_X11_check G rd dy mn sd tl he hi mk sp tb pL pv Lt vals p1 p2 p3) (fun y => LtS y.2.2.2.2.2.2.2.2.2.2.1) := by
  have hJ : ∀ {a1 a2 a3 a4 a5 : Int32} {b0 b1 b2 b3 b4 b5 b6 b7 b8 : Nat → Int32}, LtS b4 → Pt (f_X11_check_J61 a1 b0 a2 a3 a4 b1 b2 b3 b4 b5 a5 b6 b7 b8) (fun y => LtS y.2.2.2.2.2.2.2.2.2.2.1) := by
    intro a1 a2 a3 a4 a5 b0 b1 b2 b3 b4 b5 b6 b7 b8 h
    rw [f_X11_check_J61]
    exact Pt_cb1 (fun _ => Pt_cb1 (fun _ => Pt_some h))
  rw [f_X11_check]
  exact Pt_cb1 (fun _ => Pt_ite (Pt_some hL) (Pt_cb1 (fun _ => Pt_ite (Pt_some hL) (Pt_cb1 (fun _ => Pt_ite (Pt_some hL) (Pt_cb7R (lay_Pt hL) (fun _ _ _ _ _ L' _ hL' => Pt_gdN (Pt_oT (Pt_cb3 (fun _ _ _ => hJ hL')) (fun _ _ => Pt_cb4 (fun _ _ _ _ => hJ hL'))))))))))
theorem passed_L : ∀ (n : Nat) (x7 x8 dy rd : Int32) (he hi mk pL pv sp Lt vals : Nat → Int32), LtS Lt → Pt (f_X11_passed_L74 mn sd p1 p2 p4 p5 G (f_X11_passed_J143 p1 p2 p5) (f_X11_passed_J177 p5) n x7 x8 dy rd he hi mk pL pv sp Lt vals) (fun y => LtS y.2.2.2.2.2.2.2.2.2.1) := by
  intro n
  induction n with
  | zero => intro x7 x8 dy rd he hi mk pL pv sp Lt vals hL; exact Pt_none
  | succ n ih =>
    intro x7 x8 dy rd he hi mk pL pv sp Lt vals hL
    rw [f_X11_passed_L74]
    refine Pt_ite ?_ (Pt_cb7R (lay_Pt hL) (fun _ _ _ _ _ L' _ hL' => Pt_gdN (Pt_oT (Pt_cb3 (fun _ _ _ => ?_)) (fun _ _ => Pt_cb4 (fun _ _ _ _ => ?_)))))
    · rw [f_X11_passed_J177]; exact Pt_ite (Pt_some hL) (Pt_some hL)
    all_goals
      rw [f_X11_passed_J108]
      refine Pt_gdN (Pt_oT (Pt_cb3 (fun _ _ _ => ?_)) (fun _ _ => Pt_cb4 (fun _ _ _ _ => ?_)))
      all_goals
        rw [f_X11_passed_J122]
        refine Pt_cb1 (fun _ => Pt_ite ?_ (Pt_ite ?_ ?_))
        · rw [f_X11_passed_J164]; exact Pt_nmI (fun _ => Pt_nmI (fun _ => ih _ _ _ _ _ _ _ _ _ _ _ _ hL'))
        · rw [f_X11_passed_J164]; exact Pt_nmI (fun _ => Pt_nmI (fun _ => ih _ _ _ _ _ _ _ _ _ _ _ _ hL'))
        · rw [f_X11_passed_J143]; exact Pt_ite (Pt_some hL') (Pt_cb1 (fun _ => Pt_some hL'))
theorem passed_Pt (hL : LtS Lt) : Pt (f_X11_passed G rd dy mn sd he hi mk sp pL pv Lt vals p1 p2 p3 p4 p5) (fun y => LtS y.2.2.2.2.2.2.2.2.2.1) := by
  have hJ : ∀ t : Int32, Pt (f_X11_passed_J44 rd dy mn sd he hi mk sp pL pv Lt vals p1 p2 p3 p4 p5 G t) (fun y => LtS y.2.2.2.2.2.2.2.2.2.1) := by
    intro t
    rw [f_X11_passed_J44]
    exact Pt_ite (Pt_some hL) (Pt_ite (Pt_some hL) (Pt_ite (passed_L _ _ _ _ _ _ _ _ _ _ _ _ _ hL) (Pt_some hL)))
  rw [f_X11_passed]
  exact Pt_cb1 (fun _ => Pt_ite (hJ 0) (Pt_cb1 (fun _ => Pt_ite (hJ 0) (Pt_cb1 (fun _ => Pt_ite (hJ 0) (Pt_cb1 (fun _ => Pt_ite (hJ 0) (Pt_cb1 (fun _ => Pt_ite (hJ 0) (hJ 1))))))))))
end SK
