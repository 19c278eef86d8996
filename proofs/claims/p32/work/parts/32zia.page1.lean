/-! the page: each source's height, both sides -/
noncomputable abbrev hOfC (sd : Int32) (bs mo wi wd : Nat → Int32) (v : kTv) (Lt vals : Nat → Int32) (s : Nat) (p2 p3 : Int32) : Option (Int32 × (Nat → Int32) × (Nat → Int32)) := f_X7_heightOf v.2.1.1 v.2.2.2.1 v.2.2.1.1 sd (nI s) (bs s) (mo s) (wi s) (wd s) v.1 v.2.1.2 v.2.2.2.2 v.2.2.1.2 Lt vals p2 p3
/-- h is the height of source s at the minute, on both sides -/
def isH (G : kG) (sd : Int32) (bs mo wi wd code ca cf ct sf many : Nat → Int32) (s : Nat) (p2 p3 h : Int32) : Prop :=
  (0 ≤ h.toInt ∧ h.toInt ≤ 1000) ∧ (∀ (a1 a2 a3 a4 a5 a6 a7 a8 a9 a10 a11 a12 a13 : Int32) (rf wo : Nat → Int32), Sf (hOfR sd a1 a2 a3 a4 a5 a6 a7 a8 a9 a10 a11 a12 a13 bs code ca cf ct rf many mo sf wd wi wo s p2 p3) (fun z => z.1 = h)) ∧
  (∀ x : kTx, G.2 s = some x → ∀ Lt vals : Nat → Int32, LtS Lt → Sf (hOfC sd bs mo wi wd x.2 Lt vals s p2 p3) (fun y => y.1 = h ∧ LtS y.2.1)) ∧
  ((G.2 s = none ∨ C_of wd s p2 = 0 ∨ wi s < A_of bs mo s p2 p3) → h = 0)
section PG
variable {G : kG} {so sd : Int32} {bs mo wi sh wd code ca cf ct sf many : Nat → Int32} {s : Nat} {p2 p3 : Int32}
theorem hC_rg {v : kTv} {Lt vals : Nat → Int32} {y : Int32 × (Nat → Int32) × (Nat → Int32)} (h : hOfC sd bs mo wi wd v Lt vals s p2 p3 = some y) : 0 ≤ y.1.toInt ∧ y.1.toInt ≤ 1000 := by
  have l0 : (0 : Int32).toInt = 0 := by decide
  have l1 : (1000 : Int32).toInt = 1000 := by decide
  have z : 0 ≤ (0 : Int32).toInt ∧ (0 : Int32).toInt ≤ 1000 := by omega
  have hc : ∀ w : Int32, 0 ≤ (jmax 0 (jmin 1000 w)).toInt ∧ (jmax 0 (jmin 1000 w)).toInt ≤ 1000 := by
    intro w
    rw [clamp_e]
    split
    · rename_i c
      have c' := leI c
      split
      · rename_i d
        have d' := leI d
        omega
      · omega
    · omega
  have hJ : ∀ r2 t0, Pt (f_X7_heightOf_J20 sd (nI s) (mo s) (wi s) (wd s) v.1 v.2.1.1 v.2.1.2 v.2.2.2.1 v.2.2.2.2 v.2.2.1.1 v.2.2.1.2 Lt vals p2 p3 r2 t0) (fun y => 0 ≤ y.1.toInt ∧ y.1.toInt ≤ 1000) := by
    intro r2 t0
    rw [f_X7_heightOf_J20]
    refine Pt_cb1 (fun _ => Pt_ite (Pt_some z) (Pt_cb1 (fun _ => Pt_ite (Pt_some z) ?_)))
    refine Pt_wrI (Pt_wrI (Pt_wrI (Pt_wrI (Pt_cb1 (fun _ => Pt_cb1 (fun _ => Pt_wrI (Pt_nmI (fun _ => Pt_wrI (Pt_cb1 (fun _ => Pt_wrI ?_))))))))))
    exact Pt_cb2 (fun _ _ => Pt_ite (Pt_some z) (Pt_cb2 (fun _ _ => Pt_some (hc _))))
  have hP : Pt (hOfC sd bs mo wi wd v Lt vals s p2 p3) (fun y => 0 ≤ y.1.toInt ∧ y.1.toInt ≤ 1000) := by
    unfold hOfC
    rw [f_X7_heightOf]
    exact Pt_cb1 (fun _ => Pt_ite (hJ _ _) (hJ _ _))
  exact hP y h
theorem LtS_z : LtS (fun _ => 0) := ⟨rfl, rfl, rfl, rfl, rfl, rfl⟩
theorem H_ex (hk1 : so.toInt ≤ 10) (hsd : 0 ≤ sd.toInt ∧ sd.toInt ≤ 999) (hsrc : SRC G so bs mo wi sh wd) (hT : TX G code ca cf ct sf many) (hs : (s : Int) < so.toInt) (h2 : 0 ≤ p2.toInt ∧ p2.toInt ≤ 399) (h3 : 0 ≤ p3.toInt ∧ p3.toInt ≤ 1439) : ∃ h : Int32, isH G sd bs mo wi wd code ca cf ct sf many s p2 p3 h := by
  have l0 : 0 ≤ (0 : Int32).toInt ∧ (0 : Int32).toInt ≤ 1000 := by decide
  obtain ⟨a, hsa, hbs, hmo, -⟩ := hsrc s hs
  rcases hT s (by omega) with ⟨t1, t2⟩ | ⟨x, c, t1, t2, t3⟩
  · refine ⟨0, l0, fun a1 a2 a3 a4 a5 a6 a7 a8 a9 a10 a11 a12 a13 rf wo => hgt_none (by omega) h2 h3 hmo hsd t2, fun x hx => ?_, fun _ => rfl⟩
    rw [t1] at hx; cases hx
  · have hR : TXR 1 x.2 code ca cf ct sf s c := by
      rcases t3 with w | w | w
      · exact w.2
      · exact absurd w.1 (by omega)
      · exact absurd w.1 (by omega)
    have hsim := fun (Lt vals : Nat → Int32) (hL : LtS Lt) (a1 a2 a3 a4 a5 a6 a7 a8 a9 a10 a11 a12 a13 : Int32) (rf wo : Nat → Int32) => hgt_sim (v := x.2) (Lt := Lt) (vals := vals) (a1 := a1) (a2 := a2) (a3 := a3) (a4 := a4) (a5 := a5) (a6 := a6) (a7 := a7) (a8 := a8) (a9 := a9) (a10 := a10) (a11 := a11) (a12 := a12) (a13 := a13) (rf := rf) (wo := wo) (bs := bs) (mo := mo) (wi := wi) (wd := wd) (sd := sd) (p2 := p2) (p3 := p3) (by omega) h2 h3 hmo hsd hR t2 hL
    obtain ⟨y0, e0, -, -⟩ := hsim (fun _ => 0) (fun _ => 0) LtS_z 0 0 0 0 0 0 0 0 0 0 0 0 0 (fun _ => 0) (fun _ => 0)
    have hAll : ∀ (a1 a2 a3 a4 a5 a6 a7 a8 a9 a10 a11 a12 a13 : Int32) (rf wo : Nat → Int32), Sf (hOfR sd a1 a2 a3 a4 a5 a6 a7 a8 a9 a10 a11 a12 a13 bs code ca cf ct rf many mo sf wd wi wo s p2 p3) (fun z => z.1 = y0.1) := by
      intro a1 a2 a3 a4 a5 a6 a7 a8 a9 a10 a11 a12 a13 rf wo
      exact (Sf_det e0 (hsim (fun _ => 0) (fun _ => 0) LtS_z a1 a2 a3 a4 a5 a6 a7 a8 a9 a10 a11 a12 a13 rf wo)).2
    refine ⟨y0.1, hC_rg e0, hAll, fun x' hx' Lt vals hL => ?_, fun hz => ?_⟩
    · rw [t1] at hx'
      cases hx'
      obtain ⟨y, e, hl, hq⟩ := hsim Lt vals hL 0 0 0 0 0 0 0 0 0 0 0 0 0 (fun _ => 0) (fun _ => 0)
      refine ⟨y, e, ?_, hl⟩
      obtain ⟨z, ez, hz⟩ := hq
      have := Sf_det ez (hAll 0 0 0 0 0 0 0 0 0 0 0 0 0 (fun _ => 0) (fun _ => 0))
      exact hz.symm.trans this
    · rcases hz with w | w
      · rw [t1] at w; cases w
      · obtain ⟨z, ez, hz⟩ := hgt_no (sd := sd) (a1 := 0) (a2 := 0) (a3 := 0) (a4 := 0) (a5 := 0) (a6 := 0) (a7 := 0) (a8 := 0) (a9 := 0) (a10 := 0) (a11 := 0) (a12 := 0) (a13 := 0) (code := code) (ca := ca) (cf := cf) (ct := ct) (rf := fun _ => 0) (many := many) (sf := sf) (wo := fun _ => 0) (show s < 10 by omega) h2 h3 hmo w
        have := Sf_det ez (hAll 0 0 0 0 0 0 0 0 0 0 0 0 0 (fun _ => 0) (fun _ => 0))
        exact this.symm.trans hz
end PG
/-- sum, greatest, its shape: over sources -/
abbrev PS : Type := Int32 × Int32 × Int32
def pAdd (r : PS) (h sh : Int32) : PS := (r.1 + h, if r.2.1 < h then (h, sh) else r.2)
def pSum (H : Nat → Int32) (sh : Nat → Int32) : Nat → PS
  | 0 => (0, 0, 4)
  | n + 1 => pAdd (pSum H sh n) (H n) (sh n)
theorem pSum_rg {H sh : Nat → Int32} : ∀ n : Nat, n ≤ 10 → (∀ s, s < n → 0 ≤ (H s).toInt ∧ (H s).toInt ≤ 1000) → (0 ≤ (pSum H sh n).1.toInt ∧ (pSum H sh n).1.toInt ≤ 1000 * n) ∧ (0 ≤ (pSum H sh n).2.1.toInt ∧ (pSum H sh n).2.1.toInt ≤ 1000) := by
  have l0 : (0 : Int32).toInt = 0 := by decide
  intro n
  induction n with
  | zero => intro _ _; exact ⟨⟨by show 0 ≤ (0 : Int32).toInt; omega, by show (0 : Int32).toInt ≤ _; omega⟩, ⟨by show 0 ≤ (0 : Int32).toInt; omega, by show (0 : Int32).toInt ≤ _; omega⟩⟩
  | succ n ih =>
    intro hn hH
    obtain ⟨i1, i2⟩ := ih (by omega) (fun s hs => hH s (by omega))
    have hh := hH n (by omega)
    have e := adX (pSum H sh n).1 (H n) (by omega) (by omega)
    refine ⟨?_, ?_⟩
    · show 0 ≤ ((pSum H sh n).1 + H n).toInt ∧ ((pSum H sh n).1 + H n).toInt ≤ _
      omega
    · show 0 ≤ (if (pSum H sh n).2.1 < H n then (H n, sh n) else (pSum H sh n).2).1.toInt ∧ (if (pSum H sh n).2.1 < H n then (H n, sh n) else (pSum H sh n).2).1.toInt ≤ 1000
      split
      · exact hh
      · exact i2
theorem pAdd_0 {r : PS} {sh : Int32} (h : 0 ≤ r.2.1.toInt) : pAdd r 0 sh = r := by
  have l0 : (0 : Int32).toInt = 0 := by decide
  unfold pAdd
  rw [if_neg (fun w => by have := ltI w; omega)]
  obtain ⟨a, b⟩ := r
  show (a + 0, b) = (a, b)
  rw [show a + 0 = a from i32_eq (by rw [adN a 0 0 l0 (by have := rgI a; omega) (by have := rgI a; omega)]; omega)]
section LK
variable {G : kG} {sd : Int32} {bs mo wi sh wd code ca cf ct sf many H : Nat → Int32} {m : Nat} {p2 p3 : Int32}
abbrev R17 : Type := Int32 × Int32 × Int32 × Int32 × Int32 × Int32 × Int32 × Int32 × Int32 × Int32 × Int32 × Int32 × Int32 × Int32 × Int32 × (Nat → Int32) × (Nat → Int32)
theorem looks_L (hm : m ≤ 10) (hH : ∀ s, s < m → isH G sd bs mo wi wd code ca cf ct sf many s p2 p3 (H s)) : ∀ (r x n : Nat) (a1 a2 a3 a4 a5 a6 a7 a8 a9 a10 a11 a12 a13 : Int32) (rf wo : Nat → Int32), x + r = m → Sf (f_X12_looks_L15 (nI m) sd bs code ca cf ct many mo sh sf wd wi p2 p3 (n + r + 1) (pSum H sh x).2.1 (nI x) a1 a2 a3 a4 a5 a6 a7 a8 a9 a10 a11 a12 a13 (pSum H sh x).1 (pSum H sh x).2.2 rf wo) (fun z => z.2.2.2.2.2.2.2.2.2.2.2.2.2.1 = (pSum H sh m).1 ∧ z.2.2.2.2.2.2.2.2.2.2.2.2.2.2.1 = (pSum H sh m).2.2) := by
  intro r
  induction r with
  | zero =>
    intro x n a1 a2 a3 a4 a5 a6 a7 a8 a9 a10 a11 a12 a13 rf wo h
    have hx : x = m := by omega
    subst hx
    rw [Nat.add_zero, f_X12_looks_L15, if_pos (nI_le (Nat.le_refl _) (by omega))]
    exact Sf_some ⟨rfl, rfl⟩
  | succ r ih =>
    intro x n a1 a2 a3 a4 a5 a6 a7 a8 a9 a10 a11 a12 a13 rf wo h
    have hx : x < m := by omega
    rw [show n + (r + 1) + 1 = (n + r + 1) + 1 by omega, f_X12_looks_L15, if_neg (nI_ge hx (by omega))]
    refine Sf_cb16 ((hH x hx).2.1 a1 a2 a3 a4 a5 a6 a7 a8 a9 a10 a11 a12 a13 rf wo) (fun c1 b1 b2 b3 b4 b5 b6 b7 b8 b9 b10 b11 b12 b13 b14 b15 hc => ?_)
    have hc : c1 = H x := hc
    subst hc
    have e1 : (pSum H sh (x + 1)).1 = (pSum H sh x).1 + H x := rfl
    have e2 : (pSum H sh (x + 1)).2 = if (pSum H sh x).2.1 < H x then (H x, sh x) else (pSum H sh x).2 := rfl
    rw [nmI_o]
    by_cases d : (pSum H sh x).2.1 < H x
    · rw [if_pos d] at e2
      rw [if_pos d, rdI_o (jin_n (by omega) (by omega)), nmI_o, nI_1, nI_clamp (by omega)]
      have := ih (x + 1) n b1 b2 b3 b4 b5 b6 b7 b8 b9 b10 b11 b12 b13 b14 b15 (by omega)
      rw [e1, e2] at this
      exact this
    · rw [if_neg d] at e2
      rw [if_neg d, nmI_o, nI_1]
      have := ih (x + 1) n b1 b2 b3 b4 b5 b6 b7 b8 b9 b10 b11 b12 b13 b14 b15 (by omega)
      rw [e1, e2] at this
      exact this
end LK
