theorem s_X12_does (ir wo : Nat → Int32) (c i : Int32) (h1 : 0 ≤ i.toInt) (h2 : i.toInt ≤ 198) : Sf (f_X12_does ir wo c i) (fun _ => True) := by
  have o1 : (1 : Int32).toInt = 1 := by decide
  have e1 := adX i 1 (by omega) (by omega)
  rw [f_X12_does, nmI_o]
  have J120 : ∀ t : Int32, Sf (f_X12_does_J120 ir wo c i (i + 1) t) (fun _ => True) := by
    intro t
    rw [f_X12_does_J120]
    refine Sf_wrZ (by omega) (by omega) (fun _ _ => ?_)
    refine Sf_rdI (by omega) (by omega) (fun _ _ => ?_)
    refine Sf_rdI (by omega) (by omega) (fun _ _ => ?_)
    refine Sf_cb1 (s_X12_worked _ _ _) (fun _ _ => ?_)
    refine Sf_wrI (by omega) (by omega) (fun _ _ => ?_)
    exact Sf_some trivial
  have J106 : Sf (f_X12_does_J106 wo (i + 1) (f_X12_does_J120 ir wo c i (i + 1))) (fun _ => True) := by
    rw [f_X12_does_J106]
    refine Sf_rdI (by omega) (by omega) (fun _ _ => ?_)
    exact Sf_ite (fun _ => J120 _) (fun _ => J120 _)
  have J42 : ∀ v t : Int32, Sf (f_X12_does_J42 i (i + 1) ir wo v t) (fun _ => True) := by
    intro v t
    rw [f_X12_does_J42]
    refine Sf_ite (fun _ => ?_) (fun _ => Sf_some trivial)
    refine Sf_rdI (by omega) (by omega) (fun _ _ => ?_)
    refine Sf_wrI (by omega) (by omega) (fun _ _ => ?_)
    refine Sf_rdI (by omega) (by omega) (fun _ _ => ?_)
    refine Sf_wrZ (by omega) (by omega) (fun _ _ => ?_)
    exact Sf_some trivial
  have J16 : Sf (f_X12_does_J16 c i (i + 1) ir wo) (fun _ => True) := by
    rw [f_X12_does_J16]
    refine Sf_rdI (by omega) (by omega) (fun _ _ => ?_)
    refine Sf_ite (fun _ => ?_) (fun _ => Sf_some trivial)
    refine Sf_rdI (by omega) (by omega) (fun _ _ => ?_)
    exact Sf_ite (fun _ => J42 _ _) (fun _ => J42 _ _)
  refine Sf_ite (fun _ => J16) (fun _ => ?_)
  refine Sf_ite (fun _ => J16) (fun _ => ?_)
  refine Sf_rdI (by omega) (by omega) (fun _ _ => ?_)
  refine Sf_ite (fun _ => ?_) (fun _ => J120 _)
  refine Sf_rdI (by omega) (by omega) (fun _ _ => ?_)
  refine Sf_ite (fun _ => ?_) (fun _ => J120 _)
  refine Sf_ite (fun _ => J106) (fun _ => ?_)
  exact Sf_ite (fun _ => J106) (fun _ => J120 _)
theorem dep_pre {c : Nat → Int32} {a : Nat} : ∀ {n m D : Nat}, dep c a n = some D → m ≤ n → ∃ d, dep c a m = some d := by
  intro n
  induction n with
  | zero =>
    intro m D h hm
    exact ⟨D, by rw [show m = 0 by omega]; exact h⟩
  | succ n ih =>
    intro m D h hm
    by_cases e : m = n + 1
    · exact ⟨D, by rw [e]; exact h⟩
    · have h : (dep c a n).bind (stp (c (a + n))) = some D := h
      cases hd : dep c a n with
      | none => rw [hd] at h; exact nomatch h
      | some d => exact ih hd (by omega)
theorem stp_cases {u : Int32} {d d' : Nat} (h : stp u d = some d') : (2 < u.toInt ∧ 2 ≤ d ∧ d' = d - 1) ∨ (u.toInt = 2 ∧ 1 ≤ d ∧ d' = d) ∨ (u.toInt < 2 ∧ d' = d + 1) := by
  unfold stp at h
  by_cases c1 : 2 < u.toInt
  · rw [if_pos c1] at h
    by_cases c2 : 2 ≤ d
    · rw [if_pos c2] at h; cases h; exact Or.inl ⟨c1, c2, rfl⟩
    · rw [if_neg c2] at h; exact nomatch h
  · rw [if_neg c1] at h
    by_cases c3 : u.toInt = 2
    · rw [if_pos c3] at h
      by_cases c4 : 1 ≤ d
      · rw [if_pos c4] at h; cases h; exact Or.inr (Or.inl ⟨c3, c4, rfl⟩)
      · rw [if_neg c4] at h; exact nomatch h
    · rw [if_neg c3] at h; cases h; exact Or.inr (Or.inr ⟨by omega, rfl⟩)
/-- a code that can be worked -/
def SG (code : Nat → Int32) (a z : Int32) : Prop := 0 ≤ a.toInt ∧ a.toInt ≤ z.toInt ∧ z.toInt ≤ 2400 ∧ z.toInt ≤ a.toInt + 120 ∧ ∃ q, dep code a.toNatClampNeg (z.toNatClampNeg - a.toNatClampNeg) = some q
theorem works_L {aA aB aD aF aG aH aL aM aN aS aT aU aX : Int32} {code ca : Nat → Int32} {a z : Int32} (hS : SG code a z) : ∀ (n : Nat) (x3 x4 : Int32) (ir wo : Nat → Int32), a.toInt ≤ x4.toInt → x4.toInt ≤ z.toInt → 0 ≤ x3.toInt → dep code a.toNatClampNeg (x4.toNatClampNeg - a.toNatClampNeg) = some x3.toNatClampNeg → 1 + z.toInt - x4.toInt < (n : Int) →
    Sf (f_X12_works_L5 aA aB aD aF aG aH aL aM aN aS aT aU aX code ca z n x3 x4 ir wo) (fun _ => True) := by
  obtain ⟨s1, s2, s3, s4, ⟨D, s5⟩⟩ := hS
  have ta := tN a s1
  have tz := tN z (by omega)
  have o1 : (1 : Int32).toInt = 1 := by decide
  have o2 : (2 : Int32).toInt = 2 := by decide
  intro n
  induction n with
  | zero => intro x3 x4 ir wo h1 h2 h3 h4 h5; exact absurd h5 (by omega)
  | succ n ih =>
    intro x3 x4 ir wo h1 h2 h3 h4 h5
    have t4 := tN x4 (by omega)
    have t3 := tN x3 h3
    rw [f_X12_works_L5]
    refine Sf_ite (fun h => Sf_some trivial) (fun h => ?_)
    have c1 := nleI h
    have hle := dep_le h4
    have e4 := adX x4 1 (by omega) (by omega)
    have t4' := tN (x4 + 1) (by omega)
    obtain ⟨d, hd⟩ := dep_pre (m := x4.toNatClampNeg - a.toNatClampNeg + 1) s5 (by omega)
    have hd2 : (dep code a.toNatClampNeg (x4.toNatClampNeg - a.toNatClampNeg)).bind (stp (code (a.toNatClampNeg + (x4.toNatClampNeg - a.toNatClampNeg)))) = some d := hd
    rw [h4, show a.toNatClampNeg + (x4.toNatClampNeg - a.toNatClampNeg) = x4.toNatClampNeg by omega] at hd2
    have hs : stp (code x4.toNatClampNeg) x3.toNatClampNeg = some d := hd2
    have hc := stp_cases hs
    have en : (x4 + 1).toNatClampNeg - a.toNatClampNeg = x4.toNatClampNeg - a.toNatClampNeg + 1 := by omega
    rw [rdI_o (jin_of (by omega) (by omega))]
    refine Sf_ite (fun h6 => ?_) (fun h6 => ?_)
    · have c6 := leI h6
      rw [rdI_o (jin_of (by omega) (by omega))]
      refine Sf_ite (fun h7 => ?_) (fun h7 => ?_)
      · have c7 := eqI h7
        have e3 := sbX x3 1 (by omega) (by omega)
        rw [rdI_o (jin_of (by omega) (by omega)), nmI_o, wrI_o (jin_of (by omega) (by omega)), nmI_o]
        refine ih x3 (x4 + 1) _ _ (by omega) (by omega) h3 ?_ (by omega)
        rw [en, hd]
        congr 1
        omega
      · have c7 := neI h7
        have e3 := adX x3 1 (by omega) (by omega)
        have t3' := tN (x3 + 1) (by omega)
        have hn : ∀ ir wo : Nat → Int32, Sf (f_X12_works_L5 aA aB aD aF aG aH aL aM aN aS aT aU aX code ca z n (x3 + 1) (x4 + 1) ir wo) (fun _ => True) := by
          intro ir wo
          refine ih (x3 + 1) (x4 + 1) _ _ (by omega) (by omega) (by omega) ?_ (by omega)
          rw [en, hd]
          congr 1
          omega
        rw [wrZ_o (jin_of (by omega) (by omega)), rdI_o (jin_of (by omega) (by omega))]
        refine Sf_ite (fun _ => ?_) (fun _ => ?_)
        · rw [rdI_o (jin_of (by omega) (by omega)), wrI_o (jin_of (by omega) (by omega)), nmI_o, nmI_o]
          exact hn _ _
        · rw [rdI_o (jin_of (by omega) (by omega))]
          refine Sf_cb1 (s_X12_valueOf aA aB aD aF aG aH aL aM aN aS aT aU aX _) (fun _ _ => ?_)
          rw [wrI_o (jin_of (by omega) (by omega)), nmI_o, nmI_o]
          exact hn _ _
    · have c6 := nleI h6
      refine Sf_nmI (fun v hv => ?_)
      have ev := (eqI hv).trans (adN x3 (-1) (-1) (by decide) (by omega) (by omega))
      clear hv
      have t3' := tN v (by omega)
      have e5 := sbX v 1 (by omega) (by omega)
      rw [rdI_o (jin_of (by omega) (by omega))]
      refine Sf_cb2 (s_X12_does _ _ _ _ (by omega) (by omega)) (fun ir2 wo2 _ => ?_)
      rw [nmI_o]
      have ed : d = v.toNatClampNeg := by omega
      refine ih v (x4 + 1) _ _ (by omega) (by omega) (by omega) ?_ (by omega)
      rw [en, hd, ed]
theorem works_s {aA aB aD aF aG aH aL aM aN aS aT aU aX : Int32} {code ca ir wo : Nat → Int32} {a z : Int32} (hS : SG code a z) : Sf (f_X12_works aA aB aD aF aG aH aL aM aN aS aT aU aX code ca ir wo a z) (fun _ => True) := by
  have := FUi
  have z0 : (0 : Int32).toInt = 0 := by decide
  have zn : (0 : Int32).toNatClampNeg = 0 := by decide
  rw [f_X12_works]
  have hS' := hS
  obtain ⟨s1, s2, s3, s4, -⟩ := hS
  refine works_L hS' FU 0 a ir wo (Int.le_refl _) s2 (by omega) ?_ (by omega)
  rw [Nat.sub_self, zn]
  rfl
theorem holds_i {aA aB aD aF aG aH aL aM aN aS aT aU aX : Int32} {code ca cf ct ir wo : Nat → Int32} {x : Int32} (h1 : 0 ≤ x.toInt) (h2 : x.toInt < 240) (hS : SG code (cf x.toNatClampNeg) (ct x.toNatClampNeg)) : Sf (f_X12_holds aA aB aD aF aG aH aL aM aN aS aT aU aX code ca cf ct ir wo x) (fun y => y.1.toInt = 0 ∨ y.1.toInt = 1) := by
  rw [f_X12_holds, rdI_o (jin_of h1 (by omega)), rdI_o (jin_of h1 (by omega))]
  refine Sf_cb2 (works_s hS) (fun ir2 wo2 _ => ?_)
  rw [rdI_o (by decide)]
  refine Sf_ite (fun _ => ?_) (fun _ => Sf_some (Or.inl (show (0 : Int32).toInt = 0 by decide)))
  rw [rdI_o (by decide)]
  exact Sf_ite (fun _ => Sf_some (Or.inr (show (1 : Int32).toInt = 1 by decide))) (fun _ => Sf_some (Or.inl (show (0 : Int32).toInt = 0 by decide)))
theorem s_X12_sumOf {aA aB aD aF aG aH aL aM aN aS aT aU aX : Int32} {code ca cf sf ir wo : Nat → Int32} {x : Int32} (h1 : 0 ≤ x.toInt) (h2 : x.toInt < 240) (hS : SG code (sf x.toNatClampNeg) (cf x.toNatClampNeg)) : Sf (f_X12_sumOf aA aB aD aF aG aH aL aM aN aS aT aU aX code ca cf ir sf wo x) (fun _ => True) := by
  rw [f_X12_sumOf, rdI_o (jin_of h1 (by omega)), rdI_o (jin_of h1 (by omega))]
  refine Sf_cb2 (works_s hS) (fun ir2 wo2 _ => ?_)
  rw [rdI_o (by decide)]
  refine Sf_ite (fun _ => ?_) (fun _ => Sf_some trivial)
  rw [rdI_o (by decide)]
  exact Sf_some trivial
theorem s_X12_holds (aA aB aD aF aG aH aL aM aN aS aT aU aX : Int32) (code ca cf ct ir wo : Nat → Int32) (x : Int32) (h1 : 0 ≤ x.toInt) (h2 : x.toInt < 240) (hS : SG code (cf x.toNatClampNeg) (ct x.toNatClampNeg)) : Sf (f_X12_holds aA aB aD aF aG aH aL aM aN aS aT aU aX code ca cf ct ir wo x) (fun y => y.1.toInt = 0 ∨ y.1.toInt = 1) := holds_i h1 h2 hS
/-- the kept texts, for who needs no sum; marks -/
def hOK (code cf ct many : Nat → Int32) : Prop := ∃ sf, rOK code cf ct sf many
def mkOK (m : Nat → Int32) : Prop := ∀ j, 0 ≤ (m j).toInt ∧ (m j).toInt ≤ 720
theorem mkOK_rd {m : Nat → Int32} (h : mkOK m) {v i : Int32} (hv : v = m i.toNatClampNeg) : 0 ≤ v.toInt ∧ v.toInt ≤ 720 := by rw [hv]; exact h _
theorem mkOK_wr {m g : Nat → Int32} (h : mkOK m) {x i : Int32} (hv : g = upd m i.toNatClampNeg x) (h1 : 0 ≤ x.toInt) (h2 : x.toInt ≤ 720) : mkOK g := fun j => by
  rw [hv]
  unfold upd
  split
  · exact ⟨h1, h2⟩
  · exact h j
theorem rOK_rd {code cf ct sf many : Nat → Int32} (hR : rOK code cf ct sf many) {i v : Int32} (h1 : 0 ≤ i.toInt) (h2 : i.toInt < 20) (hv : v = many i.toNatClampNeg) : 0 ≤ v.toInt ∧ v.toInt ≤ 12 ∧ ∀ x : Int32, 12 * i.toInt ≤ x.toInt → x.toInt < 12 * i.toInt + v.toInt → SG code (cf x.toNatClampNeg) (ct x.toNatClampNeg) ∧ SG code (sf x.toNatClampNeg) (cf x.toNatClampNeg) := by
  have ti := tN i h1
  obtain ⟨m1, m2, m3⟩ := hR i.toNatClampNeg (by omega)
  rw [hv]
  refine ⟨m1, m2, fun x hx hx2 => ?_⟩
  have tx := tN x (by omega)
  obtain ⟨j, hj⟩ : ∃ j : Nat, x.toNatClampNeg = 12 * i.toNatClampNeg + j := ⟨x.toNatClampNeg - 12 * i.toNatClampNeg, by omega⟩
  obtain ⟨a1, a2, a3, a4, a5, a6⟩ := m3 j (by omega)
  rw [hj]
  exact ⟨⟨by omega, a3, by omega, by omega, a6⟩, ⟨by omega, a2, by omega, by omega, a5⟩⟩
theorem hOK_rd {code cf ct many : Nat → Int32} (hR : hOK code cf ct many) {i v : Int32} (h1 : 0 ≤ i.toInt) (h2 : i.toInt < 20) (hv : v = many i.toNatClampNeg) : 0 ≤ v.toInt ∧ v.toInt ≤ 12 ∧ ∀ x : Int32, 12 * i.toInt ≤ x.toInt → x.toInt < 12 * i.toInt + v.toInt → SG code (cf x.toNatClampNeg) (ct x.toNatClampNeg) := by
  obtain ⟨sf, h⟩ := hR
  obtain ⟨a, b, c⟩ := rOK_rd h h1 h2 hv
  exact ⟨a, b, fun x p q => (c x p q).1⟩
theorem height_L {P : Int32 × Int32 × Int32 × Int32 × Int32 × Int32 × Int32 × Int32 × Int32 × Int32 × Int32 × Int32 × Int32 × Int32 × (Nat → Int32) × (Nat → Int32) → Prop} {K : Int32 → (Nat → Int32) → (Nat → Int32) → Option (Int32 × Int32 × Int32 × Int32 × Int32 × Int32 × Int32 × Int32 × Int32 × Int32 × Int32 × Int32 × Int32 × Int32 × (Nat → Int32) × (Nat → Int32))} {code ca cf ct sf many : Nat → Int32} {p1 p2 p3 oB oG oH oL oN oT rA vF rS rU rX : Int32} (hp : 0 ≤ p1.toInt) (hp2 : p1.toInt < 10) (hR : rOK code cf ct sf many)
    (hK : ∀ (x : Int32) (ir wo : Nat → Int32), 0 ≤ x.toInt → x.toInt < 240 → SG code (sf x.toNatClampNeg) (cf x.toNatClampNeg) → Sf (K x ir wo) P) (hP : ∀ ir wo : Nat → Int32, P (0, rA, oB, p2, vF, oG, oH, oL, p3, oN, rS, oT, rU, rX, ir, wo)) : ∀ (n : Nat) (x : Int32) (ir wo : Nat → Int32), 12 * p1.toInt ≤ x.toInt → x.toInt ≤ 12 * p1.toInt + 12 → 12 * p1.toInt + 13 - x.toInt < (n : Int) →
    Sf (f_X12_heightOf_L95 code ca cf ct many p1 p2 p3 oB oG oH oL oN oT rA vF rS rU rX K n x ir wo) P := by
  have z0 : (0 : Int32).toInt = 0 := by decide
  have e0 := adX 0 p1 (by omega) (by omega)
  intro n
  induction n with
  | zero => intro x ir wo h1 h2 h3; exact absurd h3 (by omega)
  | succ n ih =>
    intro x ir wo h1 h2 h3
    rw [f_X12_heightOf_L95]
    refine Sf_rdI (by omega) (by omega) (fun v hv => ?_)
    obtain ⟨m1, m2, m3⟩ := rOK_rd hR (i := 0 + p1) (by omega) (by omega) hv
    have e1 := mlY 12 (0 + p1) 12 (by decide) (by omega) (by omega)
    have e2 := adX (12 * (0 + p1)) v (by omega) (by omega)
    refine Sf_ite (fun h => Sf_some (hP ir wo)) (fun h => ?_)
    have c1 := nleI h
    obtain ⟨g1, g2⟩ := m3 x (by omega) (by omega)
    refine Sf_cb3 (holds_i (by omega) (by omega) g1) (fun r ir2 wo2 _ => ?_)
    have o1 : (1 : Int32).toInt = 1 := by decide
    have e3 := adX x 1 (by omega) (by omega)
    refine Sf_ite (fun _ => ?_) (fun _ => hK x ir2 wo2 (by omega) (by omega) g2)
    rw [nmI_o]
    exact ih (x + 1) ir2 wo2 (by omega) (by omega) (by omega)
theorem s_X12_heightOf (sd aA aB aD aF aG aH aL aM aN aS aT aU aX : Int32) (bs code ca cf ct ir many mo sf wk wd wo : Nat → Int32) (p1 p2 p3 : Int32) (hp : 0 ≤ p1.toInt) (hp2 : p1.toInt < 10) (hR : rOK code cf ct sf many) : Sf (f_X12_heightOf sd aA aB aD aF aG aH aL aM aN aS aT aU aX bs code ca cf ct ir many mo sf wk wd wo p1 p2 p3) (fun y => 0 ≤ y.1.toInt ∧ y.1.toInt ≤ 1000) := by
  have := FUi
  have z0 : (0 : Int32).toInt = 0 := by decide
  rw [f_X12_heightOf]
  refine Sf_cb1 (s_X12_isThere bs mo wk wd p1 p2 p3 hp hp2) (fun _ _ => ?_)
  refine Sf_ite (fun _ => Sf_some (show 0 ≤ (0 : Int32).toInt ∧ (0 : Int32).toInt ≤ 1000 by decide)) (fun _ => ?_)
  refine Sf_cb13 (s_X12_clears aA aB aD aF aG aH aL aM aN aS aT aU aX) (fun _ _ _ _ _ _ _ _ _ _ _ _ _ _ => ?_)
  refine Sf_cb1 (s_X12_awayOf bs mo p1 p2 p3 hp hp2) (fun _ _ => ?_)
  rw [nmI_o]
  refine Sf_cb1 (s_X12_starAt p2 p3) (fun _ _ => ?_)
  refine Sf_cb1 (s_X12_farOf _ _) (fun _ _ => ?_)
  refine Sf_cb1 (s_X12_luckOf sd p1 p2 p3) (fun _ _ => ?_)
  rw [nmI_o]
  have e0 := adX 0 p1 (by omega) (by omega)
  have e1 := mlY 12 (0 + p1) 12 (by decide) (by omega) (by omega)
  refine height_L hp hp2 hR (fun x ir2 wo2 h1 h2 hS => ?_) (fun _ _ => (show 0 ≤ (0 : Int32).toInt ∧ (0 : Int32).toInt ≤ 1000 by decide)) FU _ ir wo (by omega) (by omega) (by omega)
  rw [f_X12_heightOf_J127]
  refine Sf_cb3 (s_X12_sumOf h1 h2 hS) (fun r ir3 wo3 _ => ?_)
  have l : (1000 : Int32).toInt = 1000 := by decide
  refine Sf_ite (fun h => ?_) (fun _ => Sf_some (show 0 ≤ (0 : Int32).toInt ∧ (0 : Int32).toInt ≤ 1000 by decide))
  have c1 := leI h
  refine Sf_ite (fun h3 => ?_) (fun _ => Sf_some (show 0 ≤ (1000 : Int32).toInt ∧ (1000 : Int32).toInt ≤ 1000 by decide))
  have c2 := leI h3
  exact Sf_some (show 0 ≤ r.toInt ∧ r.toInt ≤ 1000 from ⟨by omega, by omega⟩)
