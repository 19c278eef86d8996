theorem LA_e {lf : Nat → Int32} {i j : Int32} (h1 : 0 ≤ i.toInt) (h2 : i.toInt ≤ 6) (h3 : 0 ≤ j.toInt) (h4 : j.toInt ≤ 60) : f_X12_leastAt lf i j = some (LA lf i.toNatClampNeg j.toNatClampNeg) := by
  have z : (0 : Int32).toInt = 0 := by decide
  have l : (40 : Int32).toInt = 40 := by decide
  have ti := tN i h1
  have tj := tN j h3
  rw [f_X12_leastAt]
  unfold LA
  by_cases c : j ≤ 40
  · have c1 := leI c
    have e := idx_e (p := i) (x := j) 53 53 (by decide) (by omega) (by omega) h1 (by omega) h3 (by omega)
    have te := tN (53 * i + j) (by omega)
    rw [if_pos c, if_pos (show j.toNatClampNeg ≤ 40 by omega), rdI_o (jin_of (by omega) (by omega)), show (53 * i + j).toNatClampNeg = 53 * i.toNatClampNeg + j.toNatClampNeg by omega]
  · have c1 := nleI c
    rw [if_neg c, if_neg (show ¬ j.toNatClampNeg ≤ 40 by omega)]
    by_cases d : i = 0
    · have := eqI d
      rw [if_pos d, if_pos (show i.toNatClampNeg = 0 by omega)]
    · have := neI d
      rw [if_neg d, if_neg (show ¬ i.toNatClampNeg = 0 by omega)]
theorem J150_e {v t : Int32} {K : Int32 → Option (Int32 × (Nat → Int32))} : f_X12_pen_J150 v K t = K (chs v t) := by
  rw [f_X12_pen_J150]
  unfold chs
  by_cases c1 : t < 0
  · rw [if_pos c1, if_pos c1]
  · rw [if_neg c1, if_neg c1]
    by_cases c2 : v < 0
    · rw [if_pos c2, if_pos c2]
    · rw [if_neg c2, if_neg c2]
      by_cases c3 : v ≤ t
      · rw [if_pos c3, if_pos c3]
      · rw [if_neg c3, if_neg c3]
section pens
variable {P : Int32 × (Nat → Int32) → Prop} {ten : Nat → Int32} {p1 p2 p3 : Int32}
theorem pen_L68 {i : Int32} {K58 : Int32 → (Nat → Int32) → Option (Int32 × (Nat → Int32))} (hi : 0 ≤ i.toInt) (hi2 : i.toInt ≤ 6) (hp2 : 1 ≤ p2.toInt) (hp3 : p2.toInt ≤ 10) (ht : ∀ j, 0 ≤ (ten j).toInt ∧ (ten j).toInt ≤ 10)
    (hK : ∀ (x : Int32) (lf : Nat → Int32), x.toInt = i.toInt + 1 → DN ten p2.toNatClampNeg lf x.toNatClampNeg 40 → Sf (K58 x lf) P) : ∀ (n : Nat) (x : Int32) (lf : Nat → Int32), -1 ≤ x.toInt → x.toInt ≤ 40 → DN ten p2.toNatClampNeg lf i.toNatClampNeg x.toInt → x.toInt + 2 < (n : Int) →
    Sf (f_X12_pen_L68 ten p2 i K58 n x lf) P := by
  have z : (0 : Int32).toInt = 0 := by decide
  have o1 : (1 : Int32).toInt = 1 := by decide
  have l : (40 : Int32).toInt = 40 := by decide
  have ti := tN i hi
  have tq := tN p2 (by omega)
  intro n
  induction n with
  | zero => intro x lf h1 h2 h3 h4; exact absurd h4 (by omega)
  | succ n ih =>
    intro x lf h1 h2 h3 h4
    rw [f_X12_pen_L68]
    refine Sf_ite (fun h => ?_) (fun h => ?_)
    · have c := ltI h
      have e := adX i 1 (by omega) (by omega)
      have te := tN (i + 1) (by omega)
      rw [nmI_o]
      refine hK (i + 1) lf (by omega) (fun i' j' hj hc => h3 i' j' hj (by omega))
    · have c := nltI h
      have tx := tN x (by omega)
      have e := idx_e (p := i) (x := x) 53 53 (by decide) (by omega) (by omega) hi (by omega) (by omega) (by omega)
      have te := tN (53 * i + x) (by omega)
      have J : ∀ v : Int32, TB ten p2.toNatClampNeg (upd lf (53 * i.toNatClampNeg + x.toNatClampNeg) v) i.toNatClampNeg x.toNatClampNeg → Sf (f_X12_pen_J173 i x lf (f_X12_pen_L68 ten p2 i K58 n) v) P := by
        intro v hv
        rw [f_X12_pen_J173, wrI_o (jin_of (by omega) (by omega)), show (53 * i + x).toNatClampNeg = 53 * i.toNatClampNeg + x.toNatClampNeg by omega]
        refine Sf_nmI (fun w hw => ?_)
        have ew := (eqI hw).trans (adN x (-1) (-1) (by decide) (by omega) (by omega))
        clear hw
        have hd := DN_step (lf := lf) (v := v) (x := x.toNatClampNeg) (by rw [tx]; exact h3) (by omega) hv
        refine ih w _ (by omega) (by omega) ?_ (by omega)
        rw [show w.toInt = (x.toNatClampNeg : Int) - 1 by omega]
        exact hd
      refine Sf_ite (fun h5 => ?_) (fun h5 => ?_)
      · have c5 := eqI h5
        rw [f_X12_pen_J83, if_pos (show i ≤ 0 from Int32.le_iff_toInt_le.mpr (by omega))]
        refine J 1 ?_
        rw [show i.toNatClampNeg = 0 by omega, show 53 * 0 + x.toNatClampNeg = x.toNatClampNeg by omega]
        show (upd lf x.toNatClampNeg 1 x.toNatClampNeg).toInt = 1
        rw [show upd lf x.toNatClampNeg 1 x.toNatClampNeg = 1 from if_pos rfl]
        exact o1
      · have c5 := neI h5
        obtain ⟨k, hk⟩ : ∃ k, i.toNatClampNeg = k + 1 := ⟨i.toNatClampNeg - 1, by omega⟩
        rw [f_X12_pen_J83, if_neg (show ¬ i ≤ 0 from fun w => by have := leI w; omega)]
        refine Sf_ite (fun h6 => ?_) (fun h6 => ?_)
        · have c6 := leI h6
          refine J (-1) ?_
          have m1 : ((-1) : Int32).toInt = -1 := by decide
          rw [hk, TB_succ, show upd lf (53 * (k + 1) + x.toNatClampNeg) (-1) (53 * (k + 1) + x.toNatClampNeg) = -1 from if_pos rfl, m1]
          exact ⟨fun w => absurd w (by omega), fun w => absurd w (by decide)⟩
        · have c6 := nleI h6
          have e1 := adX (53 * i + x) 1 (by omega) (by omega)
          have te1 := tN (53 * i + x + 1) (by omega)
          have e2 := sbX i 1 (by omega) (by omega)
          have te2 := tN (i - 1) (by omega)
          have e3 := adX x p2 (by omega) (by omega)
          have te3 := tN (x + p2) (by omega)
          have hT := TB_new (q := p2.toNatClampNeg) (lf := lf) (k := k) (x := x.toNatClampNeg) (by omega) (by omega) ht (by rw [tx, ← hk]; exact h3) (by omega)
          rw [rdI_o (jin_of (by omega) (by omega)), show (53 * i + x + 1).toNatClampNeg = 53 * (k + 1) + x.toNatClampNeg + 1 by omega, LA_e (by omega) (by omega) (by omega) (by omega), cb1_o, show (i - 1).toNatClampNeg = k by omega, show (x + p2).toNatClampNeg = x.toNatClampNeg + p2.toNatClampNeg by omega]
          refine Sf_ite (fun h7 => ?_) (fun h7 => ?_)
          · rw [rdI_o (jin_of (by omega) (by omega)), J150_e]
            refine J _ ?_
            rw [if_pos h7] at hT
            rw [hk]
            exact hT
          · rw [J150_e]
            refine J _ ?_
            rw [if_neg h7] at hT
            rw [hk]
            exact hT
theorem pen_L58 {K : (Nat → Int32) → Option (Int32 × (Nat → Int32))} (hp : 1 ≤ p1.toInt) (hp' : p1.toInt ≤ 6) (hp2 : 1 ≤ p2.toInt) (hp3 : p2.toInt ≤ 10) (ht : ∀ j, 0 ≤ (ten j).toInt ∧ (ten j).toInt ≤ 10)
    (hK : ∀ lf : Nat → Int32, DN ten p2.toNatClampNeg lf (p1.toNatClampNeg + 1) 40 → Sf (K lf) P) : ∀ (n : Nat) (x : Int32) (lf : Nat → Int32), 0 ≤ x.toInt → x.toInt ≤ p1.toInt + 1 → DN ten p2.toNatClampNeg lf x.toNatClampNeg 40 → p1.toInt + 2 - x.toInt < (n : Int) →
    Sf (f_X12_pen_L58 ten p1 p2 K n x lf) P := by
  have l : (40 : Int32).toInt = 40 := by decide
  have := FUi
  have tp := tN p1 (by omega)
  intro n
  induction n with
  | zero => intro x lf h1 h2 h3 h4; exact absurd h4 (by omega)
  | succ n ih =>
    intro x lf h1 h2 h3 h4
    have tx := tN x h1
    rw [f_X12_pen_L58]
    refine Sf_ite (fun h => ?_) (fun h => ?_)
    · have c := ltI h
      refine hK lf ?_
      rw [show p1.toNatClampNeg + 1 = x.toNatClampNeg by omega]
      exact h3
    · have c := nltI h
      refine pen_L68 h1 (by omega) hp2 hp3 ht (fun y lf2 hy hd => ih y lf2 (by omega) (by omega) hd (by omega)) FU 40 lf (by omega) (by omega) ?_ (by omega)
      rw [l]
      exact h3
end pens
