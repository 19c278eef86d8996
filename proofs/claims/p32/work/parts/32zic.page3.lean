/-! the window of a source -/
theorem ma_int {a b : Int32} (h1 : 0 ≤ a.toInt ∧ a.toInt ≤ 1439) (h2 : 0 ≤ b.toInt ∧ b.toInt ≤ 1439) : ∃ δ : Int, (δ = a.toInt - b.toInt ∨ δ = b.toInt - a.toInt) ∧ 0 ≤ δ ∧ ((jmin (jabs (a - b)) (1440 - jabs (a - b))).toInt = δ ∨ (jmin (jabs (a - b)) (1440 - jabs (a - b))).toInt = 1440 - δ) := by
  have l0 : (0 : Int32).toInt = 0 := by decide
  have l1 : (1440 : Int32).toInt = 1440 := by decide
  have s1 := sbX a b (by omega) (by omega)
  have s3 := sbX 0 (a - b) (by omega) (by omega)
  have key : ∀ v : Int32, 0 ≤ v.toInt → v.toInt ≤ 1439 → ((jmin v (1440 - v)).toInt = v.toInt ∨ (jmin v (1440 - v)).toInt = 1440 - v.toInt) := by
    intro v h3 h4
    have s4 := sbX 1440 v (by omega) (by omega)
    unfold jmin
    split
    · right; omega
    · left; rfl
  by_cases c : 0 ≤ a - b
  · have c' := leI c
    have e : jabs (a - b) = a - b := by unfold jabs; rw [if_pos c]
    rw [e]
    refine ⟨a.toInt - b.toInt, Or.inl rfl, by omega, ?_⟩
    have := key (a - b) (by omega) (by omega)
    omega
  · have c' := nleI c
    have e : jabs (a - b) = 0 - (a - b) := by unfold jabs; rw [if_neg c]
    rw [e]
    refine ⟨b.toInt - a.toInt, Or.inr rfl, by omega, ?_⟩
    have := key (0 - (a - b)) (by omega) (by omega)
    omega
noncomputable def t0_of (bs mo : Nat → Int32) (s : Nat) (d : Int32) : Int32 := if bs s = 0 then mo s else mo s - 4 * d
def mJ_of (T : Int) (w i : Nat) : Nat := ((T + (i : Int) - (w : Int)) % 1440).toNat
section WN
variable {bs mo wi : Nat → Int32} {s w : Nat} {d : Int32}
theorem t0_rg (hd : 0 ≤ d.toInt ∧ d.toInt ≤ 399) (hm : 0 ≤ (mo s).toInt ∧ (mo s).toInt ≤ 1439) : (t0_of bs mo s d).toInt = if bs s = 0 then (mo s).toInt else (mo s).toInt - 4 * d.toInt := by
  have l4 : (4 : Int32).toInt = 4 := by decide
  have m1 := mlY 4 d 4 l4 (by omega) (by omega)
  have m2 := sbX (mo s) (4 * d) (by omega) (by omega)
  unfold t0_of
  split
  · rfl
  · omega
theorem cov (hd : 0 ≤ d.toInt ∧ d.toInt ≤ 399) (hm : 0 ≤ (mo s).toInt ∧ (mo s).toInt ≤ 1439) (hw : w ≤ 30) (hwi : wi s = nI w) {m : Nat} (hm2 : m < 1440) (hA : ¬ wi s < A_of bs mo s d (nI m)) : ∃ j, j < 2 * w + 1 ∧ mJ_of (t0_of bs mo s d).toInt w j = m := by
  have tw : (nI w).toInt = (w : Int) := nI_toInt (by omega)
  have tm : (nI m).toInt = (m : Int) := nI_toInt (by omega)
  have l4 : (4 : Int32).toInt = 4 := by decide
  have l5 : (1440 : Int32).toInt = 1440 := by decide
  have hA' := nltI hA
  rw [hwi, tw] at hA'
  have ht0 := t0_rg (bs := bs) (s := s) hd hm
  have m1 := mlY 4 d 4 l4 (by omega) (by omega)
  have m2 := adX (nI m) (4 * d) (by omega) (by omega)
  have hS : (S_of d (nI m)).toInt = ((m : Int) + 4 * d.toInt) % 1440 := by
    unfold S_of
    rw [jrem_nn _ _ (by omega) (by omega), m2, m1, tm, l5]
  have fin : ∀ (T e : Int), (t0_of bs mo s d).toInt = T → (T + e) % 1440 = m → ((-(w : Int) ≤ e ∧ e ≤ w) ∨ (1440 - (w : Int) ≤ e ∧ e ≤ 1440) ∨ (-1440 ≤ e ∧ e ≤ (w : Int) - 1440)) → ∃ j, j < 2 * w + 1 ∧ mJ_of (t0_of bs mo s d).toInt w j = m := by
    intro T e hT he hc
    unfold mJ_of
    rw [hT]
    rcases hc with hc | hc | hc
    · exact ⟨((w : Int) + e).toNat, by omega, by omega⟩
    · exact ⟨((w : Int) + e - 1440).toNat, by omega, by omega⟩
    · exact ⟨((w : Int) + e + 1440).toNat, by omega, by omega⟩
  unfold A_of at hA'
  by_cases c : bs s = 0
  · rw [if_pos c] at hA' ht0
    obtain ⟨δ, h1, h2, h3⟩ := ma_int (a := nI m) (b := mo s) (by omega) hm
    exact fin (mo s).toInt ((m : Int) - (mo s).toInt) ht0 (by omega) (by omega)
  · rw [if_neg c] at hA' ht0
    have hSr : 0 ≤ (S_of d (nI m)).toInt ∧ (S_of d (nI m)).toInt ≤ 1439 := by omega
    obtain ⟨δ, h1, h2, h3⟩ := ma_int (a := S_of d (nI m)) (b := mo s) hSr hm
    exact fin ((mo s).toInt - 4 * d.toInt) ((S_of d (nI m)).toInt - (mo s).toInt) ht0 (by omega) (by omega)
end WN
section LO
variable {G : kG} {sd : Int32} {bs mo wi wd code ca cf ct sf many Hm he hi sp Lt vals : Nat → Int32} {s w : Nat} {d shp : Int32} {x : kTx}
theorem layOne_e (hd : 0 ≤ d.toInt ∧ d.toInt ≤ 399) (hm : 0 ≤ (mo s).toInt ∧ (mo s).toInt ≤ 1439) (hw : w ≤ 30) (hwi : wi s = nI w) (hx : G.2 s = some x) (hH : ∀ m, m < 1440 → isH G sd bs mo wi wd code ca cf ct sf many s d (nI m) (Hm m)) (hpos : ∀ m, m < 1440 → 0 ≤ (hi m).toInt) (hL : LtS Lt) :
    Sf (f_X7_layOne x.2.2.1.1 x.2.2.2.2.1 x.2.2.2.1.1 sd d (nI s) (bs s) (mo s) (wi s) shp (wd s) he hi sp x.2.1 x.2.2.1.2 x.2.2.2.2.2 x.2.2.2.1.2 Lt vals) (fun y => LtS y.2.2.2.1 ∧ ∀ m, m < 1440 → (y.1 m, y.2.1 m, y.2.2.1 m) = pAdd (he m, hi m, sp m) (Hm m) shp) := by
  have tw : (nI w).toInt = (w : Int) := nI_toInt (by omega)
  have l0 : (0 : Int32).toInt = 0 := by decide
  have ht0 := t0_rg (bs := bs) (s := s) hd hm
  have hT : -1600 ≤ (t0_of bs mo s d).toInt ∧ (t0_of bs mo s d).toInt ≤ 1439 := by split at ht0 <;> omega
  have hneg : (-(wi s)).toInt = -(w : Int) := by rw [ngX (wi s) (by rw [hwi]; omega), hwi, tw]
  have hX : ∀ i, i ≤ 2 * w + 1 → (-(wi s) + nI i).toInt = (i : Int) - w := fun i hi => by
    have ti : (nI i).toInt = (i : Int) := nI_toInt (by omega)
    rw [adX (-(wi s)) (nI i) (by omega) (by omega)]; omega
  have hX0 : -(wi s) = -(wi s) + nI 0 := i32_eq (by rw [hX 0 (by omega)]; omega)
  obtain ⟨n, hn⟩ : ∃ n, FU = n + (2 * w + 1) + 1 := ⟨FU - (2 * w + 1) - 1, by have := FU_ge; omega⟩
  have hmain := one_L (G := G) (sd := sd) (bs := bs) (mo := mo) (wi := wi) (wd := wd) (code := code) (ca := ca) (cf := cf) (ct := ct) (sf := sf) (many := many) (Hm := Hm) (s := s) (w := w) (d := d) (t0 := t0_of bs mo s d) (shp := shp) (x := x) (mJ := mJ_of (t0_of bs mo s d).toInt w) (X := fun i => -(wi s) + nI i) (r0 := fun m => (he m, hi m, sp m)) hw hwi hx hH hX (fun i hi => by
      have hXi := hX i (by omega)
      have ha := adX (t0_of bs mo s d) (-(wi s) + nI i) (by omega) (by omega)
      obtain ⟨q, q1, q2, q3⟩ := fmod_e (p := t0_of bs mo s d + (-(wi s) + nI i)) (by omega) (by omega)
      have : mJ_of (t0_of bs mo s d).toInt w i = q := by unfold mJ_of; rw [ha, hXi] at q2; omega
      rw [this]; exact ⟨q1, q3⟩) (fun i j hi hj h => by unfold mJ_of at h; omega) (2 * w + 1) 0 n he hi sp Lt vals (by omega) hL (fun m hm => ⟨fun ⟨j, hj, _⟩ => absurd hj (by omega), fun _ => rfl⟩)
  have hfin : Sf (f_X7_layOne_J25 sd d (nI s) (bs s) (mo s) (wi s) shp (wd s) he hi sp x.2.1 x.2.2.1.1 x.2.2.1.2 x.2.2.2.2.1 x.2.2.2.2.2 x.2.2.2.1.1 x.2.2.2.1.2 Lt vals (t0_of bs mo s d)) (fun y => LtS y.2.2.2.1 ∧ ∀ m, m < 1440 → (y.1 m, y.2.1 m, y.2.2.1 m) = pAdd (he m, hi m, sp m) (Hm m) shp) := by
    rw [f_X7_layOne_J25, nmI_o, hX0, hn]
    refine Sf_mono hmain (fun y hy => ⟨hy.1, fun m hm3 => ?_⟩)
    by_cases c : visd (mJ_of (t0_of bs mo s d).toInt w) (2 * w + 1) m
    · exact (hy.2 m hm3).1 c
    · have hz : Hm m = 0 := by
        refine (hH m hm3).2.2.2 (Or.inr (Or.inr ?_))
        by_cases c2 : wi s < A_of bs mo s d (nI m)
        · exact c2
        · exact absurd (cov hd hm hw hwi hm3 c2) c
      rw [(hy.2 m hm3).2 c, hz, pAdd_0 (show 0 ≤ (hi m).toInt from hpos m hm3)]
  rw [f_X7_layOne]
  unfold t0_of at hfin
  by_cases c : bs s = 0
  · rw [if_pos c] at hfin
    rw [if_pos c]; exact hfin
  · rw [if_neg c] at hfin
    rw [if_neg c]; exact hfin
end LO
