/-! the reference's pen: its table of least values -/
def nd (q : Nat) : Nat → Nat
  | 0 => 0
  | k + 1 => nd q k + q
def pw : Nat → Int
  | 0 => 1
  | k + 1 => 10 * pw k
theorem nd_mul (q : Nat) : ∀ k, nd q k = k * q := by
  intro k
  induction k with
  | zero => rw [Nat.zero_mul]; rfl
  | succ k ih => rw [Nat.succ_mul, ← ih]; rfl
theorem pw_le : ∀ k : Nat, k ≤ 5 → 1 ≤ pw k ∧ pw k ≤ 100000
  | 0, _ => by decide
  | 1, _ => by decide
  | 2, _ => by decide
  | 3, _ => by decide
  | 4, _ => by decide
  | 5, _ => by decide
  | k + 6, h => absurd h (by omega)
def LA (lf : Nat → Int32) (i j : Nat) : Int32 := if j ≤ 40 then lf (53 * i + j) else if i = 0 then 1 else -1
def TB (ten : Nat → Int32) (q : Nat) (lf : Nat → Int32) : Nat → Nat → Prop
  | 0, j => (lf j).toInt = 1
  | k + 1, j => (j + nd q k ≤ 39 → 0 ≤ (lf (53 * (k + 1) + j)).toInt ∧ (lf (53 * (k + 1) + j)).toInt ≤ pw (k + 1)) ∧ (0 ≤ (lf (53 * (k + 1) + j)).toInt → j < 40 ∧ (lf (53 * (k + 1) + j) = lf (53 * (k + 1) + j + 1) ∨ (0 ≤ (LA lf k (j + q)).toInt ∧ (10 - ten j) * LA lf k (j + q) = lf (53 * (k + 1) + j))))
theorem TB_succ {ten : Nat → Int32} {q : Nat} {lf : Nat → Int32} {k j : Nat} : TB ten q lf (k + 1) j = ((j + nd q k ≤ 39 → 0 ≤ (lf (53 * (k + 1) + j)).toInt ∧ (lf (53 * (k + 1) + j)).toInt ≤ pw (k + 1)) ∧ (0 ≤ (lf (53 * (k + 1) + j)).toInt → j < 40 ∧ (lf (53 * (k + 1) + j) = lf (53 * (k + 1) + j + 1) ∨ (0 ≤ (LA lf k (j + q)).toInt ∧ (10 - ten j) * LA lf k (j + q) = lf (53 * (k + 1) + j))))) := rfl
def DN (ten : Nat → Int32) (q : Nat) (lf : Nat → Int32) (i : Nat) (x : Int) : Prop := ∀ i' j' : Nat, j' ≤ 40 → (i' < i ∨ (i' = i ∧ x < (j' : Int))) → TB ten q lf i' j'
theorem TB_congr {ten : Nat → Int32} {q : Nat} {lf lf' : Nat → Int32} {i j : Nat} (h : TB ten q lf i j) (e1 : lf' (53 * i + j) = lf (53 * i + j)) (e2 : lf' (53 * i + j + 1) = lf (53 * i + j + 1)) (e3 : ∀ k n : Nat, k < i → n ≤ 40 → lf' (53 * k + n) = lf (53 * k + n)) : TB ten q lf' i j := by
  cases i with
  | zero =>
    have e : lf' j = lf j := by
      have := e1
      rw [show 53 * 0 + j = j by omega] at this
      exact this
    show (lf' j).toInt = 1
    rw [e]
    exact h
  | succ k =>
    have e4 : LA lf' k (j + q) = LA lf k (j + q) := by
      unfold LA
      by_cases c : j + q ≤ 40
      · rw [if_pos c, if_pos c, e3 k (j + q) (by omega) c]
      · rw [if_neg c, if_neg c]
    rw [TB_succ, e1, e2, e4]
    exact h
theorem DN_step {ten : Nat → Int32} {q : Nat} {lf : Nat → Int32} {i x : Nat} {v : Int32} (h : DN ten q lf i (x : Int)) (hx : x ≤ 40) (hv : TB ten q (upd lf (53 * i + x) v) i x) : DN ten q (upd lf (53 * i + x) v) i ((x : Int) - 1) := by
  intro i' j' hj hc
  by_cases c : i' = i ∧ j' = x
  · rw [c.1, c.2]; exact hv
  · refine TB_congr (h i' j' hj (by omega)) ?_ ?_ (fun k n hk hn => ?_)
    · exact if_neg (by omega)
    · exact if_neg (by omega)
    · exact if_neg (by omega)
/-- what the table takes of two -/
def chs (v t : Int32) : Int32 := if t < 0 then v else if v < 0 then t else if v ≤ t then v else t
theorem prod_e {a r : Int32} (h1 : 0 ≤ a.toInt) (h2 : a.toInt ≤ 10) (h3 : 0 ≤ r.toInt) (h4 : r.toInt ≤ 100000) : 0 ≤ ((10 - a) * r).toInt ∧ ((10 - a) * r).toInt ≤ 10 * r.toInt := by
  have l : (10 : Int32).toInt = 10 := by decide
  have e1 := sbX 10 a (by omega) (by omega)
  have b1 : 0 ≤ (10 - a).toInt * r.toInt := Int.mul_nonneg (by omega) h3
  have b2 : (10 - a).toInt * r.toInt ≤ 10 * r.toInt := Int.mul_le_mul_of_nonneg_right (by omega) h3
  have e2 : ((10 - a) * r).toInt = (10 - a).toInt * r.toInt := by
    rw [Int32.toInt_mul]; exact Int.bmod_eq_of_le (by omega) (by omega)
  omega
theorem TB_new {ten : Nat → Int32} {q : Nat} {lf : Nat → Int32} {k x : Nat} (hk : k ≤ 5) (hq : 1 ≤ q) (ht : ∀ j, 0 ≤ (ten j).toInt ∧ (ten j).toInt ≤ 10) (h : DN ten q lf (k + 1) (x : Int)) (hx : x < 40) :
    TB ten q (upd lf (53 * (k + 1) + x) (chs (lf (53 * (k + 1) + x + 1)) (if 0 ≤ LA lf k (x + q) then (10 - ten x) * LA lf k (x + q) else -1))) (k + 1) x := by
  obtain ⟨v, hv⟩ : ∃ v, v = lf (53 * (k + 1) + x + 1) := ⟨_, rfl⟩
  obtain ⟨r, hr⟩ : ∃ r, r = LA lf k (x + q) := ⟨_, rfl⟩
  obtain ⟨t, hte⟩ : ∃ t, t = (if 0 ≤ r then (10 - ten x) * r else -1) := ⟨_, rfl⟩
  rw [← hv, ← hr, ← hte]
  have z : (0 : Int32).toInt = 0 := by decide
  have m1 : ((-1) : Int32).toInt = -1 := by decide
  have u1 : upd lf (53 * (k + 1) + x) (chs v t) (53 * (k + 1) + x) = chs v t := if_pos rfl
  have u2 : upd lf (53 * (k + 1) + x) (chs v t) (53 * (k + 1) + x + 1) = v := by rw [hv]; exact if_neg (by omega)
  have u3 : LA (upd lf (53 * (k + 1) + x) (chs v t)) k (x + q) = r := by
    rw [hr]
    unfold LA
    by_cases c : x + q ≤ 40
    · rw [if_pos c, if_pos c]; exact if_neg (by omega)
    · rw [if_neg c, if_neg c]
  rw [TB_succ, u1, u2, u3]
  refine ⟨fun hn => ?_, fun hn => ⟨hx, ?_⟩⟩
  · have hrb : 0 ≤ r.toInt ∧ r.toInt ≤ pw k := by
      rw [hr]
      unfold LA
      cases k with
      | zero =>
        by_cases c : x + q ≤ 40
        · rw [if_pos c, show 53 * 0 + (x + q) = x + q by omega]
          have : (lf (x + q)).toInt = 1 := h 0 (x + q) c (Or.inl (by omega))
          exact ⟨by omega, by show _ ≤ (1 : Int); omega⟩
        · rw [if_neg c, if_pos rfl]
          exact ⟨by decide, by decide⟩
      | succ k' =>
        have hn' : x + (nd q k' + q) ≤ 39 := hn
        have c : x + q ≤ 40 := by omega
        rw [if_pos c]
        have := h (k' + 1) (x + q) c (Or.inl (by omega))
        exact this.1 (by omega)
    have hp := pw_le k hk
    have hpr := prod_e (ht x).1 (ht x).2 hrb.1 (by omega)
    have et : t = (10 - ten x) * r := by rw [hte, if_pos (Int32.le_iff_toInt_le.mpr (by omega))]
    rw [← et] at hpr
    have hpw : pw (k + 1) = 10 * pw k := rfl
    unfold chs
    by_cases c1 : t < 0
    · have := ltI c1; omega
    · rw [if_neg c1]
      by_cases c2 : v < 0
      · rw [if_pos c2]; exact ⟨hpr.1, by omega⟩
      · rw [if_neg c2]
        have c2' := nltI c2
        by_cases c3 : v ≤ t
        · rw [if_pos c3]; have := leI c3; exact ⟨by omega, by omega⟩
        · rw [if_neg c3]; exact ⟨hpr.1, by omega⟩
  · unfold chs at hn ⊢
    by_cases c1 : t < 0
    · rw [if_pos c1]; exact Or.inl rfl
    · rw [if_neg c1]
      have c1' := nltI c1
      have hrt : 0 ≤ r.toInt ∧ (10 - ten x) * r = t := by
        by_cases c4 : 0 ≤ r
        · rw [if_pos c4] at hte; have := leI c4; exact ⟨by omega, hte.symm⟩
        · rw [if_neg c4] at hte; have := eqI hte; omega
      by_cases c2 : v < 0
      · rw [if_pos c2]; exact Or.inr hrt
      · rw [if_neg c2]
        by_cases c3 : v ≤ t
        · rw [if_pos c3]; exact Or.inl rfl
        · rw [if_neg c3]; exact Or.inr hrt
