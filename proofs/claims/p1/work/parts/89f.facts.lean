def pV (P j n : Nat) : Int32 := if j = 0 then 1 else if n + (j - 1) * P < 40 then nI (10 ^ j) else -1
theorem p10 {r : Nat} (h : r ≤ 6) : 10 ^ r < 2147483648 := by
  have h1 : 10 ^ r ≤ 10 ^ 6 := Nat.pow_le_pow_right (by decide) h
  have h2 : (10 : Nat) ^ 6 = 1000000 := by decide
  omega
theorem nI_nm1 {a : Nat} (h : a < 2147483648) : ¬ nI a = -1 := fun q => by
  have h2 := nI_toInt h
  rw [q, i32_n1] at h2
  omega
theorem pV_0 (P n : Nat) : pV P 0 n = nI (10 ^ 0) := rfl
theorem pV_in {P j n : Nat} (h : n + (j - 1) * P < 40) : pV P j n = nI (10 ^ j) := by
  unfold pV
  by_cases h0 : j = 0
  · subst h0; rfl
  · rw [if_neg h0, if_pos h]
theorem pV_out {P j n : Nat} (h0 : 0 < j) (h : ¬ n + (j - 1) * P < 40) : pV P j n = -1 := by
  unfold pV
  rw [if_neg (by omega), if_neg h]
theorem pV_two (P j n : Nat) : pV P j n = nI (10 ^ j) ∨ (0 < j ∧ ¬ n + (j - 1) * P < 40 ∧ pV P j n = -1) := by
  rcases Nat.eq_zero_or_pos j with h | h
  · subst h; exact Or.inl rfl
  · by_cases q : n + (j - 1) * P < 40
    · exact Or.inl (pV_in q)
    · exact Or.inr ⟨h, q, pV_out h q⟩
theorem pV_step (P r x : Nat) (hx : x < 40) : (pV P r (x + P) = -1 ∧ pV P (r + 1) x = -1) ∨ (pV P r (x + P) = nI (10 ^ r) ∧ pV P (r + 1) x = nI (10 ^ (r + 1))) := by
  rcases Nat.eq_zero_or_pos r with h | h
  · subst h
    exact Or.inr ⟨rfl, pV_in (by omega)⟩
  · obtain ⟨t, rfl⟩ : ∃ t, r = t + 1 := ⟨r - 1, by omega⟩
    have e : (t + 1 + 1 - 1) * P = (t + 1 - 1) * P + P := by
      rw [show t + 1 + 1 - 1 = t + 1 from by omega, show t + 1 - 1 = t from by omega, Nat.succ_mul]
    by_cases q : x + P + (t + 1 - 1) * P < 40
    · exact Or.inr ⟨pV_in q, pV_in (by omega)⟩
    · exact Or.inl ⟨pV_out (by omega) q, pV_out (by omega) (by omega)⟩
theorem pV_min (P r x : Nat) : pV P r (min 40 (x + P)) = pV P r (x + P) := by
  rcases Nat.lt_or_ge 40 (x + P) with h | h
  · rw [Nat.min_eq_left (by omega)]
    rcases Nat.eq_zero_or_pos r with q | q
    · subst q; rfl
    · rw [pV_out q (by omega), pV_out q (by omega)]
  · rw [Nat.min_eq_right h]
theorem pV_next (P j x : Nat) : pV P j (x + 1) = -1 ∧ 0 < j ∨ pV P j (x + 1) = nI (10 ^ j) ∧ pV P j x = nI (10 ^ j) := by
  rcases pV_two P j (x + 1) with h | ⟨h0, h1, h2⟩
  · refine Or.inr ⟨h, ?_⟩
    rcases pV_two P j x with g | ⟨g0, g1, g2⟩
    · exact g
    · rw [pV_out g0 (by omega)] at h
      exact g2.trans h
  · exact Or.inl ⟨h2, h0⟩
theorem jmin_n {a b : Nat} (ha : a < 2147483648) (hb : b < 2147483648) : jmin (nI a) (nI b) = nI (min a b) := by
  unfold jmin
  rcases Nat.lt_or_ge b a with h | h
  · rw [if_pos (nI_lt h (by omega)), Nat.min_eq_right (by omega)]
  · rw [if_neg (nI_nlt h (by omega)), Nat.min_eq_left h]
theorem s10 : (10 : Int32) - 0 = nI 10 := by decide
theorem mul41 (r : Nat) : nI r * 41 = nI (r * 41) := pk_mul r 41
theorem miss_e (P r x : Nat) (best : Nat → Int32) (hP : P ≤ 10) (hr : r ≤ 5) (hx : x < 40) (hB : ∀ n, n ≤ 40 → best (r * 41 + n) = pV P r n) : f_X1_missesFrom best (fun _ => 0) (nI x) (nI r) (nI P) = some (pV P (r + 1) x) := by
  have hm : min 40 (x + P) ≤ 40 := Nat.min_le_left _ _
  rw [f_X1_missesFrom, mul41, nI_add x P, show (40 : Int32) = nI 40 from rfl, jmin_n (by decide) (by omega), nI_add, rdI_o (jin_n (by omega) (by decide)), nI_clamp (by omega), hB _ hm, pV_min]
  rcases pV_step P r x hx with ⟨h1, h2⟩ | ⟨h1, h2⟩
  · rw [h1, h2, if_pos rfl]
  · rw [h1, h2, if_neg (nI_nm1 (p10 (by omega))), rdI_o (jin_n hx (by decide)), s10, pk_mul, Nat.pow_succ, Nat.mul_comm]
/-- rows below j stand, and row j from c on -/
def pI (P S j c : Nat) (B : Nat → Int32) : Prop := (∀ r, r < j → ∀ n, n ≤ 40 → B (r * S + n) = pV P r n) ∧ ∀ n, c ≤ n → n ≤ 40 → B (j * S + n) = pV P j n
theorem pI_up {P S j x : Nat} {B : Nat → Int32} (hS : 41 ≤ S) (hx : x ≤ 40) (h : pI P S j (x + 1) B) : pI P S j x (upd B (j * S + x) (pV P j x)) := by
  refine ⟨fun r hr n hn => ?_, fun n h1 h2 => ?_⟩
  · have h3 : (r + 1) * S ≤ j * S := Nat.mul_le_mul_right S hr
    rw [Nat.succ_mul] at h3
    unfold upd
    rw [if_neg (by omega)]
    exact h.1 r hr n hn
  · unfold upd
    by_cases q : n = x
    · subst q; rw [if_pos rfl]
    · rw [if_neg (by omega)]
      exact h.2 n (by omega) h2
theorem pI_row {P S j : Nat} {B : Nat → Int32} (h : pI P S j 0 B) : ∀ r, r < j + 1 → ∀ n, n ≤ 40 → B (r * S + n) = pV P r n := fun r hr n hn => by
  rcases Nat.lt_or_ge r j with q | q
  · exact h.1 r q n hn
  · have : r = j := by omega
    subst this
    exact h.2 n (Nat.zero_le _) hn
theorem m1 (a : Nat) : nI (a + 1) - 1 = nI a := nI_pred a
theorem am1 (a : Nat) : nI a + (-1) = nI a - 1 := by rw [Int32.sub_eq_add_neg]
theorem w97 (P j x : Nat) (hj : j ≤ 6) (hx : x < 40) (B : Nat → Int32) (K : Int32 → (Nat → Int32) → Option (Nat → Int32)) : f_X1_weigh_J71 (nI j) (nI x) B (pV P j (x + 1)) K (pV P j x) = K (nI x - 1) (upd B (j * 41 + x) (pV P j x)) := by
  have hw : ∀ (t0 : Int32) (v50 t : Int32), (if t0 = 0 then v50 else t) = pV P j x → f_X1_weigh_J97 (nI j) (nI x) B v50 t K t0 = K (nI x - 1) (upd B (j * 41 + x) (pV P j x)) := by
    intro t0 v50 t he
    rw [f_X1_weigh_J97]
    by_cases q : t0 = 0
    · rw [if_pos q] at he
      rw [if_pos q, mul41, nI_add, wrI_o (jin_n (by omega) (by decide)), nmI_o, nI_clamp (by omega), he, am1]
    · rw [if_neg q] at he
      rw [if_neg q, mul41, nI_add, wrI_o (jin_n (by omega) (by decide)), nmI_o, nI_clamp (by omega), he, am1]
  rw [f_X1_weigh_J71]
  rcases pV_next P j x with ⟨h1, h2⟩ | ⟨h1, h2⟩
  · by_cases q : pV P j x = -1
    · rw [if_pos q]
      exact hw _ _ _ (by rw [if_pos rfl, h1, q])
    · rw [if_neg q, if_pos h1]
      exact hw _ _ _ (by rw [if_neg (by decide)])
  · have e := hw 0 (nI (10 ^ j)) (nI (10 ^ j)) (by rw [if_pos rfl, h2])
    rw [h2] at e
    rw [h1, h2, if_neg (nI_nm1 (p10 hj)), if_neg (nI_nm1 (p10 hj)), if_pos (Int32.le_refl _)]
    exact e
theorem weigh_in (P j : Nat) (hP : P ≤ 10) (hj : j ≤ 6) (K : Int32 → (Nat → Int32) → Option (Nat → Int32)) : ∀ (c f : Nat) (B : Nat → Int32), c ≤ 40 → c < f → pI P 41 j c B → ∃ B2, f_X1_weigh_L32 (fun _ => 0) (nI P) (nI j) K f (nI c - 1) B = K (nI (j + 1)) B2 ∧ pI P 41 j 0 B2 := by
  intro c
  induction c with
  | zero =>
    intro f B h1 h2 h3
    obtain ⟨g, rfl⟩ : ∃ g, f = g + 1 := ⟨f - 1, by omega⟩
    rw [f_X1_weigh_L32, if_pos (by decide), nmI_o, nI_1]
    exact ⟨B, rfl, h3⟩
  | succ x ih =>
    intro f B h1 h2 h3
    obtain ⟨g, rfl⟩ : ∃ g, f = g + 1 := ⟨f - 1, by omega⟩
    rw [f_X1_weigh_L32, m1, if_neg (nI_pos (by omega)), mul41, nI_add, nI_1, rdI_o (jin_n (by omega) (by decide)), nI_clamp (by omega), show j * 41 + x + 1 = j * 41 + (x + 1) from by omega, h3.2 (x + 1) (by omega) (by omega)]
    have hnext := ih g (upd B (j * 41 + x) (pV P j x)) (by omega) (by omega) (pI_up (by decide) (by omega) h3)
    by_cases h0 : j = 0
    · subst h0
      rw [if_pos (by decide)]
      have e := w97 P 0 x hj (by omega) B (f_X1_weigh_L32 (fun _ => 0) (nI P) (nI 0) K g)
      rw [pV_0 P x] at e
      exact (by rw [show (1 : Int32) = nI (10 ^ 0) from rfl, e, ← pV_0 P x]; exact hnext)
    · obtain ⟨r, rfl⟩ : ∃ r, j = r + 1 := ⟨j - 1, by omega⟩
      rw [if_neg (nI_ne0 (by omega) (by omega)), m1, miss_e P r x B hP (by omega) (by omega) (fun n hn => h3.1 r (by omega) n hn), cb1_o, w97 P (r + 1) x hj (by omega)]
      exact hnext
theorem weigh_L (P K : Nat) (hP : P ≤ 10) (hK : K ≤ 6) : ∀ (f j : Nat) (B : Nat → Int32), j ≤ K + 1 → K + 1 - j < f → (∀ r, r < j → ∀ n, n ≤ 40 → B (r * 41 + n) = pV P r n) → ∃ B2, f_X1_weigh_L2 (fun _ => 0) (nI K) (nI P) f (nI j) B = some B2 ∧ ∀ r, r < K + 1 → ∀ n, n ≤ 40 → B2 (r * 41 + n) = pV P r n := by
  intro f
  induction f with
  | zero => intro j B h1 h2; exact absurd h2 (by omega)
  | succ f ih =>
    intro j B h1 h2 h3
    rw [f_X1_weigh_L2]
    by_cases he : j = K + 1
    · subst he
      rw [if_pos (nI_lt (by omega) (by omega))]
      exact ⟨B, rfl, h3⟩
    · rw [if_neg (nI_nlt (by omega) (by omega))]
      have hJ : ∀ t : Int32, t = pV P j 40 → ∃ B2, f_X1_weigh_J27 (fun _ => 0) (nI P) (nI j) B (f_X1_weigh_L2 (fun _ => 0) (nI K) (nI P) f) t = some B2 ∧ ∀ r, r < K + 1 → ∀ n, n ≤ 40 → B2 (r * 41 + n) = pV P r n := by
        intro t et
        subst et
        rw [f_X1_weigh_J27, mul41, show (40 : Int32) = nI 40 from rfl, nI_add, wrI_o (jin_n (by omega) (by decide)), nI_clamp (by omega), show (39 : Int32) = nI 40 - 1 from by decide]
        obtain ⟨B2, e, h5⟩ := weigh_in P j hP (by omega) (f_X1_weigh_L2 (fun _ => 0) (nI K) (nI P) f) 40 FU (upd B (j * 41 + 40) (pV P j 40)) (by omega) (by unfold FU; omega) (pI_up (by decide) (by omega) ⟨h3, fun n a b => absurd b (by omega)⟩)
        rw [e]
        exact ih (j + 1) B2 (by omega) (by omega) (pI_row h5)
      by_cases h0 : j = 0
      · subst h0
        rw [if_pos (by decide)]
        exact hJ 1 rfl
      · rw [if_neg (nI_ne0 (by omega) (by omega))]
        exact hJ (-1) (pV_out (by omega) (by omega)).symm
theorem weigh_e (P K : Nat) (hP : P ≤ 10) (hK : K ≤ 6) : ∃ B2, f_X1_weigh (fun _ => 0) (fun _ => 0) (nI K) (nI P) = some B2 ∧ ∀ r, r < K + 1 → ∀ n, n ≤ 40 → B2 (r * 41 + n) = pV P r n := by
  rw [f_X1_weigh]
  exact weigh_L P K hP hK FU 0 (fun _ => 0) (by omega) (by unfold FU; omega) (fun r h => absurd h (by omega))
theorem ple {a b P : Nat} (h : a ≤ b) : a * P ≤ b * P := Nat.mul_le_mul_right P h
theorem choose_L (P K : Nat) (hP : P ≤ 10) (hK : K ≤ 6) (hKP : (K - 1) * P < 40) (B : Nat → Int32) (hB : ∀ r, r < K + 1 → ∀ n, n ≤ 40 → B (r * 41 + n) = pV P r n) : ∀ (f p : Nat) (x4 : Int32) (C : Nat → Int32), p ≤ K → K - p < f → (p < K → x4 = nI (p * P)) → (∀ q, q < p → C q = nI (q * P)) → ∃ C2, f_X1_choose_L27 (fun _ => 0) (nI K) (nI P) B (nI (10 ^ K)) f (nI (10 ^ p)) x4 (nI p) C = some (nI (10 ^ K), B, C2) ∧ ∀ q, q < K → C2 q = nI (q * P) := by
  intro f
  induction f with
  | zero => intro p x4 C h1 h2; exact absurd h2 (by omega)
  | succ f ih =>
    intro p x4 C h1 h2 h3 h4
    rw [f_X1_choose_L27]
    by_cases he : p = K
    · subst he
      rw [if_pos (nI_le (Nat.le_refl _) (by omega))]
      exact ⟨C, rfl, h4⟩
    · have hpK : p < K := by omega
      rw [h3 hpK]
      have hle : p * P ≤ (K - 1) * P := ple (by omega)
      have hsum : p * P + (K - p - 1) * P = (K - 1) * P := by rw [← Nat.add_mul]; congr 1; omega
      have hJ : ∃ C2, f_X1_choose_J67 (fun _ => 0) (nI P) (nI (10 ^ p)) (nI p) C (f_X1_choose_L27 (fun _ => 0) (nI K) (nI P) B (nI (10 ^ K)) f) (nI (p * P)) = some (nI (10 ^ K), B, C2) ∧ ∀ q, q < K → C2 q = nI (q * P) := by
        rw [f_X1_choose_J67, wrI_o (jin_n (by omega) (by decide)), rdI_o (jin_n (by omega) (by decide)), nmI_o, nmI_o, nmI_o, nI_1, nI_clamp (by omega), s10, pk_mul, ← Nat.pow_succ, nI_add, show (39 : Int32) = nI 39 from rfl, jmin_n (by decide) (by omega)]
        refine ih (p + 1) _ _ (by omega) (by omega) (fun hp => ?_) (fun q hq => ?_)
        · have h5 : (p + 1) * P ≤ (K - 1) * P := ple (by omega)
          rw [Nat.succ_mul] at h5 ⊢
          rw [Nat.min_eq_right (by omega)]
        · unfold upd
          by_cases hqp : q = p
          · subst hqp; rw [if_pos rfl]
          · rw [if_neg hqp]; exact h4 q (by omega)
      rw [if_neg (nI_ge hpK (by omega)), nmI_o, pk_sub (by omega), show nI (K - p) - 1 = nI (K - p - 1) from pk_sub (b := 1) (by omega)]
      obtain ⟨g, hg⟩ := FU_s 1 (by decide)
      rw [hg, f_X1_choose_L41]
      by_cases hc : (39 : Int32) ≤ nI (p * P)
      · rw [if_pos hc]; exact hJ
      · have hgo : f_X1_goesOn (nI (10 ^ K)) B (fun _ => 0) (nI (10 ^ p)) (nI (p * P)) (nI (K - p - 1)) (nI P) = some 1 := by
          rw [f_X1_goesOn, miss_e P (K - p - 1) (p * P) B hP (by omega) (by omega) (fun n hn => hB _ (by omega) n hn), cb1_o, show K - p - 1 + 1 = K - p from by omega, pV_in (by rw [show p * P + (K - p - 1) * P = (K - 1) * P from hsum]; exact hKP), if_neg (nI_nm1 (p10 (by omega))), pk_mul, ← Nat.pow_add, show p + (K - p) = K from by omega, if_pos rfl]
        rw [if_neg hc, hgo, cb1_o, if_neg (by decide)]
        exact hJ
theorem choose_e (P K : Nat) (hP : P ≤ 10) (hK1 : 1 ≤ K) (hK : K ≤ 6) (hKP : (K - 1) * P < 40) : ∃ B C, f_X1_choose 0 (fun _ => 0) (fun _ => 0) (fun _ => 0) (nI K) (nI P) = some (nI (10 ^ K), B, C) ∧ ∀ q, q < K → C q = nI (q * P) := by
  obtain ⟨B, e, hB⟩ := weigh_e P K hP hK
  obtain ⟨C, e2, hC⟩ := choose_L P K hP hK hKP B hB FU 0 0 (fun _ => 0) (by omega) (by unfold FU; omega) (fun _ => by rw [Nat.zero_mul]; rfl) (fun q h => absurd h (by omega))
  refine ⟨B, C, ?_, hC⟩
  have h0 : B (K * 41) = nI (10 ^ K) := by
    have := hB K (by omega) 0 (by omega)
    rw [Nat.add_zero] at this
    rw [this, pV_in (by omega)]
  rw [f_X1_choose, cb1_e e, mul41, rdI_o (jin_n (by omega) (by decide)), nI_clamp (by omega), h0]
  exact e2
theorem mul53 (r : Nat) : 53 * nI r = nI (r * 53) := by rw [show (53 : Int32) = nI 53 from rfl, pk_mul, Nat.mul_comm]
theorem least_e (P r y : Nat) (lf : Nat → Int32) (hr : r ≤ 6) (hy : y ≤ 100) (hB : ∀ n, n ≤ 40 → lf (r * 53 + n) = pV P r n) : f_X12_leastAt lf (nI r) (nI y) = some (pV P r y) := by
  rw [f_X12_leastAt]
  by_cases h : y ≤ 40
  · rw [if_pos (show nI y ≤ (40 : Int32) from nI_le (b := 40) h (by decide)), mul53, nI_add, rdI_o (jin_n (by omega) (by decide)), nI_clamp (by omega), hB y h]
  · rw [if_neg (show ¬ nI y ≤ (40 : Int32) from nI_ge (a := 40) (b := y) (by omega) (by omega))]
    rcases Nat.eq_zero_or_pos r with q | q
    · subst q
      rw [if_pos (by decide)]; rfl
    · rw [if_neg (nI_ne0 q (by omega)), pV_out q (by omega)]
theorem nge {r : Nat} (h : r ≤ 6) : ¬ nI (10 ^ r) < 0 := nI_pos (p10 h)
theorem m150 (P j x : Nat) (hj : j ≤ 6) (K : Int32 → Option (Int32 × (Nat → Int32))) : f_X12_pen_J150 (pV P j (x + 1)) K (pV P j x) = K (pV P j x) := by
  rw [f_X12_pen_J150]
  rcases pV_next P j x with ⟨h1, h2⟩ | ⟨h1, h2⟩
  · rcases pV_two P j x with h | ⟨_, _, h⟩
    · rw [h, h1, if_neg (nge hj), if_pos (by decide)]
    · rw [h, h1, if_pos (by decide)]
  · rw [h1, h2, if_neg (nge hj), if_neg (nge hj), if_pos (Int32.le_refl _)]
theorem m173 (P j x : Nat) (hj : j ≤ 6) (hx : x ≤ 40) (B : Nat → Int32) (K : Int32 → (Nat → Int32) → Option (Int32 × (Nat → Int32))) : f_X12_pen_J173 (nI j) (nI x) B K (pV P j x) = K (nI x - 1) (upd B (j * 53 + x) (pV P j x)) := by
  rw [f_X12_pen_J173, mul53, nI_add, wrI_o (jin_n (by omega) (by decide)), nmI_o, nI_clamp (by omega), am1]
theorem pen_in (P j : Nat) (hP : P ≤ 10) (hj : j ≤ 6) (K : Int32 → (Nat → Int32) → Option (Int32 × (Nat → Int32))) : ∀ (c f : Nat) (B : Nat → Int32), c ≤ 41 → c < f → pI P 53 j c B → ∃ B2, f_X12_pen_L68 (fun _ => 0) (nI P) (nI j) K f (nI c - 1) B = K (nI (j + 1)) B2 ∧ pI P 53 j 0 B2 := by
  intro c
  induction c with
  | zero =>
    intro f B h1 h2 h3
    obtain ⟨g, rfl⟩ : ∃ g, f = g + 1 := ⟨f - 1, by omega⟩
    rw [f_X12_pen_L68, if_pos (by decide), nmI_o, nI_1]
    exact ⟨B, rfl, h3⟩
  | succ x ih =>
    intro f B h1 h2 h3
    obtain ⟨g, rfl⟩ : ∃ g, f = g + 1 := ⟨f - 1, by omega⟩
    rw [f_X12_pen_L68, m1, if_neg (nI_pos (by omega))]
    have hnext := ih g (upd B (j * 53 + x) (pV P j x)) (by omega) (by omega) (pI_up (by decide) (by omega) h3)
    by_cases h0 : j = 0
    · subst h0
      rw [if_pos (by decide), f_X12_pen_J83, if_pos (by decide)]
      exact (by rw [show (1 : Int32) = pV P 0 x from rfl, m173 P 0 x hj (by omega)]; exact hnext)
    · obtain ⟨r, rfl⟩ : ∃ r, j = r + 1 := ⟨j - 1, by omega⟩
      rw [if_neg (nI_ne0 (by omega) (by omega)), f_X12_pen_J83, if_neg (nI_nle (by omega) (by omega))]
      by_cases hx : x = 40
      · subst hx
        rw [if_pos (by decide), show (-1 : Int32) = pV P (r + 1) 40 from (pV_out (by omega) (by omega)).symm, m173 P (r + 1) 40 hj (by omega)]
        exact hnext
      · rw [if_neg (show ¬ (40 : Int32) ≤ nI x from nI_ge (a := x) (b := 40) (by omega) (by decide)), mul53, nI_add, nI_1, rdI_o (jin_n (by omega) (by decide)), nI_clamp (by omega), show (r + 1) * 53 + x + 1 = (r + 1) * 53 + (x + 1) from by omega, h3.2 (x + 1) (by omega) (by omega), m1, nI_add x P, least_e P r (x + P) B (by omega) (by omega) (fun n hn => h3.1 r (by omega) n hn), cb1_o]
        rcases pV_step P r x (by omega) with ⟨a1, a2⟩ | ⟨a1, a2⟩
        · rw [a1, if_neg (by decide), ← a2, m150 P (r + 1) x hj, m173 P (r + 1) x hj (by omega)]
          exact hnext
        · rw [a1, if_pos (nI_pos' (p10 (by omega))), rdI_o (jin_n (by omega) (by decide)), s10, pk_mul, show 10 * 10 ^ r = 10 ^ (r + 1) from by rw [Nat.pow_succ, Nat.mul_comm], ← a2, m150 P (r + 1) x hj, m173 P (r + 1) x hj (by omega)]
          exact hnext
theorem pen_L (P K : Nat) (hP : P ≤ 10) (hK : K ≤ 6) (K2 : (Nat → Int32) → Option (Int32 × (Nat → Int32))) : ∀ (f j : Nat) (B : Nat → Int32), j ≤ K + 1 → K + 1 - j < f → (∀ r, r < j → ∀ n, n ≤ 40 → B (r * 53 + n) = pV P r n) → ∃ B2, f_X12_pen_L58 (fun _ => 0) (nI K) (nI P) K2 f (nI j) B = K2 B2 ∧ ∀ r, r < K + 1 → ∀ n, n ≤ 40 → B2 (r * 53 + n) = pV P r n := by
  intro f
  induction f with
  | zero => intro j B h1 h2; exact absurd h2 (by omega)
  | succ f ih =>
    intro j B h1 h2 h3
    rw [f_X12_pen_L58]
    by_cases he : j = K + 1
    · subst he
      rw [if_pos (nI_lt (by omega) (by omega))]
      exact ⟨B, rfl, h3⟩
    · rw [if_neg (nI_nlt (by omega) (by omega)), show (40 : Int32) = nI 41 - 1 from by decide]
      obtain ⟨B2, e, h5⟩ := pen_in P j hP (by omega) (f_X12_pen_L58 (fun _ => 0) (nI K) (nI P) K2 f) 41 FU B (by omega) (by unfold FU; omega) ⟨h3, fun n a b => absurd b (by omega)⟩
      rw [e]
      exact ih (j + 1) B2 (by omega) (by omega) (pI_row h5)
theorem pen_W (P K w : Nat) (hP : P ≤ 10) (hK : K ≤ 6) (hKP : (K - 1) * P < 40) (hw : w < K) (B : Nat → Int32) (hB : ∀ r, r < K + 1 → ∀ n, n ≤ 40 → B (r * 53 + n) = pV P r n) : ∀ (f n : Nat), K ≤ w + n → n ≤ K → n < f → f_X12_pen_L222 (fun _ => 0) (nI K) (nI P) (nI w) B f (nI ((K - n) * P)) (nI n) = some (nI (w * P), B) := by
  intro f
  induction f with
  | zero => intro n h1 h2 h3; exact absurd h3 (by omega)
  | succ f ih =>
    intro n h1 h2 h3
    obtain ⟨t, rfl⟩ : ∃ t, n = t + 1 := ⟨n - 1, by omega⟩
    have hle : (K - (t + 1)) * P ≤ (K - 1) * P := ple (by omega)
    have hsum : (K - (t + 1)) * P + t * P = (K - 1) * P := by rw [← Nat.add_mul]; congr 1; omega
    have h10 : pV P (t + 1) ((K - (t + 1)) * P) = nI (10 ^ (t + 1)) := pV_in (by rw [show t + 1 - 1 = t from by omega, hsum]; exact hKP)
    have hst : pV P t ((K - (t + 1)) * P + P) = nI (10 ^ t) := by
      rcases pV_step P t ((K - (t + 1)) * P) (by omega) with ⟨_, a2⟩ | ⟨a1, _⟩
      · exact absurd (h10.symm.trans a2) (nI_nm1 (p10 (by omega)))
      · exact a1
    obtain ⟨g, hg⟩ := FU_s 1 (by decide)
    rw [f_X12_pen_L222, if_neg (nI_nle (by omega) (by omega)), hg, f_X12_pen_L227, m1, nI_add, least_e P t _ B (by omega) (by omega) (fun n hn => hB t (by omega) n hn), cb1_o, hst, if_neg (nge (by omega)), rdI_o (jin_n (by omega) (by decide)), cb1_o, mul53, nI_add, rdI_o (jin_n (by omega) (by decide)), nI_clamp (by omega), hB (t + 1) (by omega) _ (by omega), h10, s10, pk_mul, show 10 * 10 ^ t = 10 ^ (t + 1) from by rw [Nat.pow_succ, Nat.mul_comm], if_pos rfl, f_X12_pen_J287, pk_sub (by omega)]
    by_cases he : K - (t + 1) = w
    · rw [if_pos (by rw [he]), he]
    · rw [if_neg (fun q => he ((nI_eq (by omega) (by omega)).mp q)), nmI_o, nmI_o, nI_add, am1, m1]
      have e2 : (K - (t + 1)) * P + P = (K - t) * P := by rw [show K - t = K - (t + 1) + 1 from by omega, Nat.succ_mul]
      rw [e2]
      exact ih t (by omega) (by omega) (by omega)
theorem pen_g (K P : Nat) (y3 : Int32) (hK1 : 1 ≤ K) (hK : K ≤ 6) (hP : P ≤ 10) (hKP : (K - 1) * P < 40) (h3 : y3 = 6 ∨ ∃ w, w < K ∧ y3 = nI w) : ∃ r u v, f_X11_pen_J42 0 (fun _ => 0) (fun _ => 0) (fun _ => 0) (nI K) (nI P) y3 1 = some (r, u) ∧ f_X12_pen_J43 (fun _ => 0) (fun _ => 0) (nI K) (nI P) y3 = some (r, v) := by
  obtain ⟨B, C, ec, hC⟩ := choose_e P K hP hK1 hK hKP
  obtain ⟨B2, em, hB2⟩ := pen_L P K hP hK (f_X12_pen_J200 (fun _ => 0) (nI K) (nI P) y3) FU 0 (fun _ => 0) (by omega) (by unfold FU; omega) (fun r h => absurd h (by omega))
  have em' : f_X12_pen_L58 (fun _ => 0) (nI K) (nI P) (f_X12_pen_J200 (fun _ => 0) (nI K) (nI P) y3) FU 0 (fun _ => 0) = f_X12_pen_J200 (fun _ => 0) (nI K) (nI P) y3 B2 := em
  have ex : (nI K - 1) * nI P = nI ((K - 1) * P) := by rw [show nI K - 1 = nI (K - 1) from pk_sub (b := 1) hK1, pk_mul]
  have c1 : nI ((K - 1) * P) < (40 : Int32) := nI_lt (b := 40) hKP (by decide)
  have c2 : nI ((K - 1) * P) ≤ (39 : Int32) := nI_le (b := 39) (by omega) (by decide)
  rw [f_X11_pen_J42, if_neg (by decide), ex, if_pos c1, cb3_e ec, f_X12_pen_J43, ex, if_pos c2, em', f_X12_pen_J200]
  by_cases h6 : y3 = 6
  · have h0 : B2 (K * 53) = nI (10 ^ K) := by
      have := hB2 K (by omega) 0 (by omega)
      rw [Nat.add_zero] at this
      rw [this, pV_in (by omega)]
    rw [if_pos h6, if_pos h6, mul53, rdI_o (jin_n (by omega) (by decide)), nI_clamp (by omega), h0]
    exact ⟨_, _, _, rfl, rfl⟩
  · rw [if_neg h6, if_neg h6]
    rcases h3 with h3 | ⟨w, hw, rfl⟩
    · exact absurd h3 h6
    · have ew := pen_W P K w hP hK hKP hw B2 hB2 FU K (by omega) (by omega) (by unfold FU; omega)
      rw [Nat.sub_self, Nat.zero_mul] at ew
      have ew' : f_X12_pen_L222 (fun _ => 0) (nI K) (nI P) (nI w) B2 FU 0 (nI K) = some (nI (w * P), B2) := ew
      rw [rdI_o (jin_n (by omega) (by decide)), nI_clamp (by omega), hC w hw, ew']
      exact ⟨_, _, _, rfl, rfl⟩
theorem pen_b (K P : Nat) (y3 t : Int32) (hK1 : 1 ≤ K) (hK : K ≤ 6) (hP : P ≤ 10) (hKP : ¬ (K - 1) * P < 40) : f_X11_pen_J42 0 (fun _ => 0) (fun _ => 0) (fun _ => 0) (nI K) (nI P) y3 t = some (-1, 0, (fun _ => 0), (fun _ => 0)) ∧ f_X12_pen_J43 (fun _ => 0) (fun _ => 0) (nI K) (nI P) y3 = some (-1, (fun _ => 0)) := by
  have ex : (nI K - 1) * nI P = nI ((K - 1) * P) := by rw [show nI K - 1 = nI (K - 1) from pk_sub (b := 1) hK1, pk_mul]
  have hb : (K - 1) * P ≤ 5 * 10 := Nat.mul_le_mul (by omega) hP
  have c1 : ¬ nI ((K - 1) * P) < (40 : Int32) := nI_nlt (b := 40) (by omega) (by omega)
  have c2 : ¬ nI ((K - 1) * P) ≤ (39 : Int32) := nI_ge (a := 39) (by omega) (by omega)
  constructor
  · rw [f_X11_pen_J42, ex, if_neg c1]
    simp only [ite_self]
  · rw [f_X12_pen_J43, ex, if_neg c2]
theorem pf_27 (y1 : Int32) (y2 : Int32) (y3 : Int32) : ∃ (r : Int32) (x_o_lots_unseen : Int32) (x_o_lots_best : Nat → Int32) (x_o_lots_chosen : Nat → Int32) (m_o_leastFrom : Nat → Int32), f_X11_pen 0 (fun _ => 0) (fun _ => 0) (fun _ => 0) y1 y2 y3 = some (r, x_o_lots_unseen, x_o_lots_best, x_o_lots_chosen) ∧ f_X12_pen (fun _ => 0) (fun _ => 0) y1 y2 y3 = some (r, m_o_leastFrom) := by
  have J0 : ∀ a b c : Int32, f_X11_pen_J42 0 (fun _ => 0) (fun _ => 0) (fun _ => 0) a b c 0 = some (-1, 0, (fun _ => 0), (fun _ => 0)) := fun a b c => by rw [f_X11_pen_J42, if_pos rfl]
  simp only [f_X11_pen, f_X12_pen, W_iff, L_iff, t64, cb1_o, bI_0, J0, i32_0, i32_1, i32_6, i32_10, i64_0, i64_1, i64_6, i64_10]
  by_cases h1 : 1 ≤ y1.toInt ∧ y1.toInt ≤ 6
  · by_cases h2 : 1 ≤ y2.toInt ∧ y2.toInt ≤ 10
    · obtain ⟨K, hK, rfl⟩ := nI_of (show ¬ y1 < 0 by rw [Int32.lt_iff_toInt_lt, i32_0]; omega)
      obtain ⟨P, hP, rfl⟩ := nI_of (show ¬ y2 < 0 by rw [Int32.lt_iff_toInt_lt, i32_0]; omega)
      rw [nI_toInt hK] at h1 ⊢
      rw [nI_toInt hP] at h2 ⊢
      have k1 : (nI K - 1).toInt = ((K - 1 : Nat) : Int) := by rw [show nI K - 1 = nI (K - 1) from pk_sub (b := 1) (by omega), nI_toInt (by omega)]
      simp only [h1, h2, and_self, not_true, if_false, k1]
      have main : (y3 = 6 ∨ ∃ w, w < K ∧ y3 = nI w) → ∃ r u v, f_X11_pen_J42 0 (fun _ => 0) (fun _ => 0) (fun _ => 0) (nI K) (nI P) y3 1 = some (r, u) ∧ f_X12_pen_J43 (fun _ => 0) (fun _ => 0) (nI K) (nI P) y3 = some (r, v) := by
        intro h3
        by_cases hKP : (K - 1) * P < 40
        · exact pen_g K P y3 (by omega) (by omega) (by omega) hKP h3
        · have hb := pen_b K P y3 1 (by omega) (by omega) (by omega) hKP
          exact ⟨_, _, _, hb.1, hb.2⟩
      by_cases h6 : y3 = 6
      · obtain ⟨r, u, v, a1, a2⟩ := main (Or.inl h6)
        rw [if_pos h6, if_pos h6, a1, a2]
        exact ⟨r, u.1, u.2.1, u.2.2, v, rfl, rfl⟩
      · rw [if_neg h6, if_neg h6]
        by_cases h7 : 0 ≤ y3.toInt ∧ y3.toInt ≤ ((K - 1 : Nat) : Int)
        · obtain ⟨w, hw, ew⟩ := nI_of (show ¬ y3 < 0 by rw [Int32.lt_iff_toInt_lt, i32_0]; omega)
          have hw2 : w < K := by rw [ew, nI_toInt hw] at h7; omega
          obtain ⟨r, u, v, a1, a2⟩ := main (Or.inr ⟨w, hw2, ew⟩)
          rw [if_neg (not_not_intro h7), if_neg (not_not_intro h7), a1, a2]
          exact ⟨r, u.1, u.2.1, u.2.2, v, rfl, rfl⟩
        · rw [if_pos h7, if_pos h7]
          exact ⟨_, _, _, _, _, rfl, rfl⟩
    · simp only [h1, h2, and_self, not_true, not_false_eq_true, if_false, if_true]
      exact ⟨_, _, _, _, _, rfl, rfl⟩
  · simp only [h1, not_false_eq_true, if_true]
    exact ⟨_, _, _, _, _, rfl, rfl⟩
