def badC (f : Int32) (a : Nat) : Int32 := ((-1000) * f) - nI a
theorem wrongs_n (f : Int32) (a : Nat) : f_X12_wrongs 0 f (nI a) = some (badC f a) := by
  rw [f_X12_wrongs, if_pos (by decide), nmI_o]; rfl
theorem badC_ne {f : Int32} {a : Nat} (h1 : 1 ≤ f.toInt) (h2 : f.toInt ≤ 9) (ha : a ≤ 200) : ¬ badC f a = 0 := by
  have ta : (nI a).toInt = (a : Int) := nI_toInt (by omega)
  have h := Sf_det (P := fun y => y.toInt < 0) (wrongs_n f a) (wrongs_s 0 f (nI a) h1 h2 (by omega) (by omega))
  exact ne_lt h
theorem opens_n {t st : Nat → Int32} {e p o m : Nat} {c : Int32} (he : e ≤ 120) (hp : p ≤ e) (hc : hN t e p = c) (ho : o < 6) (hm : m < 160) : f_X12_opens (nI p) (nI e) 0 (nI o) (nI m) st t = some (nI (p + 1), 0, nI (o + 1), nI (m + 1), upd st m c) := by
  have h6 : ¬ nI o = 6 := fun w => by
    have := (nI_eq (b := 6) (by omega) (by omega)).mp w
    omega
  rw [f_X12_opens, if_neg h6, f_X12_opens_J18, nmI_o, here_n he hp, cb1_o, hc, puts_n hm, cb3_o, nI_1]
theorem opens_6 {t st : Nat → Int32} {e p m : Nat} {c : Int32} (he : e ≤ 120) (hp : p ≤ e) (hc : hN t e p = c) (hm : m < 160) : f_X12_opens (nI p) (nI e) 0 (nI 6) (nI m) st t = some (nI (p + 1), badC 5 p, nI 7, nI (m + 1), upd st m c) := by
  rw [f_X12_opens, if_pos (by decide), wrongs_n, cb1_o, f_X12_opens_J18, nmI_o, here_n he hp, cb1_o, hc, puts_n hm, cb3_o, nI_1]
section S2
variable {e k o p m k' o' p' m' : Nat} {t na nc st na' nc' st' : Nat → Int32} {K : Int32 → Int32 → Int32 → Int32 → (Nat → Int32) → Option (Int32 × Int32 × Int32 × Int32 × Int32 × (Nat → Int32) × (Nat → Int32) × (Nat → Int32))}
theorem facL_open (he : e ≤ 120) (hp : p ≤ e) (hc : hN t e p = 91) (ho : o < 6) (hm : m < 160) (n : Nat) : f_X12_factor_L0 (nI e) t K (n + 1) 0 (nI o) (nI p) (nI m) st = f_X12_factor_L0 (nI e) t K n 0 (nI (o + 1)) (nI (p + 1)) (nI (m + 1)) (upd st m 91) := by
  rw [f_X12_factor_L0, isGood_0, cb1_o, if_neg (by decide), here_n he hp, cb1_o, hc, if_pos rfl, opens_n he hp hc ho hm, cb5_o]
theorem facL_stop (he : e ≤ 120) (hp : p ≤ e) (hc : ¬ hN t e p = 91) (n : Nat) : f_X12_factor_L0 (nI e) t K (n + 1) 0 (nI o) (nI p) (nI m) st = K 0 (nI o) (nI p) (nI m) st := by
  rw [f_X12_factor_L0, isGood_0, cb1_o, if_neg (by decide), here_n he hp, cb1_o, if_neg hc]
theorem facL_deep (he : e ≤ 120) (hp : p ≤ e) (hc : hN t e p = 91) (hm : m < 160) (n : Nat) : f_X12_factor_L0 (nI e) t K (n + 2) 0 (nI 6) (nI p) (nI m) st = K (badC 5 p) (nI 7) (nI (p + 1)) (nI (m + 1)) (upd st m 91) := by
  rw [f_X12_factor_L0, isGood_0, cb1_o, if_neg (by decide), here_n he hp, cb1_o, hc, if_pos rfl, opens_6 he hp hc hm, cb5_o, f_X12_factor_L0, isGood_n (badC_ne (by decide) (by decide) (by omega)), cb1_o, if_pos rfl]
theorem facL_fuel (he : e ≤ 120) : ∀ (i n n' o p m : Nat) (st : Nat → Int32), o + i = 6 → p ≤ e → m + i < 160 → f_X12_factor_L0 (nI e) t K (n + i + 2) 0 (nI o) (nI p) (nI m) st = f_X12_factor_L0 (nI e) t K (n' + i + 2) 0 (nI o) (nI p) (nI m) st := by
  intro i
  induction i with
  | zero =>
    intro n n' o p m st h1 h2 h3
    have ho : o = 6 := by omega
    subst ho
    by_cases c : hN t e p = 91
    · rw [Nat.add_zero, Nat.add_zero, facL_deep he h2 c (by omega), facL_deep he h2 c (by omega)]
    · rw [show n + 0 + 2 = (n + 1) + 1 by omega, show n' + 0 + 2 = (n' + 1) + 1 by omega, facL_stop he h2 c, facL_stop he h2 c]
  | succ i ih =>
    intro n n' o p m st h1 h2 h3
    by_cases c : hN t e p = 91
    · have hlt : p < e := hN_lt (by rw [c]; decide)
      rw [show n + (i + 1) + 2 = (n + i + 2) + 1 by omega, show n' + (i + 1) + 2 = (n' + i + 2) + 1 by omega, facL_open he h2 c (by omega) (by omega), facL_open he h2 c (by omega) (by omega)]
      exact ih n n' (o + 1) (p + 1) (m + 1) _ (by omega) (by omega) (by omega)
    · rw [show n + (i + 1) + 2 = (n + i + 2) + 1 by omega, show n' + (i + 1) + 2 = (n' + i + 2) + 1 by omega, facL_stop he h2 c, facL_stop he h2 c]
theorem fac_open (he : e ≤ 120) (hp : p < e) (hc : hN t e p = 91) (ho : o < 6) (hm : m < 150) : f_X12_factor (nI p) (nI e) 0 (nI k) (nI o) (nI m) na nc st t = f_X12_factor (nI (p + 1)) (nI e) 0 (nI k) (nI (o + 1)) (nI (m + 1)) na nc (upd st m 91) t := by
  obtain ⟨n, hn⟩ : ∃ n, FU = (n + (5 - o) + 2) + 1 := ⟨FU - (5 - o) - 3, by have := FU_ge; omega⟩
  rw [f_X12_factor, f_X12_factor]
  have h1 : f_X12_factor_L0 (nI e) t (f_X12_factor_J23 (nI e) (nI k) na nc t) FU 0 (nI o) (nI p) (nI m) st = f_X12_factor_L0 (nI e) t (f_X12_factor_J23 (nI e) (nI k) na nc t) (n + (5 - o) + 2) 0 (nI (o + 1)) (nI (p + 1)) (nI (m + 1)) (upd st m 91) := by
    rw [hn]; exact facL_open he (by omega) hc ho (by omega) _
  have h2 : f_X12_factor_L0 (nI e) t (f_X12_factor_J23 (nI e) (nI k) na nc t) FU 0 (nI (o + 1)) (nI (p + 1)) (nI (m + 1)) (upd st m 91) = f_X12_factor_L0 (nI e) t (f_X12_factor_J23 (nI e) (nI k) na nc t) (n + (5 - o) + 2) 0 (nI (o + 1)) (nI (p + 1)) (nI (m + 1)) (upd st m 91) := by
    rw [hn, show n + (5 - o) + 2 + 1 = (n + 1) + (5 - o) + 2 by omega]
    exact facL_fuel he (5 - o) (n + 1) n (o + 1) (p + 1) (m + 1) _ (by omega) (by omega) (by omega)
  rw [h1, h2]
theorem fac_deep (he : e ≤ 120) (hp : p < e) (hc : hN t e p = 91) (hm : m < 150) : f_X12_factor (nI p) (nI e) 0 (nI k) (nI 6) (nI m) na nc st t = some (nI (p + 1), badC 5 p, nI k, nI 7, nI (m + 1), na, nc, upd st m 91) := by
  obtain ⟨n, hn⟩ : ∃ n, FU = n + 2 := ⟨FU - 2, by have := FU_ge; omega⟩
  rw [f_X12_factor, hn, facL_deep he (by omega) hc (by omega), f_X12_factor_J23, isGood_n (badC_ne (by decide) (by decide) (by omega)), cb1_o, if_pos rfl]
/-- an operand's place: the loop is what its factor says -/
theorem vL_0 (n : Nat) : vL e t (n + 1) 0 k o p m na nc st = cb8 (f_X12_factor (nI p) (nI e) 0 (nI k) (nI o) (nI m) na nc st t) (fun p1 d1 k1 o1 m1 na1 nc1 st1 => f_X12_value_J29 (nI e) t (f_X12_value_L7 (nI e) t f_X12_value_J57 n) d1 k1 o1 p1 m1 na1 nc1 st1) := by
  unfold vL
  rw [f_X12_value_L7, if_neg (by decide), isGood_0, cb1_o, if_neg (by decide), if_pos rfl]
theorem vrun_fac (hpp : p ≤ p') (hf : f_X12_factor (nI p) (nI e) 0 (nI k) (nI o) (nI m) na nc st t = some (nI p', 0, nI k', nI o', nI m', na', nc', st')) : vrun e t k o p m na nc st k' o' p' m' na' nc' st' := by
  refine ⟨0, by omega, fun n => ?_⟩
  rw [Nat.add_zero, vL_0, hf, cb8_o, vL_1]
theorem vbad_fac {d : Int32} {p1 k1 o1 m1 : Int32} (hpe : p ≤ e) (hf : f_X12_factor (nI p) (nI e) 0 (nI k) (nI o) (nI m) na nc st t = some (p1, d, k1, o1, m1, na', nc', st')) (hd : ¬ d = 0) : vbad e t k o p m na nc st d := by
  refine ⟨1, p1, k1, o1, m1, 0, na', nc', st', by omega, fun n => ?_⟩
  rw [vL_0, hf, cb8_o, f_X12_value_J29, isGood_n hd, cb1_o, if_pos rfl, f_X12_value_L7, if_pos rfl, f_X12_value_J57, isGood_n hd, cb1_o, if_pos rfl]
theorem vrun_open (he : e ≤ 120) (hp : p < e) (hc : hN t e p = 91) (ho : o < 6) (hm : m < 150) (h : vrun e t k (o + 1) (p + 1) (m + 1) na nc (upd st m 91) k' o' p' m' na' nc' st') : vrun e t k o p m na nc st k' o' p' m' na' nc' st' := by
  obtain ⟨J, hJ, h⟩ := h
  refine ⟨J, by omega, fun n => ?_⟩
  rw [← h n, show n + 1 + J = (n + J) + 1 by omega, vL_0, vL_0, fac_open he hp hc ho hm]
theorem vbad_open {d : Int32} (he : e ≤ 120) (hp : p < e) (hc : hN t e p = 91) (ho : o < 6) (hm : m < 150) (h : vbad e t k (o + 1) (p + 1) (m + 1) na nc (upd st m 91) d) : vbad e t k o p m na nc st d := by
  obtain ⟨J, p1, k1, o1, m1, ib1, na1, nc1, st1, hJ, h⟩ := h
  refine ⟨J, p1, k1, o1, m1, ib1, na1, nc1, st1, by omega, fun n => ?_⟩
  rw [← h n, show n + 1 + J = (n + J) + 1 by omega, vL_0, vL_0, fac_open he hp hc ho hm]
theorem fac_J (he : e ≤ 120) (hp : p ≤ e) (hc : ¬ hN t e p = 91) : f_X12_factor (nI p) (nI e) 0 (nI k) (nI o) (nI m) na nc st t = f_X12_factor_J23 (nI e) (nI k) na nc t 0 (nI o) (nI p) (nI m) st := by
  obtain ⟨n, hn⟩ : ∃ n, FU = n + 1 := ⟨FU - 1, by have := FU_ge; omega⟩
  rw [f_X12_factor, hn, facL_stop he hp hc]
end S2
theorem hr_n {t : Nat → Int32} {e p : Nat} (he : e ≤ 120) (hp : p ≤ e) : hr (nI p) (nI e) t = hN t e p := by
  unfold hr hN
  by_cases c : p < e
  · rw [if_neg (nI_ge c (by omega)), if_pos c, nI_clamp (by omega)]
  · rw [if_pos (nI_le (by omega) (by omega)), if_neg c]
def digP (c : Int32) : Prop := 48 ≤ c.toInt ∧ c.toInt ≤ 57
theorem dig_n {t : Nat → Int32} {e p : Nat} (he : e ≤ 120) (hp : p ≤ e) : f_X12_seesDigit (nI p) (nI e) t = some (bI (48 ≤ (hN t e p).toInt ∧ (hN t e p).toInt ≤ 57)) := by
  have h1 : (nI p).toInt = (p : Int) := nI_toInt (by omega)
  have h2 : (nI e).toInt = (e : Int) := nI_toInt (by omega)
  rw [dig_e (by omega) (by omega), hr_n he hp]
theorem isDigit_n (c : Int32) : f_X6_isDigit c = some (bI (48 ≤ c.toInt ∧ c.toInt ≤ 57)) := by
  have z1 : (48 : Int32).toInt = 48 := by decide
  have z2 : (57 : Int32).toInt = 57 := by decide
  rw [f_X6_isDigit]
  by_cases h1 : c < 48
  · have := ltI h1
    rw [if_pos h1]
    unfold bI
    rw [if_neg (by omega)]
  · have h1' := nltI h1
    rw [if_neg h1]
    by_cases h2 : 57 < c
    · have := ltI h2
      rw [if_pos h2]
      unfold bI
      rw [if_neg (by omega)]
    · have := nltI h2
      rw [if_neg h2]
      unfold bI
      rw [if_pos (by omega)]
theorem nh_dig {b t : Nat → Int32} {e p : Nat} (h : TBy b t) : digP (nN b e p) ↔ digP (hN t e p) := by
  have zm : (-1 : Int32).toInt = -1 := by decide
  have z : (0 : Int32).toInt = 0 := by decide
  rw [nh h]
  unfold digP
  by_cases c : p < e
  · rw [if_pos c]
  · rw [if_neg c]
    have e0 : hN t e p = 0 := by unfold hN; rw [if_neg c]
    rw [e0]
    omega
/-- the digits of a number, read by both -/
theorem num_2 {b t : Nat → Int32} {e p : Nat} (he : e ≤ 120) (hb : TBy b t) {K : Int32 → Int32 → Option (Int32 × Int32 × Int32 × Int32 × (Nat → Int32))} : ∀ (r i n n' : Nat) (v : Int32), i + r = 5 → p + i ≤ e → (0 ≤ v.toInt ∧ v.toInt < ((10 ^ i : Nat) : Int)) →
    ∃ (q : Nat) (w : Int32), i ≤ q ∧ q ≤ 5 ∧ p + q ≤ e ∧ (0 ≤ w.toInt ∧ w.toInt < ((10 ^ q : Nat) : Int)) ∧ (digP (hN t e (p + i)) → i < 5 → i < q) ∧ f_X6_numberStands_L4 (nI e) 200 b K (n + r + 1) v (nI i) (nI (p + i)) = K w (nI (p + q)) ∧
      ((¬ digP (hN t e (p + q)) ∧ f_X12_reads_L7 (nI p) (nI e) t (n' + r + 2) v 0 (nI (p + i)) = some (w, nI (p + q), 0)) ∨ (q = 5 ∧ digP (hN t e (p + q)) ∧ ∃ w', f_X12_reads_L7 (nI p) (nI e) t (n' + r + 2) v 0 (nI (p + i)) = some (w', nI (p + q + 1), badC 2 (p + q)))) := by
  intro r
  induction r with
  | zero =>
    intro i n n' v h1 h2 hvb
    have hi : i = 5 := by omega
    subst hi
    refine ⟨5, v, Nat.le_refl _, Nat.le_refl _, h2, hvb, fun _ h => absurd h (by omega), ?_, ?_⟩
    · rw [Nat.add_zero, f_X6_numberStands_L4, if_pos (by decide)]
    · by_cases c : digP (hN t e (p + 5))
      · refine Or.inr ⟨rfl, c, 10 * v + hN t e (p + 5) - 48, ?_⟩
        rw [Nat.add_zero, f_X12_reads_L7, isGood_0, cb1_o, if_neg (by decide), dig_n he h2, cb1_o, if_neg (by rw [bI_0]; exact fun w => w c), if_pos (by rw [show (5 : Int32) = nI 5 from rfl, nI_add]), wrongs_n, cb1_o, here_n he h2, cb1_o, nmI_o, nmI_o, nI_1, f_X12_reads_L7, isGood_n (badC_ne (by decide) (by decide) (by omega)), cb1_o, if_pos rfl]
      · refine Or.inl ⟨c, ?_⟩
        rw [Nat.add_zero, f_X12_reads_L7, isGood_0, cb1_o, if_neg (by decide), dig_n he h2, cb1_o, if_pos (by rw [bI_0]; exact c)]
  | succ r ih =>
    intro i n n' v h1 h2 hvb
    have hne : ¬ nI (p + i) = nI p + 5 := by
      rw [show (5 : Int32) = nI 5 from rfl, nI_add]
      exact fun w => by have := (nI_eq (by omega) (by omega)).mp w; omega
    have h5 : ¬ (5 : Int32) ≤ nI i := nI_ge (a := i) (b := 5) (by omega) (by omega)
    by_cases c : digP (hN t e (p + i))
    · have hlt : p + i < e := hN_lt (fun w => by rw [w] at c; exact absurd c.1 (by decide))
      have hcb := c
      unfold digP at hcb
      have hp5 : 10 ^ i ≤ 10 ^ 5 := Nat.pow_le_pow_right (by omega) (by omega)
      have hps : 10 ^ (i + 1) = 10 ^ i * 10 := Nat.pow_succ 10 i
      have e1 := mlY 10 v 10 (by decide) (by omega) (by omega)
      have e2 := adX (10 * v) (hN t e (p + i)) (by omega) (by omega)
      have e3 := sbN (10 * v + hN t e (p + i)) 48 48 (by decide) (by omega) (by omega)
      obtain ⟨q, w, q1, q2, q3, q0, q4, q5, q6⟩ := ih (i + 1) n n' (10 * v + hN t e (p + i) - 48) (by omega) (by omega) (by omega)
      refine ⟨q, w, by omega, q2, q3, q0, fun _ _ => by omega, ?_, ?_⟩
      · rw [show n + (r + 1) + 1 = (n + r + 1) + 1 by omega, f_X6_numberStands_L4, if_neg h5, next_n he h2, cb1_o, cb1_o, isDigit_n, cb1_o, if_neg (by rw [bI_0]; exact fun w => w ((nh_dig hb).mpr c)), nmI_o, nmI_o, nmI_o, nI_1, nI_1, nh hb, if_pos hlt]
        exact q5
      · have hu : f_X12_reads_L7 (nI p) (nI e) t (n' + (r + 1) + 2) v 0 (nI (p + i)) = f_X12_reads_L7 (nI p) (nI e) t (n' + r + 2) (10 * v + hN t e (p + i) - 48) 0 (nI (p + (i + 1))) := by
          rw [show n' + (r + 1) + 2 = (n' + r + 2) + 1 by omega, f_X12_reads_L7, isGood_0, cb1_o, if_neg (by decide), dig_n he h2, cb1_o, if_neg (by rw [bI_0]; exact fun w => w c), if_neg hne, here_n he h2, cb1_o, nmI_o, nmI_o, nI_1]
          rfl
        rw [hu]
        exact q6
    · refine ⟨i, v, Nat.le_refl _, by omega, h2, hvb, fun h => absurd h c, ?_, Or.inl ⟨c, ?_⟩⟩
      · rw [show n + (r + 1) + 1 = (n + r + 1) + 1 by omega, f_X6_numberStands_L4, if_neg h5, next_n he h2, cb1_o, isDigit_n, cb1_o, if_pos (by rw [bI_0]; exact fun w => c ((nh_dig hb).mp w))]
      · rw [show n' + (r + 1) + 2 = (n' + r + 2) + 1 by omega, f_X12_reads_L7, isGood_0, cb1_o, if_neg (by decide), dig_n he h2, cb1_o, if_pos (by rw [bI_0]; exact c)]
theorem put_n {code : Nat → Int32} {u : Nat} {c a : Int32} (h : u < 120) : f_X6_put (nI u) code c a = some (nI (u + 1), upd code u (jshl a 8 ||| c)) := by
  rw [f_X6_put, if_neg (show ¬ (120 : Int32) ≤ nI u from nI_ge (a := u) (b := 120) h (by omega)), nmI_o, wrI_o (jin_n h (by omega)), nmI_o, nI_1, nI_clamp (by omega)]
/-! the letters -/
def valB (c : Int32) : Bool := c == 97 || c == 98 || c == 100 || c == 102 || c == 103 || c == 104 || c == 108 || c == 109 || c == 110 || c == 115 || c == 116 || c == 117 || c == 120
theorem isValue_n (c : Int32) : f_X12_isValue c = some (bI (valB c = true)) := by
  rw [f_X12_isValue]
  by_cases h0 : c = 97
  · subst h0; decide
  by_cases h1 : c = 98
  · subst h1; decide
  by_cases h2 : c = 100
  · subst h2; decide
  by_cases h3 : c = 102
  · subst h3; decide
  by_cases h4 : c = 103
  · subst h4; decide
  by_cases h5 : c = 104
  · subst h5; decide
  by_cases h6 : c = 108
  · subst h6; decide
  by_cases h7 : c = 109
  · subst h7; decide
  by_cases h8 : c = 110
  · subst h8; decide
  by_cases h9 : c = 115
  · subst h9; decide
  by_cases h10 : c = 116
  · subst h10; decide
  by_cases h11 : c = 117
  · subst h11; decide
  by_cases h12 : c = 120
  · subst h12; decide
  rw [if_neg h0, if_neg h1, if_neg h2, if_neg h3, if_neg h4, if_neg h5, if_neg h6, if_neg h7, if_neg h8, if_neg h9, if_neg h10, if_neg h11, if_neg h12]
  unfold bI
  rw [if_neg (by simp [valB, h0, h1, h2, h3, h4, h5, h6, h7, h8, h9, h10, h11, h12])]
theorem let_c : ∀ c, c < 256 → ((List.range 13).any (fun j => decide (kLf j = ji2b (ji2c (nI c))))) = valB (nI c) := by decide +kernel
theorem idx_L (v : Int32) : ∀ (r x n : Nat), x + r = 13 → ∃ q : Int32, f_J1_indexOfChar_4cfef_L7 13 v (n + r + 1) (nI x) = some q ∧ (0 ≤ q ↔ ∃ j, x ≤ j ∧ j < 13 ∧ kLf j = v) := by
  intro r
  induction r with
  | zero =>
    intro x n h
    have hx : x = 13 := by omega
    subst hx
    refine ⟨-1, by rw [Nat.add_zero, f_J1_indexOfChar_4cfef_L7, if_pos (by decide)], ?_⟩
    constructor
    · intro w; exact absurd w (by decide)
    · rintro ⟨j, h1, h2, h3⟩; exfalso; omega
  | succ r ih =>
    intro x n h
    rw [show n + (r + 1) + 1 = (n + r + 1) + 1 by omega, f_J1_indexOfChar_4cfef_L7, if_neg (show ¬ (13 : Int32) ≤ nI x from nI_ge (a := x) (b := 13) (by omega) (by omega)), rdI_o (jin_n (by omega) (by omega)), nI_clamp (by omega)]
    by_cases c : kLf x = v
    · rw [if_pos c]
      exact ⟨nI x, rfl, fun _ => ⟨x, Nat.le_refl _, by omega, c⟩, fun _ => nI_pos' (by omega)⟩
    · rw [if_neg c, nmI_o, nI_1]
      obtain ⟨q, q1, q2⟩ := ih (x + 1) n (by omega)
      refine ⟨q, q1, q2.trans ⟨?_, ?_⟩⟩
      · rintro ⟨j, h1, h2, h3⟩; exact ⟨j, by omega, h2, h3⟩
      · rintro ⟨j, h1, h2, h3⟩
        by_cases d : j = x
        · subst d; exact absurd h3 c
        · exact ⟨j, by omega, h2, h3⟩
theorem ji2c_n : ∀ c, c < 256 → (ji2c (nI c) < 0) = False ∧ ((255 : Int32) < ji2c (nI c)) = False := by
  intro c hc
  have h : ∀ c, c < 256 → decide (ji2c (nI c) < 0) = false ∧ decide ((255 : Int32) < ji2c (nI c)) = false := by decide +kernel
  have := h c hc
  exact ⟨eq_false (of_decide_eq_false this.1), eq_false (of_decide_eq_false this.2)⟩
theorem idx_n {c : Nat} (hc : c < 256) : ∃ q : Int32, f_J0_indexOf_0f7a4 (ji2c (nI c)) = some q ∧ (0 ≤ q ↔ valB (nI c) = true) := by
  obtain ⟨n, hn⟩ : ∃ n, FU = n + 13 + 1 := ⟨FU - 14, by have := FU_ge; omega⟩
  obtain ⟨q, q1, q2⟩ := idx_L (ji2b (ji2c (nI c))) 13 0 n (by omega)
  obtain ⟨j1, j2⟩ := ji2c_n c hc
  refine ⟨q, ?_, ?_⟩
  · rw [f_J0_indexOf_0f7a4, f_J0_indexOf_7cf53, f_J0_isLatin1_aae02, cb1_o, if_neg (by decide), f_J0_length_8abf5, f_J0_coder_7d493, cb1_o, cb1_o, f_J1_indexOf_4cfef, f_J1_canEncode_9a6ad, if_neg (by rw [j1]; exact id), if_neg (by rw [j2]; exact id), cb1_o, if_neg (by decide), nmI_o, nmI_o, if_pos (by decide), f_J1_indexOfChar_4cfef, nmI_o, hn]
    have e1 : jmax 0 0 = nI 0 := by decide
    have e2 : jmin (jshr 13 0) 13 = 13 := by decide
    rw [e1, e2, q1, cb1_o, cb1_o, cb1_o]
  · rw [q2, ← let_c c hc, List.any_eq_true]
    constructor
    · rintro ⟨j, h1, h2, h3⟩; exact ⟨j, List.mem_range.mpr h2, decide_eq_true h3⟩
    · rintro ⟨j, h1, h2⟩; exact ⟨j, Nat.zero_le _, List.mem_range.mp h1, of_decide_eq_true h2⟩
