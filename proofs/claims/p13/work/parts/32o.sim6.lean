/-! a C, read by both: the reference's steps -/
section S6
variable {e k o p m k' o' p' m' a j : Nat} {b t na nc st na' nc' st' : Nat → Int32}
theorem val_vL (ib : Int32) : f_X12_value (nI p) (nI e) 0 (nI k) (nI o) (nI m) ib na nc st t = vL e t FU 0 k o p m na nc st := rfl
theorem stay_end (he : e ≤ 120) (hp : a ≤ e) (hs : ¬ isA (hN t e a)) (hm : ¬ isA (tpN st m)) (hm2 : ¬ tpN st m = 91) (h1 : ∀ i, i < j → isA (st (m + i))) (h2 : k + j ≤ 120) (h3 : m + j < 160) (n : Nat) :
    (¬ hN t e a = 93 → vL e t (n + 1 + 1) 1 k o a (m + j) na nc st = some (nI a, 0, nI (k + j), nI o, nI m, 0, emC z0 m j na k, emC st m j nc k, st)) ∧ (hN t e a = 93 → vL e t (n + 1 + 1) 1 k o a (m + j) na nc st = some (nI a, badC 1 a, nI (k + j), nI o, nI m, 0, emC z0 m j na k, emC st m j nc k, st)) := by
  have hq : ¬ opq 1 (tpN st m) := fun w => hm (opq1.mp w)
  have hT : ¬ (hN t e a = 42 ∨ hN t e a = 47 ∨ hN t e a = 37) := fun w => hs (isT_A w)
  have hP : ¬ (hN t e a = 43 ∨ hN t e a = 45) := fun w => hs (isP_A w)
  constructor
  · intro hc
    have hst : f_X12_stays (nI a) (nI e) 0 (nI k) (nI o) (nI (m + j)) 0 na nc st t = some (0, nI a, 0, nI (k + j), nI o, nI m, 0, emC z0 m j na k, emC st m j nc k, st) := by
      rw [f_X12_stays, here_n he hp, cb1_o, isTimes_e, cb1_o, if_pos (by rw [bI_0]; exact hT), isPlus_e, cb1_o, if_pos (by rw [bI_0]; exact hP), sums_e hq (fun i hi => isA_opq (h1 i hi)) h2 (by omega), cb4_o, if_neg hc]
    rw [vL_1, f_X12_value_J29, isGood_0, cb1_o, if_neg (by decide), hst, cb10_o, if_pos rfl, f_X12_value_L7, if_pos rfl, f_X12_value_J57, isGood_0, cb1_o, if_neg (by decide), top_n (by omega), cb1_o, if_neg hm2]
  · intro hc
    have hst : f_X12_stays (nI a) (nI e) 0 (nI k) (nI o) (nI (m + j)) 0 na nc st t = some (0, nI a, badC 1 a, nI (k + j), nI o, nI m, 0, emC z0 m j na k, emC st m j nc k, st) := by
      rw [f_X12_stays, here_n he hp, cb1_o, isTimes_e, cb1_o, if_pos (by rw [bI_0]; exact hT), isPlus_e, cb1_o, if_pos (by rw [bI_0]; exact hP), sums_e hq (fun i hi => isA_opq (h1 i hi)) h2 (by omega), cb4_o, if_pos hc, top_n (by omega), cb1_o, if_neg hm2, wrongs_n, cb1_o]
    rw [vL_1, f_X12_value_J29, isGood_0, cb1_o, if_neg (by decide), hst, cb10_o, if_pos rfl, f_X12_value_L7, if_pos rfl, f_X12_value_J57, isGood_n (badC_ne (by decide) (by decide) (by omega)), cb1_o, if_pos rfl]
theorem val_run (ib : Int32) (he : e ≤ 120) (hp : a ≤ e) (h : vrun e t k o p m na nc st k' o a (m + j) na' nc' st') (hs : ¬ isA (hN t e a)) (hm : ¬ isA (tpN st' m)) (hm2 : ¬ tpN st' m = 91) (h1 : ∀ i, i < j → isA (st' (m + i))) (h2 : k' + j ≤ 120) (h3 : m + j < 160) :
    (¬ hN t e a = 93 → f_X12_value (nI p) (nI e) 0 (nI k) (nI o) (nI m) ib na nc st t = some (nI a, 0, nI (k' + j), nI o, nI m, 0, emC z0 m j na' k', emC st' m j nc' k', st')) ∧ (hN t e a = 93 → f_X12_value (nI p) (nI e) 0 (nI k) (nI o) (nI m) ib na nc st t = some (nI a, badC 1 a, nI (k' + j), nI o, nI m, 0, emC z0 m j na' k', emC st' m j nc' k', st')) := by
  obtain ⟨J, hJ, h⟩ := h
  obtain ⟨n, hn⟩ : ∃ n, FU = (n + 1) + 1 + J := ⟨FU - J - 2, by have := FU_ge; omega⟩
  rw [val_vL, hn, h (n + 1)]
  exact stay_end he hp hs hm hm2 h1 h2 h3 n
theorem val_bad {d : Int32} (ib : Int32) (he : e ≤ 120) (h : vbad e t k o p m na nc st d) : ∃ (p1 k1 o1 m1 ib1 : Int32) (na1 nc1 st1 : Nat → Int32), f_X12_value (nI p) (nI e) 0 (nI k) (nI o) (nI m) ib na nc st t = some (p1, d, k1, o1, m1, ib1, na1, nc1, st1) := by
  obtain ⟨J, p1, k1, o1, m1, ib1, na1, nc1, st1, hJ, h⟩ := h
  obtain ⟨n, hn⟩ : ∃ n, FU = n + 1 + J := ⟨FU - J - 1, by have := FU_ge; omega⟩
  exact ⟨p1, k1, o1, m1, ib1, na1, nc1, st1, by rw [val_vL, hn, h n]⟩
/-! signs that wait between pieces -/
def jq (fl x : Int32) : Prop := x = 38 ∨ (¬ fl = 0 ∧ x = 124)
theorem joins_n {fl : Int32} (hm : ¬ jq fl (tpN st m)) : ∀ (j n k : Nat) (na nc : Nat → Int32), (∀ i, i < j → jq fl (st (m + i))) → k + j ≤ 120 → m + j ≤ 160 → f_X12_joins_L0 0 st fl (n + j + 1) (nI k) (nI (m + j)) na nc = some (nI (k + j), nI m, emC z0 m j na k, emC st m j nc k) := by
  intro j
  induction j with
  | zero =>
    intro n k na nc h1 h2 h3
    rw [f_X12_joins_L0, Nat.add_zero, top_n (by omega), cb1_o, if_neg (fun w => hm (Or.inl w))]
    by_cases c : fl = 0
    · rw [if_pos c]; rfl
    · rw [if_neg c, cb1_o, if_neg (fun w => hm (Or.inr ⟨c, w⟩))]; rfl
  | succ j ih =>
    intro n k na nc h1 h2 h3
    have ht : tpN st (m + (j + 1)) = st (m + j) := by unfold tpN; rw [if_neg (by omega)]; rfl
    have J : f_X12_joins_J22 0 st (nI k) (nI (m + (j + 1))) na nc (f_X12_joins_L0 0 st fl (n + j + 1)) = some (nI (k + (j + 1)), nI m, emC z0 m (j + 1) na k, emC st m (j + 1) nc k) := by
      rw [f_X12_joins_J22, top_n (by omega), cb1_o, ht, emit_n (by omega), cb3_o, nmI_o, show m + (j + 1) = (m + j) + 1 by omega, nI_pred, ih n (k + 1) _ _ (fun i hi => h1 i (by omega)) (by omega) (by omega)]
      rw [show k + 1 + j = k + (j + 1) by omega]
      rfl
    rw [show n + (j + 1) + 1 = (n + j + 1) + 1 by omega, f_X12_joins_L0, top_n (by omega), cb1_o, ht]
    have h4 := h1 j (by omega)
    by_cases c : st (m + j) = 38
    · rw [if_pos c]; exact J
    · rw [if_neg c]
      rcases h4 with h4 | h4
      · exact absurd h4 c
      · rw [if_neg h4.1, cb1_o, if_pos h4.2]; exact J
theorem joins_e {fl : Int32} (hm : ¬ jq fl (tpN st m)) (h1 : ∀ i, i < j → jq fl (st (m + i))) (h2 : k + j ≤ 120) (h3 : m + j ≤ 160) : f_X12_joins 0 (nI k) (nI (m + j)) na nc st fl = some (nI (k + j), nI m, emC z0 m j na k, emC st m j nc k) := by
  obtain ⟨n, hn⟩ := FU_n j (by omega)
  rw [f_X12_joins, hn]
  exact joins_n hm j n k na nc h1 h2 h3
def k2 : Nat → Int32 := fun _ => 2
/-- r nots are emitted -/
theorem ends_n (hm : ¬ tpN st m = 33) : ∀ (r n k o : Nat) (na nc : Nat → Int32), (∀ i, i < r → st (m + i) = 33) → r ≤ o → k + r ≤ 120 → m + r ≤ 160 → f_X12_ends_L0 0 st (n + r + 1) (nI k) (nI o) (nI (m + r)) na nc = some (nI (k + r), nI (o - r), nI m, emC z0 m r na k, emC k2 m r nc k) := by
  intro r
  induction r with
  | zero =>
    intro n k o na nc h1 h2 h3 h4
    rw [f_X12_ends_L0, Nat.add_zero, top_n (by omega), cb1_o, if_neg hm]; rfl
  | succ r ih =>
    intro n k o na nc h1 h2 h3 h4
    have ht : tpN st (m + (r + 1)) = 33 := by unfold tpN; rw [if_neg (by omega)]; exact h1 r (by omega)
    obtain ⟨o1, rfl⟩ : ∃ o1, o = o1 + 1 := ⟨o - 1, by omega⟩
    rw [show n + (r + 1) + 1 = (n + r + 1) + 1 by omega, f_X12_ends_L0, top_n (by omega), cb1_o, ht, if_pos rfl, emit_n (by omega), cb3_o, nmI_o, nmI_o, show m + (r + 1) = (m + r) + 1 by omega, nI_pred, nI_pred, ih n (k + 1) o1 _ _ (fun i hi => h1 i (by omega)) (by omega) (by omega) (by omega)]
    rw [show k + 1 + r = k + (r + 1) by omega, show o1 + 1 - (r + 1) = o1 - r by omega]
    rfl
theorem ends_e {r : Nat} (hm : ¬ tpN st m = 33) (h1 : ∀ i, i < r → st (m + i) = 33) (h2 : r ≤ o) (h3 : k + r ≤ 120) (h4 : m + r ≤ 160) : f_X12_ends 0 (nI k) (nI o) (nI (m + r)) na nc st = some (nI (k + r), nI (o - r), nI m, emC z0 m r na k, emC k2 m r nc k) := by
  obtain ⟨n, hn⟩ := FU_n r (by omega)
  rw [f_X12_ends, hn]
  exact ends_n hm r n k o na nc h1 h2 h3 h4
/-! brackets and nots that open ahead of a piece -/
section PL
variable {K : Int32 → Int32 → Int32 → Int32 → (Nat → Int32) → Option (Int32 × Int32 × Int32 × Int32 × Int32 × Int32 × (Nat → Int32) × (Nat → Int32) × (Nat → Int32))} {c : Int32}
theorem piL_J (hc : c = 33 ∨ c = 40) (he : e ≤ 120) (hp : p ≤ e) (hh : hN t e p = c) (n : Nat) : f_X12_pieceOfC_L0 (nI e) t K (n + 1) 0 (nI o) (nI p) (nI m) st = f_X12_pieceOfC_J25 (nI e) t 0 (nI o) (nI p) (nI m) st (f_X12_pieceOfC_L0 (nI e) t K n) := by
  rw [f_X12_pieceOfC_L0, isGood_0, cb1_o, if_neg (by decide), here_n he hp, cb1_o, hh]
  rcases hc with h | h
  · rw [if_pos h]
  · rw [if_neg (by rw [h]; decide), cb1_o, if_pos h]
theorem piL_open (hc : c = 33 ∨ c = 40) (he : e ≤ 120) (hp : p ≤ e) (hh : hN t e p = c) (ho : o < 6) (hm : m < 160) (n : Nat) : f_X12_pieceOfC_L0 (nI e) t K (n + 1) 0 (nI o) (nI p) (nI m) st = f_X12_pieceOfC_L0 (nI e) t K n 0 (nI (o + 1)) (nI (p + 1)) (nI (m + 1)) (upd st m c) := by
  rw [piL_J hc he hp hh, f_X12_pieceOfC_J25, opens_n he hp hh ho hm, cb5_o]
theorem piL_deep (hc : c = 33 ∨ c = 40) (he : e ≤ 120) (hp : p ≤ e) (hh : hN t e p = c) (hm : m < 160) (n : Nat) : f_X12_pieceOfC_L0 (nI e) t K (n + 2) 0 (nI 6) (nI p) (nI m) st = K (badC 5 p) (nI 7) (nI (p + 1)) (nI (m + 1)) (upd st m c) := by
  rw [show n + 2 = (n + 1) + 1 by omega, piL_J hc he hp hh, f_X12_pieceOfC_J25, opens_6 he hp hh hm, cb5_o, f_X12_pieceOfC_L0, isGood_n (badC_ne (by decide) (by decide) (by omega)), cb1_o, if_pos rfl]
theorem piL_stop (he : e ≤ 120) (hp : p ≤ e) (h1 : ¬ hN t e p = 33) (h2 : ¬ hN t e p = 40) (n : Nat) : f_X12_pieceOfC_L0 (nI e) t K (n + 1) 0 (nI o) (nI p) (nI m) st = K 0 (nI o) (nI p) (nI m) st := by
  rw [f_X12_pieceOfC_L0, isGood_0, cb1_o, if_neg (by decide), here_n he hp, cb1_o, if_neg h1, cb1_o, if_neg h2]
theorem piL_fuel (he : e ≤ 120) : ∀ (i n n' o p m : Nat) (st : Nat → Int32), o + i = 6 → p ≤ e → m + i < 160 → f_X12_pieceOfC_L0 (nI e) t K (n + i + 2) 0 (nI o) (nI p) (nI m) st = f_X12_pieceOfC_L0 (nI e) t K (n' + i + 2) 0 (nI o) (nI p) (nI m) st := by
  intro i
  induction i with
  | zero =>
    intro n n' o p m st h1 h2 h3
    have ho : o = 6 := by omega
    subst ho
    by_cases c : hN t e p = 33 ∨ hN t e p = 40
    · rw [Nat.add_zero, Nat.add_zero, piL_deep c he h2 rfl (by omega), piL_deep c he h2 rfl (by omega)]
    · rw [show n + 0 + 2 = (n + 1) + 1 by omega, show n' + 0 + 2 = (n' + 1) + 1 by omega, piL_stop he h2 (fun w => c (Or.inl w)) (fun w => c (Or.inr w)), piL_stop he h2 (fun w => c (Or.inl w)) (fun w => c (Or.inr w))]
  | succ i ih =>
    intro n n' o p m st h1 h2 h3
    by_cases c : hN t e p = 33 ∨ hN t e p = 40
    · have hlt : p < e := hN_lt (t := t) (fun w => by rw [w] at c; revert c; decide)
      rw [show n + (i + 1) + 2 = (n + i + 2) + 1 by omega, show n' + (i + 1) + 2 = (n' + i + 2) + 1 by omega, piL_open c he h2 rfl (by omega) (by omega), piL_open c he h2 rfl (by omega) (by omega)]
      exact ih n n' (o + 1) (p + 1) (m + 1) _ (by omega) (by omega) (by omega)
    · rw [show n + (i + 1) + 2 = (n + i + 2) + 1 by omega, show n' + (i + 1) + 2 = (n' + i + 2) + 1 by omega, piL_stop he h2 (fun w => c (Or.inl w)) (fun w => c (Or.inr w)), piL_stop he h2 (fun w => c (Or.inl w)) (fun w => c (Or.inr w))]
end PL
theorem pi_open {c ib : Int32} (hc : c = 33 ∨ c = 40) (he : e ≤ 120) (hp : p < e) (hh : hN t e p = c) (ho : o < 6) (hm : m < 150) : f_X12_pieceOfC (nI p) (nI e) 0 (nI k) (nI o) (nI m) ib na nc st t = f_X12_pieceOfC (nI (p + 1)) (nI e) 0 (nI k) (nI (o + 1)) (nI (m + 1)) ib na nc (upd st m c) t := by
  obtain ⟨n, hn⟩ : ∃ n, FU = (n + (5 - o) + 2) + 1 := ⟨FU - (5 - o) - 3, by have := FU_ge; omega⟩
  rw [f_X12_pieceOfC, f_X12_pieceOfC]
  have h1 : f_X12_pieceOfC_L0 (nI e) t (f_X12_pieceOfC_J32 (nI e) (nI k) ib na nc t) FU 0 (nI o) (nI p) (nI m) st = f_X12_pieceOfC_L0 (nI e) t (f_X12_pieceOfC_J32 (nI e) (nI k) ib na nc t) (n + (5 - o) + 2) 0 (nI (o + 1)) (nI (p + 1)) (nI (m + 1)) (upd st m c) := by
    rw [hn]; exact piL_open hc he (by omega) hh ho (by omega) _
  have h2 : f_X12_pieceOfC_L0 (nI e) t (f_X12_pieceOfC_J32 (nI e) (nI k) ib na nc t) FU 0 (nI (o + 1)) (nI (p + 1)) (nI (m + 1)) (upd st m c) = f_X12_pieceOfC_L0 (nI e) t (f_X12_pieceOfC_J32 (nI e) (nI k) ib na nc t) (n + (5 - o) + 2) 0 (nI (o + 1)) (nI (p + 1)) (nI (m + 1)) (upd st m c) := by
    rw [hn, show n + (5 - o) + 2 + 1 = (n + 1) + (5 - o) + 2 by omega]
    exact piL_fuel he (5 - o) (n + 1) n (o + 1) (p + 1) (m + 1) _ (by omega) (by omega) (by omega)
  rw [h1, h2]
theorem pi_deep {c ib : Int32} (hc : c = 33 ∨ c = 40) (he : e ≤ 120) (hp : p < e) (hh : hN t e p = c) (hm : m < 150) : f_X12_pieceOfC (nI p) (nI e) 0 (nI k) (nI 6) (nI m) ib na nc st t = some (nI (p + 1), badC 5 p, nI k, nI 7, nI (m + 1), ib, na, nc, upd st m c) := by
  obtain ⟨n, hn⟩ : ∃ n, FU = n + 2 := ⟨FU - 2, by have := FU_ge; omega⟩
  have hg := isGood_n (badC_ne (f := 5) (a := p) (by decide) (by decide) (by omega))
  rw [f_X12_pieceOfC, hn, piL_deep hc he (by omega) hh (by omega), f_X12_pieceOfC_J32, hg, cb1_o, if_pos rfl, f_X12_pieceOfC_J43, hg, cb1_o, if_pos rfl]
theorem pi_stop {ib : Int32} (he : e ≤ 120) (hp : p ≤ e) (h1 : ¬ hN t e p = 33) (h2 : ¬ hN t e p = 40) : f_X12_pieceOfC (nI p) (nI e) 0 (nI k) (nI o) (nI m) ib na nc st t = cb9 (f_X12_value (nI p) (nI e) 0 (nI k) (nI o) (nI m) ib na nc st t) (fun p1 d1 k1 o1 m1 ib1 na1 nc1 st1 => f_X12_pieceOfC_J43 (nI e) t d1 k1 ib1 o1 p1 m1 na1 nc1 st1) := by
  obtain ⟨n, hn⟩ : ∃ n, FU = n + 1 := ⟨FU - 1, by have := FU_ge; omega⟩
  rw [f_X12_pieceOfC, hn, piL_stop he hp h1 h2, f_X12_pieceOfC_J32, isGood_0, cb1_o, if_neg (by decide)]
/-! the loop of a C -/
noncomputable def dL (e : Nat) (t : Nat → Int32) (n : Nat) (mo ib : Int32) (k o p m : Nat) (na nc st : Nat → Int32) : Option (Int32 × Int32 × Int32 × Int32 × Int32 × Int32 × Int32 × (Nat → Int32) × (Nat → Int32) × (Nat → Int32)) := f_X12_condition_L37 (nI e) t n mo 0 (nI k) ib 0 (nI o) (nI p) (nI m) na nc st
def drun (e : Nat) (t : Nat → Int32) (k o p m : Nat) (na nc st : Nat → Int32) (k' o' p' m' : Nat) (na' nc' st' : Nat → Int32) : Prop := ∃ J : Nat, J + p ≤ p' ∧ ∀ ib : Int32, ∃ ib' : Int32, ∀ n : Nat, dL e t (n + 1 + J) 1 ib k o p m na nc st = dL e t (n + 1) 0 ib' k' o' p' m' na' nc' st'
def dbad (e : Nat) (t : Nat → Int32) (k o p m : Nat) (na nc st : Nat → Int32) (d : Int32) : Prop := ∃ J : Nat, J + p ≤ e + 1 ∧ ∀ ib : Int32, ∃ (p' k' o' m' ov ib' : Int32) (na' nc' st' : Nat → Int32), ∀ n : Nat, dL e t (n + 1 + J) 1 ib k o p m na nc st = some (p', d, k', o', m', ov, ib', na', nc', st')
theorem dL_1 (ib : Int32) (n : Nat) : dL e t (n + 1) 1 ib k o p m na nc st = cb9 (f_X12_pieceOfC (nI p) (nI e) 0 (nI k) (nI o) (nI m) ib na nc st t) (fun p1 d1 k1 o1 m1 ib1 na1 nc1 st1 => f_X12_condition_J59 (nI e) t 1 0 (f_X12_condition_L37 (nI e) t n) d1 k1 ib1 o1 p1 m1 na1 nc1 st1) := by
  unfold dL
  rw [f_X12_condition_L37, isGood_0, cb1_o, if_neg (by decide), if_pos rfl, if_neg (by decide)]
theorem dL_0 (ib : Int32) (n : Nat) : dL e t (n + 1) 0 ib k o p m na nc st = cb10 (f_X12_goesBehind (nI p) (nI e) 0 (nI k) (nI o) (nI m) 0 na nc st t) (fun r p1 d1 k1 o1 m1 ov1 na1 nc1 st1 => f_X12_condition_L37 (nI e) t n r d1 k1 ib ov1 o1 p1 m1 na1 nc1 st1) := by
  unfold dL
  rw [f_X12_condition_L37, isGood_0, cb1_o, if_neg (by decide), if_pos rfl, if_pos rfl, f_X12_condition_J59, isGood_0, cb1_o, if_neg (by decide)]
theorem drun_pi (hpp : p ≤ p') (hf : ∀ ib : Int32, ∃ ib' : Int32, f_X12_pieceOfC (nI p) (nI e) 0 (nI k) (nI o) (nI m) ib na nc st t = some (nI p', 0, nI k', nI o', nI m', ib', na', nc', st')) : drun e t k o p m na nc st k' o' p' m' na' nc' st' := by
  refine ⟨0, by omega, fun ib => ?_⟩
  obtain ⟨ib', h⟩ := hf ib
  refine ⟨ib', fun n => ?_⟩
  rw [Nat.add_zero, dL_1, h, cb9_o, f_X12_condition_J59, isGood_0, cb1_o, if_neg (by decide), dL_0]
theorem dbad_pi {d : Int32} (hpe : p ≤ e) (hd : ¬ d = 0) (hf : ∀ ib : Int32, ∃ (p1 k1 o1 m1 ib1 : Int32) (na1 nc1 st1 : Nat → Int32), f_X12_pieceOfC (nI p) (nI e) 0 (nI k) (nI o) (nI m) ib na nc st t = some (p1, d, k1, o1, m1, ib1, na1, nc1, st1)) : dbad e t k o p m na nc st d := by
  refine ⟨1, by omega, fun ib => ?_⟩
  obtain ⟨p1, k1, o1, m1, ib1, na1, nc1, st1, h⟩ := hf ib
  refine ⟨p1, k1, o1, m1, 0, ib1, na1, nc1, st1, fun n => ?_⟩
  rw [dL_1, h, cb9_o, f_X12_condition_J59, isGood_n hd, cb1_o, if_pos rfl, f_X12_condition_L37, isGood_n hd, cb1_o, if_pos rfl]
theorem drun_open {c : Int32} (hc : c = 33 ∨ c = 40) (he : e ≤ 120) (hp : p < e) (hh : hN t e p = c) (ho : o < 6) (hm : m < 150) (h : drun e t k (o + 1) (p + 1) (m + 1) na nc (upd st m c) k' o' p' m' na' nc' st') : drun e t k o p m na nc st k' o' p' m' na' nc' st' := by
  obtain ⟨J, hJ, h⟩ := h
  refine ⟨J, by omega, fun ib => ?_⟩
  obtain ⟨ib', h⟩ := h ib
  refine ⟨ib', fun n => ?_⟩
  rw [← h n, show n + 1 + J = (n + J) + 1 by omega, dL_1, dL_1, pi_open hc he hp hh ho hm]
theorem dbad_open {c d : Int32} (hc : c = 33 ∨ c = 40) (he : e ≤ 120) (hp : p < e) (hh : hN t e p = c) (ho : o < 6) (hm : m < 150) (h : dbad e t k (o + 1) (p + 1) (m + 1) na nc (upd st m c) d) : dbad e t k o p m na nc st d := by
  obtain ⟨J, hJ, h⟩ := h
  refine ⟨J, by omega, fun ib => ?_⟩
  obtain ⟨p1, k1, o1, m1, ov, ib1, na1, nc1, st1, h⟩ := h ib
  refine ⟨p1, k1, o1, m1, ov, ib1, na1, nc1, st1, fun n => ?_⟩
  rw [← h n, show n + 1 + J = (n + J) + 1 by omega, dL_1, dL_1, pi_open hc he hp hh ho hm]
/-- an & or a | behind a piece -/
theorem go_join {c fl : Int32} (he : e ≤ 120) (hp : a < e) (hc : hN t e a = c) (hcc : (c = 38 ∧ fl = 0) ∨ (c = 124 ∧ fl = 1)) (hm : ¬ jq fl (tpN st m)) (h1 : ∀ i, i < j → jq fl (st (m + i))) (h2 : k + j ≤ 120) (h3 : m + j < 160) (ib : Int32) (n : Nat) :
    dL e t (n + 1) 0 ib k o a (m + j) na nc st = dL e t n 1 ib (k + j) o (a + 1) (m + 1) (emC z0 m j na k) (emC st m j nc k) (upd st m c) := by
  have hJ : f_X12_goesBehind_J29 st c 0 (nI k) 0 (nI o) (nI a) (nI (m + j)) na nc fl = some (1, nI (a + 1), 0, nI (k + j), nI o, nI (m + 1), 0, emC z0 m j na k, emC st m j nc k, upd st m c) := by
    rw [f_X12_goesBehind_J29, joins_e hm h1 h2 (by omega), cb4_o, puts_n (by omega), cb3_o]
  have hs : f_X12_goesBehind (nI a) (nI e) 0 (nI k) (nI o) (nI (m + j)) 0 na nc st t = some (1, nI (a + 1), 0, nI (k + j), nI o, nI (m + 1), 0, emC z0 m j na k, emC st m j nc k, upd st m c) := by
    rw [f_X12_goesBehind, here_n he (by omega), cb1_o, hc]
    rcases hcc with ⟨d1, d2⟩ | ⟨d1, d2⟩
    · subst d2; rw [if_pos d1, f_X12_goesBehind_J17, if_neg (by rw [d1]; decide)]; exact hJ
    · subst d2; rw [if_neg (by rw [d1]; decide), if_pos d1, f_X12_goesBehind_J17, if_pos d1]; exact hJ
  rw [dL_0, hs, cb10_o]
  rfl
theorem drun_op {k3 o3 p3 m3 : Nat} {na3 nc3 st3 : Nat → Int32} {k2' o2 m2 : Nat} {na2 nc2 st2 : Nat → Int32} (h : drun e t k o p m na nc st k' o' a m' na' nc' st') (hs : ∀ (ib : Int32) (n : Nat), dL e t (n + 1) 0 ib k' o' a m' na' nc' st' = dL e t n 1 ib k2' o2 (a + 1) m2 na2 nc2 st2) (h2 : drun e t k2' o2 (a + 1) m2 na2 nc2 st2 k3 o3 p3 m3 na3 nc3 st3) : drun e t k o p m na nc st k3 o3 p3 m3 na3 nc3 st3 := by
  obtain ⟨J, hJ, h⟩ := h
  obtain ⟨J2, hJ2, h2⟩ := h2
  refine ⟨J + J2 + 1, by omega, fun ib => ?_⟩
  obtain ⟨ib1, h⟩ := h ib
  obtain ⟨ib2, h2⟩ := h2 ib1
  refine ⟨ib2, fun n => ?_⟩
  rw [show n + 1 + (J + J2 + 1) = (n + 1 + J2) + 1 + J by omega, h (n + 1 + J2), hs ib1 (n + 1 + J2), h2 n]
theorem dbad_op {d : Int32} {k2' o2 m2 : Nat} {na2 nc2 st2 : Nat → Int32} (h : drun e t k o p m na nc st k' o' a m' na' nc' st') (hs : ∀ (ib : Int32) (n : Nat), dL e t (n + 1) 0 ib k' o' a m' na' nc' st' = dL e t n 1 ib k2' o2 (a + 1) m2 na2 nc2 st2) (h2 : dbad e t k2' o2 (a + 1) m2 na2 nc2 st2 d) : dbad e t k o p m na nc st d := by
  obtain ⟨J, hJ, h⟩ := h
  obtain ⟨J2, hJ2, h2⟩ := h2
  refine ⟨J + J2 + 1, by omega, fun ib => ?_⟩
  obtain ⟨ib1, h⟩ := h ib
  obtain ⟨p1, k1, o1, m1, ov, ib2, na1, nc1, st1, h2⟩ := h2 ib1
  refine ⟨p1, k1, o1, m1, ov, ib2, na1, nc1, st1, fun n => ?_⟩
  rw [show n + 1 + (J + J2 + 1) = (n + 1 + J2) + 1 + J by omega, h (n + 1 + J2), hs ib1 (n + 1 + J2), h2 n]
/-- a bracket closes behind a C that stands in another -/
theorem go_close {r : Nat} (he : e ≤ 120) (hp : a < e) (hc : hN t e a = 41) (hm : st (m + r) = 40) (hmr : 0 < m + r) (hb : ¬ tpN st m = 33) (hr : ∀ i, i < r → st (m + i) = 33) (hro : r + 1 ≤ o) (h1 : ∀ i, i < j → jq 1 (st (m + r + 1 + i))) (h2 : k + j + r ≤ 120) (h3 : m + r + 1 + j < 160) (ib : Int32) (n : Nat) :
    dL e t (n + 1) 0 ib k o a (m + r + 1 + j) na nc st = dL e t n 0 ib (k + j + r) (o - 1 - r) (a + 1) m (emC z0 m r (emC z0 (m + r + 1) j na k) (k + j)) (emC k2 m r (emC st (m + r + 1) j nc k) (k + j)) st := by
  have ht : tpN st (m + r + 1) = 40 := by unfold tpN; rw [if_neg (by omega)]; exact hm
  have hq : ¬ jq 1 (tpN st (m + r + 1)) := by
    rw [ht]
    rintro (h | h)
    · exact absurd h (by decide)
    · exact absurd h.2 (by decide)
  obtain ⟨o1, rfl⟩ : ∃ o1, o = o1 + 1 := ⟨o - 1, by omega⟩
  have hne : ¬ nI (m + r) = 0 := nI_ne0 (by omega) (by omega)
  have hs : f_X12_goesBehind (nI a) (nI e) 0 (nI k) (nI (o1 + 1)) (nI (m + r + 1 + j)) 0 na nc st t = some (0, nI (a + 1), 0, nI (k + j + r), nI (o1 - r), nI m, 0, emC z0 m r (emC z0 (m + r + 1) j na k) (k + j), emC k2 m r (emC st (m + r + 1) j nc k) (k + j), st) := by
    rw [f_X12_goesBehind, here_n he (by omega), cb1_o, hc, if_neg (by decide), if_neg (by decide), if_pos rfl, joins_e hq h1 (by omega) (by omega), cb4_o, nmI_o, nmI_o, nmI_o, nI_pred, nI_pred, nI_1, if_neg hne, f_X12_goesBehind_J104]
    unfold bo
    rw [if_pos (Or.inl rfl), if_pos rfl, ends_e hb hr (by omega) (by omega) (by omega), cb5_o]
  rw [dL_0, hs, cb10_o, show o1 + 1 - 1 - r = o1 - r by omega]
  rfl
theorem drun_close {k2' o2 m2 : Nat} {na2 nc2 st2 : Nat → Int32} (h : drun e t k o p m na nc st k' o' a m' na' nc' st') (hs : ∀ (ib : Int32) (n : Nat), dL e t (n + 1) 0 ib k' o' a m' na' nc' st' = dL e t n 0 ib k2' o2 (a + 1) m2 na2 nc2 st2) : drun e t k o p m na nc st k2' o2 (a + 1) m2 na2 nc2 st2 := by
  obtain ⟨J, hJ, h⟩ := h
  refine ⟨J + 1, by omega, fun ib => ?_⟩
  obtain ⟨ib1, h⟩ := h ib
  refine ⟨ib1, fun n => ?_⟩
  rw [show n + 1 + (J + 1) = (n + 1) + 1 + J by omega, h (n + 1), hs ib1 (n + 1)]
/-- what can't stand behind a piece -/
theorem go_wrong (he : e ≤ 120) (hp : a ≤ e) (h1 : ¬ hN t e a = 38) (h2 : ¬ hN t e a = 124) (h3 : ¬ hN t e a = 41) (ib : Int32) (n : Nat) : dL e t (n + 1 + 1) 0 ib k o a m na nc st = some (nI a, badC 1 a, nI k, nI o, nI m, 0, ib, na, nc, st) := by
  rw [dL_0, f_X12_goesBehind, here_n he hp, cb1_o, if_neg h1, if_neg h2, if_neg h3, wrongs_n, cb1_o, cb10_o, f_X12_condition_L37, isGood_n (badC_ne (by decide) (by decide) (by omega)), cb1_o, if_pos rfl]
theorem dbad_wrong (hae : a ≤ e) (he : e ≤ 120) (h : drun e t k o p m na nc st k' o' a m' na' nc' st') (h1 : ¬ hN t e a = 38) (h2 : ¬ hN t e a = 124) (h3 : ¬ hN t e a = 41) : dbad e t k o p m na nc st (badC 1 a) := by
  obtain ⟨J, hJ, h⟩ := h
  refine ⟨J + 1, by omega, fun ib => ?_⟩
  obtain ⟨ib1, h⟩ := h ib
  refine ⟨nI a, nI k', nI o', nI m', 0, ib1, na', nc', st', fun n => ?_⟩
  rw [show n + 1 + (J + 1) = (n + 1) + 1 + J by omega, h (n + 1)]
  exact go_wrong he hae h1 h2 h3 ib1 n
end S6
