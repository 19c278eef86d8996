section
/-! the two readers of texts, side by side: the reference's small steps, in numbers -/
theorem upd_s (f : Nat → Int32) (i : Nat) (v : Int32) : upd f i v i = v := if_pos rfl
theorem upd_n {f : Nat → Int32} {i j : Nat} {v : Int32} (h : ¬ j = i) : upd f i v j = f j := if_neg h
def hN (t : Nat → Int32) (e p : Nat) : Int32 := if p < e then t p &&& 255 else 0
def nN (b : Nat → Int32) (e p : Nat) : Int32 := if p < e then b p else -1
def tpN (st : Nat → Int32) (m : Nat) : Int32 := if m = 0 then 0 else st (m - 1)
def isT (x : Int32) : Prop := x = 42 ∨ x = 47 ∨ x = 37
def isP (x : Int32) : Prop := x = 43 ∨ x = 45
theorem here_n {t : Nat → Int32} {e p : Nat} (h : e ≤ 120) (hp : p ≤ e) : f_X12_here (nI p) (nI e) t = some (hN t e p) := by
  rw [f_X12_here]
  unfold hN
  by_cases c : p < e
  · rw [if_neg (nI_ge c (by omega)), if_pos c, rdI_o (jin_n (by omega) (by omega)), nI_clamp (by omega)]
  · rw [if_pos (nI_le (by omega) (by omega)), if_neg c]
theorem next_n {b : Nat → Int32} {e p : Nat} (h : e ≤ 120) (hp : p ≤ e) : f_X6_next 200 (nI e) (nI p) b = some (nN b e p) := by
  rw [f_X6_next]
  unfold nN
  by_cases c : p < e
  · rw [if_neg (nI_ge c (by omega)), if_pos c, rdI_o (jin_n (by omega) (by omega)), nI_clamp (by omega)]
  · rw [if_pos (nI_le (by omega) (by omega)), if_neg c]
theorem nh {b t : Nat → Int32} {e p : Nat} (h : TBy b t) : nN b e p = if p < e then hN t e p else -1 := by
  unfold nN hN
  by_cases c : p < e
  · rw [if_pos c, if_pos c, if_pos c]; exact h p
  · rw [if_neg c, if_neg c]
theorem hN_lt {t : Nat → Int32} {e p : Nat} (h : ¬ hN t e p = 0) : p < e := by
  unfold hN at h
  by_cases c : p < e
  · exact c
  · rw [if_neg c] at h; exact absurd rfl h
theorem hN_b (t : Nat → Int32) (e p : Nat) : 0 ≤ (hN t e p).toInt ∧ (hN t e p).toInt ≤ 255 := by
  unfold hN
  have z : (0 : Int32).toInt = 0 := by decide
  have z2 : (255 : Int32).toInt = 255 := by decide
  by_cases c : p < e
  · rw [if_pos c]
    have := an_ (t p) 255 (by omega)
    omega
  · rw [if_neg c]; omega
/-- a sign that is neither 0 nor -1 is seen by both -/
theorem nh_iff {b t : Nat → Int32} {e p : Nat} (h : TBy b t) (c : Int32) (hc : 0 < c.toInt) : nN b e p = c ↔ hN t e p = c := by
  have z : (0 : Int32).toInt = 0 := by decide
  have zm : (-1 : Int32).toInt = -1 := by decide
  rw [nh h]
  by_cases d : p < e
  · rw [if_pos d]
  · rw [if_neg d]
    have e0 : hN t e p = 0 := by unfold hN; rw [if_neg d]
    rw [e0]
    constructor
    · intro w; have := eqI w; omega
    · intro w; have := eqI w; omega
theorem top_n {st : Nat → Int32} {m : Nat} (h : m ≤ 160) : f_X12_top (nI m) st = some (tpN st m) := by
  rw [f_X12_top]
  unfold tpN
  cases m with
  | zero => rw [if_pos (by decide), if_pos rfl]
  | succ m =>
    rw [if_neg (nI_nle (by omega) (by omega)), if_neg (by omega), nI_pred, rdI_o (jin_n (by omega) (by omega)), nI_clamp (by omega)]
    rfl
theorem puts_n {st : Nat → Int32} {p m : Nat} {c : Int32} (h : m < 160) : f_X12_puts (nI p) (nI m) st c = some (nI (p + 1), nI (m + 1), upd st m c) := by
  rw [f_X12_puts, wrI_o (jin_n h (by omega)), nmI_o, nmI_o, nI_1, nI_1, nI_clamp (by omega)]
theorem emit_n {na nc : Nat → Int32} {k : Nat} {c a : Int32} (h : k < 120) : f_X12_emit 0 (nI k) na nc c a = some (nI (k + 1), upd na k a, upd nc k c) := by
  rw [f_X12_emit, isGood_0, cb1_o, if_neg (by decide), wrI_o (jin_n h (by omega)), wrI_o (jin_n h (by omega)), nmI_o, nI_1, nI_clamp (by omega)]
/-- j signs are emitted, the last one first -/
def emC (st : Nat → Int32) (m : Nat) : Nat → (Nat → Int32) → Nat → (Nat → Int32)
  | 0, nc, _ => nc
  | j + 1, nc, k => emC st m j (upd nc k (st (m + j))) (k + 1)
def z0 : Nat → Int32 := fun _ => 0
theorem emC_lo {st : Nat → Int32} {m : Nat} : ∀ {j : Nat} {nc : Nat → Int32} {k i : Nat}, i < k → emC st m j nc k i = nc i := by
  intro j
  induction j with
  | zero => intro nc k i h; rfl
  | succ j ih =>
    intro nc k i h
    rw [emC, ih (by omega)]
    unfold upd
    rw [if_neg (by omega)]
theorem emC_snoc {st : Nat → Int32} {m : Nat} : ∀ {j : Nat} {nc : Nat → Int32} {k : Nat}, emC st m (j + 1) nc k = upd (emC st (m + 1) j nc k) (k + j) (st m) := by
  intro j
  induction j with
  | zero => intro nc k; rfl
  | succ j ih =>
    intro nc k
    rw [emC, ih]
    have e1 : emC st (m + 1) (j + 1) nc k = emC st (m + 1) j (upd nc k (st (m + 1 + j))) (k + 1) := rfl
    rw [e1, show m + (j + 1) = m + 1 + j by omega, show k + 1 + j = k + (j + 1) by omega]
theorem emC_congr {st st' : Nat → Int32} {m : Nat} : ∀ {j : Nat} {nc : Nat → Int32} {k : Nat}, (∀ i, i < j → st (m + i) = st' (m + i)) → emC st m j nc k = emC st' m j nc k := by
  intro j
  induction j with
  | zero => intro nc k h; rfl
  | succ j ih =>
    intro nc k h
    rw [emC, emC, h j (by omega)]
    exact ih (fun i hi => h i (by omega))
def opq (fl : Int32) (x : Int32) : Prop := isT x ∨ (¬ fl = 0 ∧ isP x)
theorem isA_opq {x : Int32} (h : isA x) : opq 1 x := by
  rcases h with h | h | h | h | h
  · exact Or.inl (Or.inl h)
  · exact Or.inl (Or.inr (Or.inl h))
  · exact Or.inl (Or.inr (Or.inr h))
  · exact Or.inr ⟨by decide, Or.inl h⟩
  · exact Or.inr ⟨by decide, Or.inr h⟩
theorem sums_n {st : Nat → Int32} {fl : Int32} {m : Nat} (hm : ¬ opq fl (tpN st m)) : ∀ (j n k : Nat) (na nc : Nat → Int32), (∀ i, i < j → opq fl (st (m + i))) → k + j ≤ 120 → m + j ≤ 160 → f_X12_sums_L0 0 st fl (n + j + 1) (nI k) (nI (m + j)) na nc = some (nI (k + j), nI m, emC z0 m j na k, emC st m j nc k) := by
  intro j
  induction j with
  | zero =>
    intro n k na nc h1 h2 h3
    rw [f_X12_sums_L0, Nat.add_zero, top_n (by omega), cb1_o, isTimes_e, cb1_o, cb1_o, isPlus_e, cb1_o]
    have hT : ¬ (tpN st m = 42 ∨ tpN st m = 47 ∨ tpN st m = 37) := fun w => hm (Or.inl w)
    rw [if_pos (by rw [bI_0]; exact hT)]
    by_cases c : fl = 0
    · rw [if_pos c]; rfl
    · rw [if_neg c, if_pos (by rw [bI_0]; exact fun w => hm (Or.inr ⟨c, w⟩))]; rfl
  | succ j ih =>
    intro n k na nc h1 h2 h3
    have ht : tpN st (m + (j + 1)) = st (m + j) := by unfold tpN; rw [if_neg (by omega)]; rfl
    have J : f_X12_sums_J24 0 st (nI k) (nI (m + (j + 1))) na nc (f_X12_sums_L0 0 st fl (n + j + 1)) = some (nI (k + (j + 1)), nI m, emC z0 m (j + 1) na k, emC st m (j + 1) nc k) := by
      rw [f_X12_sums_J24, top_n (by omega), cb1_o, ht, emit_n (by omega), cb3_o, nmI_o, show m + (j + 1) = (m + j) + 1 by omega, nI_pred, ih n (k + 1) _ _ (fun i hi => h1 i (by omega)) (by omega) (by omega)]
      rw [show k + 1 + j = k + (j + 1) by omega]
      rfl
    rw [show n + (j + 1) + 1 = (n + j + 1) + 1 by omega, f_X12_sums_L0, top_n (by omega), cb1_o, isTimes_e, cb1_o, cb1_o, isPlus_e, cb1_o, ht]
    have h4 := h1 j (by omega)
    by_cases c : st (m + j) = 42 ∨ st (m + j) = 47 ∨ st (m + j) = 37
    · rw [if_neg (by rw [bI_0]; exact fun w => w c)]
      exact J
    · rw [if_pos (by rw [bI_0]; exact c)]
      rcases h4 with h4 | h4
      · exact absurd h4 c
      · rw [if_neg h4.1, if_neg (by rw [bI_0]; exact fun w => w h4.2)]
        exact J
theorem FU_n (j : Nat) (h : j ≤ 1000) : ∃ n, FU = n + j + 1 := ⟨FU - j - 1, by have := FU_ge; omega⟩
theorem sums_e {st : Nat → Int32} {fl : Int32} {m j k : Nat} {na nc : Nat → Int32} (hm : ¬ opq fl (tpN st m)) (h1 : ∀ i, i < j → opq fl (st (m + i))) (h2 : k + j ≤ 120) (h3 : m + j ≤ 160) : f_X12_sums 0 (nI k) (nI (m + j)) na nc st fl = some (nI (k + j), nI m, emC z0 m j na k, emC st m j nc k) := by
  obtain ⟨n, hn⟩ := FU_n j (by omega)
  rw [f_X12_sums, hn]
  exact sums_n hm j n k na nc h1 h2 h3
/-- the loop of an E of the reference -/
noncomputable def vL (e : Nat) (t : Nat → Int32) (n : Nat) (ib : Int32) (k o p m : Nat) (na nc st : Nat → Int32) : Option (Int32 × Int32 × Int32 × Int32 × Int32 × Int32 × (Nat → Int32) × (Nat → Int32) × (Nat → Int32)) := f_X12_value_L7 (nI e) t f_X12_value_J57 n 1 0 (nI k) ib (nI o) (nI p) (nI m) na nc st
/-- from an operand's place to behind an operand -/
def vrun (e : Nat) (t : Nat → Int32) (k o p m : Nat) (na nc st : Nat → Int32) (k' o' p' m' : Nat) (na' nc' st' : Nat → Int32) : Prop := ∃ J : Nat, J + p ≤ p' ∧ ∀ n : Nat, vL e t (n + 1 + J) 0 k o p m na nc st = vL e t (n + 1) 1 k' o' p' m' na' nc' st'
def vbad (e : Nat) (t : Nat → Int32) (k o p m : Nat) (na nc st : Nat → Int32) (d : Int32) : Prop := ∃ (J : Nat) (p' k' o' m' ib' : Int32) (na' nc' st' : Nat → Int32), J + p ≤ e + 1 ∧ ∀ n : Nat, vL e t (n + 1 + J) 0 k o p m na nc st = some (p', d, k', o', m', ib', na', nc', st')
section SI
variable {e k o p m k' o' p' m' k2 o2 p2 m2 : Nat} {t na nc st na' nc' st' na2 nc2 st2 : Nat → Int32} {d : Int32}
/-- behind an operand: what the next sign does -/
theorem vL_1 (n : Nat) : vL e t (n + 1) 1 k o p m na nc st = f_X12_value_J29 (nI e) t (f_X12_value_L7 (nI e) t f_X12_value_J57 n) 0 (nI k) (nI o) (nI p) (nI m) na nc st := by
  unfold vL
  rw [f_X12_value_L7, if_neg (by decide), isGood_0, cb1_o, if_neg (by decide), if_neg (by decide)]
theorem stay_op {c : Int32} {fl : Int32} {j : Nat} (he : e ≤ 120) (hp : p < e) (hc : hN t e p = c) (hco : isA c) (hfl : fl = bI (c = 43 ∨ c = 45)) (hm : ¬ opq fl (tpN st m)) (h1 : ∀ i, i < j → opq fl (st (m + i))) (h2 : k + j ≤ 120) (h3 : m + j < 160) (n : Nat) :
    vL e t (n + 1) 1 k o p (m + j) na nc st = vL e t n 0 (k + j) o (p + 1) (m + 1) (emC z0 m j na k) (emC st m j nc k) (upd st m c) := by
  have hJ : f_X12_stays_J19 st c 0 (nI k) 0 (nI o) (nI p) (nI (m + j)) na nc = some (1, nI (p + 1), 0, nI (k + j), nI o, nI (m + 1), 0, emC z0 m j na k, emC st m j nc k, upd st m c) := by
    rw [f_X12_stays_J19, isPlus_e, cb1_o, ← hfl, sums_e hm h1 h2 (by omega), cb4_o, puts_n (by omega), cb3_o]
  have hs : f_X12_stays (nI p) (nI e) 0 (nI k) (nI o) (nI (m + j)) 0 na nc st t = some (1, nI (p + 1), 0, nI (k + j), nI o, nI (m + 1), 0, emC z0 m j na k, emC st m j nc k, upd st m c) := by
    rw [f_X12_stays, here_n he (by omega), cb1_o, hc, isTimes_e, cb1_o]
    by_cases d : c = 42 ∨ c = 47 ∨ c = 37
    · rw [if_neg (by rw [bI_0]; exact fun w => w d)]
      exact hJ
    · have d2 : c = 43 ∨ c = 45 := by
        rcases hco with h | h | h | h | h
        · exact absurd (Or.inl h) d
        · exact absurd (Or.inr (Or.inl h)) d
        · exact absurd (Or.inr (Or.inr h)) d
        · exact Or.inl h
        · exact Or.inr h
      rw [if_pos (by rw [bI_0]; exact d), isPlus_e, cb1_o, if_neg (by rw [bI_0]; exact fun w => w d2)]
      exact hJ
  rw [vL_1, f_X12_value_J29, isGood_0, cb1_o, if_neg (by decide), hs, cb10_o, if_neg (by decide)]
  rfl
theorem stay_close {j : Nat} (he : e ≤ 120) (hp : p < e) (hc : hN t e p = 93) (hm : st m = 91) (h1 : ∀ i, i < j → isA (st (m + 1 + i))) (h2 : k + j ≤ 120) (h3 : m + 1 + j < 160) (ho : 0 < o) (n : Nat) :
    vL e t (n + 1) 1 k o p (m + 1 + j) na nc st = vL e t n 1 (k + j) (o - 1) (p + 1) m (emC z0 (m + 1) j na k) (emC st (m + 1) j nc k) st := by
  have ht : tpN st (m + 1) = 91 := by unfold tpN; rw [if_neg (by omega)]; exact hm
  have hq : ¬ opq 1 (tpN st (m + 1)) := by
    rw [ht]
    rintro (h | h)
    · exact absurd h (by unfold isT; decide)
    · exact absurd h.2 (by unfold isP; decide)
  have hs : f_X12_stays (nI p) (nI e) 0 (nI k) (nI o) (nI (m + 1 + j)) 0 na nc st t = some (1, nI (p + 1), 0, nI (k + j), nI (o - 1), nI m, 1, emC z0 (m + 1) j na k, emC st (m + 1) j nc k, st) := by
    rw [f_X12_stays, here_n he (by omega), cb1_o, hc, isTimes_e, cb1_o, if_pos (by decide), isPlus_e, cb1_o, if_pos (by decide), sums_e hq (fun i hi => isA_opq (h1 i hi)) h2 (by omega), cb4_o, if_pos rfl, top_n (by omega), cb1_o, ht, if_pos rfl, nmI_o, nmI_o, nmI_o, nI_pred, nI_1]
    obtain ⟨o1, rfl⟩ : ∃ o1, o = o1 + 1 := ⟨o - 1, by omega⟩
    rw [nI_pred, Nat.add_sub_cancel]
  rw [vL_1, f_X12_value_J29, isGood_0, cb1_o, if_neg (by decide), hs, cb10_o, if_neg (by decide)]
  rfl
end SI
end
section
def badC (f : Int32) (a : Nat) : Int32 := ((-1000) * f) - nI a
theorem wrongs_n (f : Int32) (a : Nat) : f_X12_wrongs 0 f (nI a) = some (badC f a) := by
  rw [f_X12_wrongs, if_pos (by decide), nmI_o]; rfl
theorem badC_ne {f : Int32} {a : Nat} (h1 : 1 ≤ f.toInt) (h2 : f.toInt ≤ 9) (ha : a ≤ 200) : ¬ badC f a = 0 := by
  have ta : (nI a).toInt = (a : Int) := nI_toInt (by omega)
  have h := Sf_det (P := fun y => y.toInt < 0) (wrongs_n f a) (wrongs_s 0 f (nI a) h1 h2 (by omega) (by omega))
  exact ne_lt h
theorem opens_n {t st : Nat → Int32} {e p o m : Nat} {c : Int32} (he : e ≤ 120) (hp : p ≤ e) (hc : hN t e p = c) (ho : o < 6) (hm : m < 160) : f_X12_opens (nI p) (nI e) 0 (nI o) (nI m) st t = some (nI (p + 1), 0, nI (o + 1), nI (m + 1), upd st m c) := by
  have h6 : ¬ nI o = 6 := fun w => by
    have := (nI_eq (b := 6) (by omega) (by omega)).mp w
    omega
  rw [f_X12_opens, if_neg h6, f_X12_opens_J18, nmI_o, here_n he hp, cb1_o, hc, puts_n hm, cb3_o, nI_1]
theorem opens_6 {t st : Nat → Int32} {e p m : Nat} {c : Int32} (he : e ≤ 120) (hp : p ≤ e) (hc : hN t e p = c) (hm : m < 160) : f_X12_opens (nI p) (nI e) 0 (nI 6) (nI m) st t = some (nI (p + 1), badC 5 p, nI 7, nI (m + 1), upd st m c) := by
  rw [f_X12_opens, if_pos (by decide), wrongs_n, cb1_o, f_X12_opens_J18, nmI_o, here_n he hp, cb1_o, hc, puts_n hm, cb3_o, nI_1]
section S2
variable {e k o p m k' o' p' m' : Nat} {t na nc st na' nc' st' : Nat → Int32} {K : Int32 → Int32 → Int32 → Int32 → (Nat → Int32) → Option (Int32 × Int32 × Int32 × Int32 × Int32 × (Nat → Int32) × (Nat → Int32) × (Nat → Int32))}
theorem facL_open (he : e ≤ 120) (hp : p ≤ e) (hc : hN t e p = 91) (ho : o < 6) (hm : m < 160) (n : Nat) : f_X12_factor_L0 (nI e) t K (n + 1) 0 (nI o) (nI p) (nI m) st = f_X12_factor_L0 (nI e) t K n 0 (nI (o + 1)) (nI (p + 1)) (nI (m + 1)) (upd st m 91) := by
  rw [f_X12_factor_L0, isGood_0, cb1_o, if_neg (by decide), here_n he hp, cb1_o, hc, if_pos rfl, opens_n he hp hc ho hm, cb5_o]
theorem facL_stop (he : e ≤ 120) (hp : p ≤ e) (hc : ¬ hN t e p = 91) (n : Nat) : f_X12_factor_L0 (nI e) t K (n + 1) 0 (nI o) (nI p) (nI m) st = K 0 (nI o) (nI p) (nI m) st := by
  rw [f_X12_factor_L0, isGood_0, cb1_o, if_neg (by decide), here_n he hp, cb1_o, if_neg hc]
theorem facL_deep (he : e ≤ 120) (hp : p ≤ e) (hc : hN t e p = 91) (hm : m < 160) (n : Nat) : f_X12_factor_L0 (nI e) t K (n + 2) 0 (nI 6) (nI p) (nI m) st = K (badC 5 p) (nI 7) (nI (p + 1)) (nI (m + 1)) (upd st m 91) := by
  rw [f_X12_factor_L0, isGood_0, cb1_o, if_neg (by decide), here_n he hp, cb1_o, hc, if_pos rfl, opens_6 he hp hc hm, cb5_o, f_X12_factor_L0, isGood_n (badC_ne (by decide) (by decide) (by omega)), cb1_o, if_pos rfl]
theorem facL_fuel (he : e ≤ 120) : ∀ (i n n' o p m : Nat) (st : Nat → Int32), o + i = 6 → p ≤ e → m + i < 160 → f_X12_factor_L0 (nI e) t K (n + i + 2) 0 (nI o) (nI p) (nI m) st = f_X12_factor_L0 (nI e) t K (n' + i + 2) 0 (nI o) (nI p) (nI m) st := by
  intro i
  induction i with
  | zero =>
    intro n n' o p m st h1 h2 h3
    have ho : o = 6 := by omega
    subst ho
    by_cases c : hN t e p = 91
    · rw [Nat.add_zero, Nat.add_zero, facL_deep he h2 c (by omega), facL_deep he h2 c (by omega)]
    · rw [show n + 0 + 2 = (n + 1) + 1 by omega, show n' + 0 + 2 = (n' + 1) + 1 by omega, facL_stop he h2 c, facL_stop he h2 c]
  | succ i ih =>
    intro n n' o p m st h1 h2 h3
    by_cases c : hN t e p = 91
    · have hlt : p < e := hN_lt (by rw [c]; decide)
      rw [show n + (i + 1) + 2 = (n + i + 2) + 1 by omega, show n' + (i + 1) + 2 = (n' + i + 2) + 1 by omega, facL_open he h2 c (by omega) (by omega), facL_open he h2 c (by omega) (by omega)]
      exact ih n n' (o + 1) (p + 1) (m + 1) _ (by omega) (by omega) (by omega)
    · rw [show n + (i + 1) + 2 = (n + i + 2) + 1 by omega, show n' + (i + 1) + 2 = (n' + i + 2) + 1 by omega, facL_stop he h2 c, facL_stop he h2 c]
theorem fac_open (he : e ≤ 120) (hp : p < e) (hc : hN t e p = 91) (ho : o < 6) (hm : m < 150) : f_X12_factor (nI p) (nI e) 0 (nI k) (nI o) (nI m) na nc st t = f_X12_factor (nI (p + 1)) (nI e) 0 (nI k) (nI (o + 1)) (nI (m + 1)) na nc (upd st m 91) t := by
  obtain ⟨n, hn⟩ : ∃ n, FU = (n + (5 - o) + 2) + 1 := ⟨FU - (5 - o) - 3, by have := FU_ge; omega⟩
  rw [f_X12_factor, f_X12_factor]
  have h1 : f_X12_factor_L0 (nI e) t (f_X12_factor_J23 (nI e) (nI k) na nc t) FU 0 (nI o) (nI p) (nI m) st = f_X12_factor_L0 (nI e) t (f_X12_factor_J23 (nI e) (nI k) na nc t) (n + (5 - o) + 2) 0 (nI (o + 1)) (nI (p + 1)) (nI (m + 1)) (upd st m 91) := by
    rw [hn]; exact facL_open he (by omega) hc ho (by omega) _
  have h2 : f_X12_factor_L0 (nI e) t (f_X12_factor_J23 (nI e) (nI k) na nc t) FU 0 (nI (o + 1)) (nI (p + 1)) (nI (m + 1)) (upd st m 91) = f_X12_factor_L0 (nI e) t (f_X12_factor_J23 (nI e) (nI k) na nc t) (n + (5 - o) + 2) 0 (nI (o + 1)) (nI (p + 1)) (nI (m + 1)) (upd st m 91) := by
    rw [hn, show n + (5 - o) + 2 + 1 = (n + 1) + (5 - o) + 2 by omega]
    exact facL_fuel he (5 - o) (n + 1) n (o + 1) (p + 1) (m + 1) _ (by omega) (by omega) (by omega)
  rw [h1, h2]
theorem fac_deep (he : e ≤ 120) (hp : p < e) (hc : hN t e p = 91) (hm : m < 150) : f_X12_factor (nI p) (nI e) 0 (nI k) (nI 6) (nI m) na nc st t = some (nI (p + 1), badC 5 p, nI k, nI 7, nI (m + 1), na, nc, upd st m 91) := by
  obtain ⟨n, hn⟩ : ∃ n, FU = n + 2 := ⟨FU - 2, by have := FU_ge; omega⟩
  rw [f_X12_factor, hn, facL_deep he (by omega) hc (by omega), f_X12_factor_J23, isGood_n (badC_ne (by decide) (by decide) (by omega)), cb1_o, if_pos rfl]
/-- an operand's place: the loop is what its factor says -/
theorem vL_0 (n : Nat) : vL e t (n + 1) 0 k o p m na nc st = cb8 (f_X12_factor (nI p) (nI e) 0 (nI k) (nI o) (nI m) na nc st t) (fun p1 d1 k1 o1 m1 na1 nc1 st1 => f_X12_value_J29 (nI e) t (f_X12_value_L7 (nI e) t f_X12_value_J57 n) d1 k1 o1 p1 m1 na1 nc1 st1) := by
  unfold vL
  rw [f_X12_value_L7, if_neg (by decide), isGood_0, cb1_o, if_neg (by decide), if_pos rfl]
theorem vrun_fac (hpp : p ≤ p') (hf : f_X12_factor (nI p) (nI e) 0 (nI k) (nI o) (nI m) na nc st t = some (nI p', 0, nI k', nI o', nI m', na', nc', st')) : vrun e t k o p m na nc st k' o' p' m' na' nc' st' := by
  refine ⟨0, by omega, fun n => ?_⟩
  rw [Nat.add_zero, vL_0, hf, cb8_o, vL_1]
theorem vbad_fac {d : Int32} {p1 k1 o1 m1 : Int32} (hpe : p ≤ e) (hf : f_X12_factor (nI p) (nI e) 0 (nI k) (nI o) (nI m) na nc st t = some (p1, d, k1, o1, m1, na', nc', st')) (hd : ¬ d = 0) : vbad e t k o p m na nc st d := by
  refine ⟨1, p1, k1, o1, m1, 0, na', nc', st', by omega, fun n => ?_⟩
  rw [vL_0, hf, cb8_o, f_X12_value_J29, isGood_n hd, cb1_o, if_pos rfl, f_X12_value_L7, if_pos rfl, f_X12_value_J57, isGood_n hd, cb1_o, if_pos rfl]
theorem vrun_open (he : e ≤ 120) (hp : p < e) (hc : hN t e p = 91) (ho : o < 6) (hm : m < 150) (h : vrun e t k (o + 1) (p + 1) (m + 1) na nc (upd st m 91) k' o' p' m' na' nc' st') : vrun e t k o p m na nc st k' o' p' m' na' nc' st' := by
  obtain ⟨J, hJ, h⟩ := h
  refine ⟨J, by omega, fun n => ?_⟩
  rw [← h n, show n + 1 + J = (n + J) + 1 by omega, vL_0, vL_0, fac_open he hp hc ho hm]
theorem vbad_open {d : Int32} (he : e ≤ 120) (hp : p < e) (hc : hN t e p = 91) (ho : o < 6) (hm : m < 150) (h : vbad e t k (o + 1) (p + 1) (m + 1) na nc (upd st m 91) d) : vbad e t k o p m na nc st d := by
  obtain ⟨J, p1, k1, o1, m1, ib1, na1, nc1, st1, hJ, h⟩ := h
  refine ⟨J, p1, k1, o1, m1, ib1, na1, nc1, st1, by omega, fun n => ?_⟩
  rw [← h n, show n + 1 + J = (n + J) + 1 by omega, vL_0, vL_0, fac_open he hp hc ho hm]
theorem fac_J (he : e ≤ 120) (hp : p ≤ e) (hc : ¬ hN t e p = 91) : f_X12_factor (nI p) (nI e) 0 (nI k) (nI o) (nI m) na nc st t = f_X12_factor_J23 (nI e) (nI k) na nc t 0 (nI o) (nI p) (nI m) st := by
  obtain ⟨n, hn⟩ : ∃ n, FU = n + 1 := ⟨FU - 1, by have := FU_ge; omega⟩
  rw [f_X12_factor, hn, facL_stop he hp hc]
end S2
theorem hr_n {t : Nat → Int32} {e p : Nat} (he : e ≤ 120) (hp : p ≤ e) : hr (nI p) (nI e) t = hN t e p := by
  unfold hr hN
  by_cases c : p < e
  · rw [if_neg (nI_ge c (by omega)), if_pos c, nI_clamp (by omega)]
  · rw [if_pos (nI_le (by omega) (by omega)), if_neg c]
def digP (c : Int32) : Prop := 48 ≤ c.toInt ∧ c.toInt ≤ 57
theorem dig_n {t : Nat → Int32} {e p : Nat} (he : e ≤ 120) (hp : p ≤ e) : f_X12_seesDigit (nI p) (nI e) t = some (bI (48 ≤ (hN t e p).toInt ∧ (hN t e p).toInt ≤ 57)) := by
  have h1 : (nI p).toInt = (p : Int) := nI_toInt (by omega)
  have h2 : (nI e).toInt = (e : Int) := nI_toInt (by omega)
  rw [dig_e (by omega) (by omega), hr_n he hp]
theorem isDigit_n (c : Int32) : f_X6_isDigit c = some (bI (48 ≤ c.toInt ∧ c.toInt ≤ 57)) := by
  have z1 : (48 : Int32).toInt = 48 := by decide
  have z2 : (57 : Int32).toInt = 57 := by decide
  rw [f_X6_isDigit]
  by_cases h1 : c < 48
  · have := ltI h1
    rw [if_pos h1]
    unfold bI
    rw [if_neg (by omega)]
  · have h1' := nltI h1
    rw [if_neg h1]
    by_cases h2 : 57 < c
    · have := ltI h2
      rw [if_pos h2]
      unfold bI
      rw [if_neg (by omega)]
    · have := nltI h2
      rw [if_neg h2]
      unfold bI
      rw [if_pos (by omega)]
theorem nh_dig {b t : Nat → Int32} {e p : Nat} (h : TBy b t) : digP (nN b e p) ↔ digP (hN t e p) := by
  have zm : (-1 : Int32).toInt = -1 := by decide
  have z : (0 : Int32).toInt = 0 := by decide
  rw [nh h]
  unfold digP
  by_cases c : p < e
  · rw [if_pos c]
  · rw [if_neg c]
    have e0 : hN t e p = 0 := by unfold hN; rw [if_neg c]
    rw [e0]
    omega
/-- the digits of a number, read by both -/
theorem num_2 {b t : Nat → Int32} {e p : Nat} (he : e ≤ 120) (hb : TBy b t) {K : Int32 → Int32 → Option (Int32 × Int32 × Int32 × Int32 × (Nat → Int32))} : ∀ (r i n n' : Nat) (v : Int32), i + r = 5 → p + i ≤ e → (0 ≤ v.toInt ∧ v.toInt < ((10 ^ i : Nat) : Int)) →
    ∃ (q : Nat) (w : Int32), i ≤ q ∧ q ≤ 5 ∧ p + q ≤ e ∧ (0 ≤ w.toInt ∧ w.toInt < ((10 ^ q : Nat) : Int)) ∧ (digP (hN t e (p + i)) → i < 5 → i < q) ∧ f_X6_numberStands_L4 (nI e) 200 b K (n + r + 1) v (nI i) (nI (p + i)) = K w (nI (p + q)) ∧
      ((¬ digP (hN t e (p + q)) ∧ f_X12_reads_L7 (nI p) (nI e) t (n' + r + 2) v 0 (nI (p + i)) = some (w, nI (p + q), 0)) ∨ (q = 5 ∧ digP (hN t e (p + q)) ∧ ∃ w', f_X12_reads_L7 (nI p) (nI e) t (n' + r + 2) v 0 (nI (p + i)) = some (w', nI (p + q + 1), badC 2 (p + q)))) := by
  intro r
  induction r with
  | zero =>
    intro i n n' v h1 h2 hvb
    have hi : i = 5 := by omega
    subst hi
    refine ⟨5, v, Nat.le_refl _, Nat.le_refl _, h2, hvb, fun _ h => absurd h (by omega), ?_, ?_⟩
    · rw [Nat.add_zero, f_X6_numberStands_L4, if_pos (by decide)]
    · by_cases c : digP (hN t e (p + 5))
      · refine Or.inr ⟨rfl, c, 10 * v + hN t e (p + 5) - 48, ?_⟩
        rw [Nat.add_zero, f_X12_reads_L7, isGood_0, cb1_o, if_neg (by decide), dig_n he h2, cb1_o, if_neg (by rw [bI_0]; exact fun w => w c), if_pos (by rw [show (5 : Int32) = nI 5 from rfl, nI_add]), wrongs_n, cb1_o, here_n he h2, cb1_o, nmI_o, nmI_o, nI_1, f_X12_reads_L7, isGood_n (badC_ne (by decide) (by decide) (by omega)), cb1_o, if_pos rfl]
      · refine Or.inl ⟨c, ?_⟩
        rw [Nat.add_zero, f_X12_reads_L7, isGood_0, cb1_o, if_neg (by decide), dig_n he h2, cb1_o, if_pos (by rw [bI_0]; exact c)]
  | succ r ih =>
    intro i n n' v h1 h2 hvb
    have hne : ¬ nI (p + i) = nI p + 5 := by
      rw [show (5 : Int32) = nI 5 from rfl, nI_add]
      exact fun w => by have := (nI_eq (by omega) (by omega)).mp w; omega
    have h5 : ¬ (5 : Int32) ≤ nI i := nI_ge (a := i) (b := 5) (by omega) (by omega)
    by_cases c : digP (hN t e (p + i))
    · have hlt : p + i < e := hN_lt (fun w => by rw [w] at c; exact absurd c.1 (by decide))
      have hcb := c
      unfold digP at hcb
      have hp5 : 10 ^ i ≤ 10 ^ 5 := Nat.pow_le_pow_right (by omega) (by omega)
      have hps : 10 ^ (i + 1) = 10 ^ i * 10 := Nat.pow_succ 10 i
      have e1 := mlY 10 v 10 (by decide) (by omega) (by omega)
      have e2 := adX (10 * v) (hN t e (p + i)) (by omega) (by omega)
      have e3 := sbN (10 * v + hN t e (p + i)) 48 48 (by decide) (by omega) (by omega)
      obtain ⟨q, w, q1, q2, q3, q0, q4, q5, q6⟩ := ih (i + 1) n n' (10 * v + hN t e (p + i) - 48) (by omega) (by omega) (by omega)
      refine ⟨q, w, by omega, q2, q3, q0, fun _ _ => by omega, ?_, ?_⟩
      · rw [show n + (r + 1) + 1 = (n + r + 1) + 1 by omega, f_X6_numberStands_L4, if_neg h5, next_n he h2, cb1_o, cb1_o, isDigit_n, cb1_o, if_neg (by rw [bI_0]; exact fun w => w ((nh_dig hb).mpr c)), nmI_o, nmI_o, nmI_o, nI_1, nI_1, nh hb, if_pos hlt]
        exact q5
      · have hu : f_X12_reads_L7 (nI p) (nI e) t (n' + (r + 1) + 2) v 0 (nI (p + i)) = f_X12_reads_L7 (nI p) (nI e) t (n' + r + 2) (10 * v + hN t e (p + i) - 48) 0 (nI (p + (i + 1))) := by
          rw [show n' + (r + 1) + 2 = (n' + r + 2) + 1 by omega, f_X12_reads_L7, isGood_0, cb1_o, if_neg (by decide), dig_n he h2, cb1_o, if_neg (by rw [bI_0]; exact fun w => w c), if_neg hne, here_n he h2, cb1_o, nmI_o, nmI_o, nI_1]
          rfl
        rw [hu]
        exact q6
    · refine ⟨i, v, Nat.le_refl _, by omega, h2, hvb, fun h => absurd h c, ?_, Or.inl ⟨c, ?_⟩⟩
      · rw [show n + (r + 1) + 1 = (n + r + 1) + 1 by omega, f_X6_numberStands_L4, if_neg h5, next_n he h2, cb1_o, isDigit_n, cb1_o, if_pos (by rw [bI_0]; exact fun w => c ((nh_dig hb).mp w))]
      · rw [show n' + (r + 1) + 2 = (n' + r + 2) + 1 by omega, f_X12_reads_L7, isGood_0, cb1_o, if_neg (by decide), dig_n he h2, cb1_o, if_pos (by rw [bI_0]; exact c)]
theorem put_n {code : Nat → Int32} {u : Nat} {c a : Int32} (h : u < 120) : f_X6_put (nI u) code c a = some (nI (u + 1), upd code u (jshl a 8 ||| c)) := by
  rw [f_X6_put, if_neg (show ¬ (120 : Int32) ≤ nI u from nI_ge (a := u) (b := 120) h (by omega)), nmI_o, wrI_o (jin_n h (by omega)), nmI_o, nI_1, nI_clamp (by omega)]
/-! the letters -/
def valB (c : Int32) : Bool := c == 97 || c == 98 || c == 100 || c == 102 || c == 103 || c == 104 || c == 108 || c == 109 || c == 110 || c == 115 || c == 116 || c == 117 || c == 120
theorem isValue_n (c : Int32) : f_X12_isValue c = some (bI (valB c = true)) := by
  rw [f_X12_isValue]
  by_cases h0 : c = 97
  · subst h0; decide
  by_cases h1 : c = 98
  · subst h1; decide
  by_cases h2 : c = 100
  · subst h2; decide
  by_cases h3 : c = 102
  · subst h3; decide
  by_cases h4 : c = 103
  · subst h4; decide
  by_cases h5 : c = 104
  · subst h5; decide
  by_cases h6 : c = 108
  · subst h6; decide
  by_cases h7 : c = 109
  · subst h7; decide
  by_cases h8 : c = 110
  · subst h8; decide
  by_cases h9 : c = 115
  · subst h9; decide
  by_cases h10 : c = 116
  · subst h10; decide
  by_cases h11 : c = 117
  · subst h11; decide
  by_cases h12 : c = 120
  · subst h12; decide
  rw [if_neg h0, if_neg h1, if_neg h2, if_neg h3, if_neg h4, if_neg h5, if_neg h6, if_neg h7, if_neg h8, if_neg h9, if_neg h10, if_neg h11, if_neg h12]
  unfold bI
  rw [if_neg (by simp [valB, h0, h1, h2, h3, h4, h5, h6, h7, h8, h9, h10, h11, h12])]
theorem let_c : ∀ c, c < 256 → ((List.range 13).any (fun j => decide (kLf j = ji2b (ji2c (nI c))))) = valB (nI c) := by decide +kernel
theorem idx_L (v : Int32) : ∀ (r x n : Nat), x + r = 13 → ∃ q : Int32, f_J1_indexOfChar_4cfef_L7 13 v (n + r + 1) (nI x) = some q ∧ (0 ≤ q ↔ ∃ j, x ≤ j ∧ j < 13 ∧ kLf j = v) := by
  intro r
  induction r with
  | zero =>
    intro x n h
    have hx : x = 13 := by omega
    subst hx
    refine ⟨-1, by rw [Nat.add_zero, f_J1_indexOfChar_4cfef_L7, if_pos (by decide)], ?_⟩
    constructor
    · intro w; exact absurd w (by decide)
    · rintro ⟨j, h1, h2, h3⟩; exfalso; omega
  | succ r ih =>
    intro x n h
    rw [show n + (r + 1) + 1 = (n + r + 1) + 1 by omega, f_J1_indexOfChar_4cfef_L7, if_neg (show ¬ (13 : Int32) ≤ nI x from nI_ge (a := x) (b := 13) (by omega) (by omega)), rdI_o (jin_n (by omega) (by omega)), nI_clamp (by omega)]
    by_cases c : kLf x = v
    · rw [if_pos c]
      exact ⟨nI x, rfl, fun _ => ⟨x, Nat.le_refl _, by omega, c⟩, fun _ => nI_pos' (by omega)⟩
    · rw [if_neg c, nmI_o, nI_1]
      obtain ⟨q, q1, q2⟩ := ih (x + 1) n (by omega)
      refine ⟨q, q1, q2.trans ⟨?_, ?_⟩⟩
      · rintro ⟨j, h1, h2, h3⟩; exact ⟨j, by omega, h2, h3⟩
      · rintro ⟨j, h1, h2, h3⟩
        by_cases d : j = x
        · subst d; exact absurd h3 c
        · exact ⟨j, by omega, h2, h3⟩
theorem ji2c_n : ∀ c, c < 256 → (ji2c (nI c) < 0) = False ∧ ((255 : Int32) < ji2c (nI c)) = False := by
  intro c hc
  have h : ∀ c, c < 256 → decide (ji2c (nI c) < 0) = false ∧ decide ((255 : Int32) < ji2c (nI c)) = false := by decide +kernel
  have := h c hc
  exact ⟨eq_false (of_decide_eq_false this.1), eq_false (of_decide_eq_false this.2)⟩
theorem idx_n {c : Nat} (hc : c < 256) : ∃ q : Int32, f_J0_indexOf_0f7a4 (ji2c (nI c)) = some q ∧ (0 ≤ q ↔ valB (nI c) = true) := by
  obtain ⟨n, hn⟩ : ∃ n, FU = n + 13 + 1 := ⟨FU - 14, by have := FU_ge; omega⟩
  obtain ⟨q, q1, q2⟩ := idx_L (ji2b (ji2c (nI c))) 13 0 n (by omega)
  obtain ⟨j1, j2⟩ := ji2c_n c hc
  refine ⟨q, ?_, ?_⟩
  · rw [f_J0_indexOf_0f7a4, f_J0_indexOf_7cf53, f_J0_isLatin1_aae02, cb1_o, if_neg (by decide), f_J0_length_8abf5, f_J0_coder_7d493, cb1_o, cb1_o, f_J1_indexOf_4cfef, f_J1_canEncode_9a6ad, if_neg (by rw [j1]; exact id), if_neg (by rw [j2]; exact id), cb1_o, if_neg (by decide), nmI_o, nmI_o, if_pos (by decide), f_J1_indexOfChar_4cfef, nmI_o, hn]
    have e1 : jmax 0 0 = nI 0 := by decide
    have e2 : jmin (jshr 13 0) 13 = 13 := by decide
    rw [e1, e2, q1, cb1_o, cb1_o, cb1_o]
  · rw [q2, ← let_c c hc, List.any_eq_true]
    constructor
    · rintro ⟨j, h1, h2, h3⟩; exact ⟨j, List.mem_range.mpr h2, decide_eq_true h3⟩
    · rintro ⟨j, h1, h2⟩; exact ⟨j, Nat.zero_le _, List.mem_range.mp h1, of_decide_eq_true h2⟩
end
section
/-! what a text says: the class's words and the reference's -/
theorem bv_small {s : Int32} {n : Nat} (hn : n ≤ 31) (h0 : 0 ≤ s.toInt) (h1 : s.toInt < ((2 ^ n : Nat) : Int)) {i : Nat} (hi : n ≤ i) : s.toBitVec.getLsbD i = false := by
  have e : s.toInt = s.toBitVec.toInt := rfl
  rw [e, BitVec.toInt_eq_toNat_cond] at h0 h1
  have hlt := s.toBitVec.isLt
  have hN : s.toBitVec.toNat < 2 ^ n := by
    split at h0
    · rename_i c
      rw [if_pos c] at h1
      omega
    · rename_i c
      exfalso
      have : (2 : Nat) ^ 32 = 4294967296 := by decide
      omega
  rw [← BitVec.testBit_toNat]
  exact Nat.testBit_lt_two_pow (Nat.lt_of_lt_of_le hN (Nat.pow_le_pow_right (by omega) hi))
theorem w_lo (v s : Int32) (h0 : 0 ≤ s.toInt) (h1 : s.toInt < 256) : (jshl v 8 ||| s) &&& 255 = s := by
  apply Int32.toBitVec_inj.mp
  have e1 : ((jshl v 8 ||| s) &&& 255).toBitVec = (v.toBitVec <<< 8 ||| s.toBitVec) &&& 255#32 := rfl
  rw [e1]
  apply BitVec.eq_of_getLsbD_eq
  intro i hi
  rw [BitVec.getLsbD_and, BitVec.getLsbD_or, BitVec.getLsbD_shiftLeft, lo8 i hi]
  by_cases c : i < 8
  · simp only [c, decide_true, Bool.not_true, Bool.and_false, Bool.false_and, Bool.false_or, Bool.and_true]
  · rw [bv_small (n := 8) (by omega) h0 (by omega) (by omega)]
    simp only [c, decide_false, Bool.and_false]
theorem w_hi (v s : Int32) (h0 : 0 ≤ s.toInt) (h1 : s.toInt < 256) (g0 : 0 ≤ v.toInt) (g1 : v.toInt < 8388608) : jushr (jshl v 8 ||| s) 8 = v := by
  apply Int32.toBitVec_inj.mp
  have e1 : (jushr (jshl v 8 ||| s) 8).toBitVec = (v.toBitVec <<< 8 ||| s.toBitVec) >>> 8 := rfl
  rw [e1]
  apply BitVec.eq_of_getLsbD_eq
  intro i hi
  rw [BitVec.getLsbD_ushiftRight, BitVec.getLsbD_or, BitVec.getLsbD_shiftLeft, bv_small (s := s) (n := 8) (by omega) h0 (by omega) (by omega), Bool.or_false, Nat.add_sub_cancel_left]
  by_cases c : 8 + i < 32
  · have c2 : ¬ 8 + i < 8 := by omega
    simp only [c, c2, decide_true, decide_false, Bool.not_false, Bool.true_and]
  · rw [bv_small (s := v) (n := 23) (by omega) g0 (by omega) (by omega), Bool.and_false]
abbrev Sem : Type := (Int32 → Int32) → Option Int32
noncomputable def wk (c a b : Int32) : Int32 := (f_X12_worked c a b).getD 0
theorem wk_e (c a b : Int32) : f_X12_worked c a b = some (wk c a b) := by
  obtain ⟨v, e, -⟩ := s_X12_worked c a b
  unfold wk
  rw [e]; rfl
theorem jn_e (c a b : Int32) : f_X5_joined c a b = some (wk c a b) := by
  rw [← wk_e]; rfl
abbrev dvz (c b : Int32) : Prop := (c = 47 ∨ c = 37) ∧ b = 0
noncomputable def sBin (c : Int32) (f g : Sem) : Sem := fun V => match f V, g V with
  | some a, some b => if dvz c b then none else some (wk c a b)
  | _, _ => none
def sNot (f : Sem) : Sem := fun V => (f V).map (fun v => 1 - v)
def sAnd (f g : Sem) : Sem := fun V => match f V with
  | none => none
  | some a => if a = 0 then some a else g V
def sOr (f g : Sem) : Sem := fun V => match f V with
  | none => none
  | some a => if a = 0 then g V else some a
def isBoo (f : Sem) : Prop := ∀ V v, f V = some v → v = 0 ∨ v = 1
/-- the class's loop over words -/
noncomputable def cL (nn : Nat) (arr Lt : Nat → Int32) (to : Nat) (K : Int32 → (Nat → Int32) → Option (Int32 × (Nat → Int32))) (n m lp i : Nat) (vals : Nat → Int32) : Option (Int32 × (Nat → Int32)) := f_X5_reckon_L9 nn arr Lt (nI to) K n (nI m) (nI lp) (nI i) vals
def CR (code : Nat → Int32) (u L B : Nat) (f : Sem) : Prop :=
  ∀ (V : Int32 → Int32) (Lt arr vals : Nat → Int32) (nn to m n lp : Nat) (K : Int32 → (Nat → Int32) → Option (Int32 × (Nat → Int32))), (∀ c, valB c = true → Lt c.toNatClampNeg = V c) → (∀ i, i < L → arr (u + i) = code (u + i)) → u + L ≤ to → to ≤ nn → nn ≤ 120 → m + B ≤ 32 → lp ≤ u →
    (∀ v, f V = some v → ∃ (vals' : Nat → Int32) (lp' : Nat), (∀ i, i < m → vals' i = vals i) ∧ vals' m = v ∧ lp' ≤ u + L ∧ cL nn arr Lt to K (n + L) m lp u vals = cL nn arr Lt to K n (m + 1) lp' (u + L) vals') ∧
    (f V = none → ∃ vals' : Nat → Int32, cL nn arr Lt to K (n + L) m lp u vals = some (0, vals'))
section EV
variable {nn to m n lp i : Nat} {arr Lt vals : Nat → Int32} {K : Int32 → (Nat → Int32) → Option (Int32 × (Nat → Int32))}
/-- one word -/
theorem cL_w {w s v : Int32} (hto : to ≤ nn) (hnn : nn ≤ 120) (hi : i < to) (hlp : lp ≤ i) (hw : arr i = w) (hs : w &&& 255 = s) (hv : jushr w 8 = v) : cL nn arr Lt to K (n + 1) m lp i vals =
    (if s = 48 then f_X5_reckon_J65 Lt s v (f_X5_reckon_L9 nn arr Lt (nI to) K n) (nI m) (nI lp) (nI i) vals
     else if s = 97 then f_X5_reckon_J65 Lt s v (f_X5_reckon_L9 nn arr Lt (nI to) K n) (nI m) (nI lp) (nI i) vals
     else if 1 ≤ nI m then
       (if s = 33 then rdI vals 32 (nI m - 1) fun a => nmI (1 - a) fun b => wrI vals 32 (nI m - 1) b fun g => nmI (nI i + 1) fun j => f_X5_reckon_L9 nn arr Lt (nI to) K n (nI m) (nI lp) j g
        else if s = 38 then f_X5_reckon_J161 (nI lp) s v (f_X5_reckon_L9 nn arr Lt (nI to) K n) (nI m) (nI i) vals
        else if s = 124 then f_X5_reckon_J161 (nI lp) s v (f_X5_reckon_L9 nn arr Lt (nI to) K n) (nI m) (nI i) vals
        else if nI m < 2 then some (0, vals)
        else cb1 (f_X5_isDivision s) fun r => if r = 0 then f_X5_reckon_J234 (nI m) (nI lp) (nI i) vals s (f_X5_reckon_L9 nn arr Lt (nI to) K n) else rdI vals 32 (nI m - 1) fun z => if z = 0 then some (0, vals) else f_X5_reckon_J234 (nI m) (nI lp) (nI i) vals s (f_X5_reckon_L9 nn arr Lt (nI to) K n))
     else some (0, vals)) := by
  unfold cL
  have jl : jin (nI i) nn = true := jin_n (by omega) (by omega)
  rw [f_X5_reckon_L9, if_neg (nI_ge hi (by omega)), if_neg (show ¬ Int32.ofNat nn ≤ nI i from nI_ge (b := nn) (by omega) (by omega)), if_pos (nI_le hlp (by omega)), rdI_o jl, nmI_o, rdI_o jl, nmI_o, nI_clamp (by omega), hw, hs, hv]
/-- over a word that is not asked -/
theorem cL_skip (hto : to ≤ nn) (hnn : nn ≤ 120) (hi : i < to) (hlp : i < lp) (hl2 : lp ≤ 120) : cL nn arr Lt to K (n + 1) m lp i vals = cL nn arr Lt to K n m lp (i + 1) vals := by
  unfold cL
  rw [f_X5_reckon_L9, if_neg (nI_ge hi (by omega)), if_neg (show ¬ Int32.ofNat nn ≤ nI i from nI_ge (b := nn) (by omega) (by omega)), if_neg (nI_ge hlp (by omega)), nmI_o, nI_1]
theorem cL_skips (hto : to ≤ nn) (hnn : nn ≤ 120) (hl2 : lp ≤ to) : ∀ (d i n : Nat), i + d = lp → cL nn arr Lt to K (n + d) m lp i vals = cL nn arr Lt to K n m lp lp vals := by
  intro d
  induction d with
  | zero => intro i n h; rw [Nat.add_zero] at h; rw [h]; rfl
  | succ d ih =>
    intro i n h
    rw [show n + (d + 1) = (n + d) + 1 by omega, cL_skip hto hnn (by omega) (by omega) (by omega)]
    exact ih (i + 1) n (by omega)
theorem cL_push {v w : Int32} (hto : to ≤ nn) (hnn : nn ≤ 120) (hi : i < to) (hlp : lp ≤ i) (hm : m < 32) (hw : (arr i &&& 255 = 48 ∧ jushr (arr i) 8 = v) ∨ (arr i &&& 255 = 97 ∧ jushr (arr i) 8 = w ∧ valB w = true ∧ Lt w.toNatClampNeg = v)) : cL nn arr Lt to K (n + 1) m lp i vals = cL nn arr Lt to K n (m + 1) lp (i + 1) (upd vals m v) := by
  have hJ : f_X5_reckon_J102 (nI m) (nI lp) (nI i) vals (f_X5_reckon_L9 nn arr Lt (nI to) K n) v = cL nn arr Lt to K n (m + 1) lp (i + 1) (upd vals m v) := by
    unfold cL
    rw [f_X5_reckon_J102, wrI_o (jin_n hm (by omega)), nmI_o, nmI_o, nI_1, nI_1, nI_clamp (by omega)]
  have h32 : nI m < 32 := nI_lt (b := 32) hm (by omega)
  rcases hw with ⟨h1, h2⟩ | ⟨h1, h2, h3, h4⟩
  · rw [cL_w hto hnn hi hlp rfl h1 h2, if_pos rfl, f_X5_reckon_J65, if_pos h32, if_pos rfl, hJ]
  · have hl : jin (w &&& 127) 128 = true ∧ (w &&& 127) = w := by
      have : ∀ c, valB c = true → jin (c &&& 127) 128 = true ∧ (c &&& 127) = c := by
        intro c hc
        have hc' := hc
        unfold valB at hc
        simp only [Bool.or_eq_true, beq_iff_eq] at hc
        rcases hc with ((((((((((((h | h) | h) | h) | h) | h) | h) | h) | h) | h) | h) | h) | h) <;> subst h <;> decide
      exact this w h3
    rw [cL_w hto hnn hi hlp rfl h1 h2, if_neg (by decide), if_pos rfl, f_X5_reckon_J65, if_pos h32, if_neg (by decide), rdI_o hl.1, hl.2, h4, hJ]
def isO (c : Int32) : Prop := c = 42 ∨ c = 47 ∨ c = 37 ∨ c = 43 ∨ c = 45 ∨ c = 60 ∨ c = 62 ∨ c = 61
theorem cL_bin {c : Int32} (hto : to ≤ nn) (hnn : nn ≤ 120) (hi : i < to) (hlp : lp ≤ i) (hm : m + 2 ≤ 32) (hw : arr i = jshl 0 8 ||| c) (hc : isO c) :
    (dvz c (vals (m + 1)) → cL nn arr Lt to K (n + 1) (m + 2) lp i vals = some (0, vals)) ∧ (¬ dvz c (vals (m + 1)) → cL nn arr Lt to K (n + 1) (m + 2) lp i vals = cL nn arr Lt to K n (m + 1) lp (i + 1) (upd vals m (wk c (vals m) (vals (m + 1))))) := by
  have hcb : 0 ≤ c.toInt ∧ c.toInt < 256 := by rcases hc with h | h | h | h | h | h | h | h <;> subst h <;> decide
  have hs : (jshl 0 8 ||| c) &&& 255 = c := w_lo 0 c hcb.1 hcb.2
  have ne : ¬ c = 48 ∧ ¬ c = 97 ∧ ¬ c = 33 ∧ ¬ c = 38 ∧ ¬ c = 124 := by rcases hc with h | h | h | h | h | h | h | h <;> subst h <;> decide
  have h1 : (1 : Int32) ≤ nI (m + 2) := nI_le (a := 1) (by omega) (by omega)
  have h2 : ¬ nI (m + 2) < 2 := nI_nlt (b := 2) (by omega) (by omega)
  have hJ : f_X5_reckon_J234 (nI (m + 2)) (nI lp) (nI i) vals c (f_X5_reckon_L9 nn arr Lt (nI to) K n) = cL nn arr Lt to K n (m + 1) lp (i + 1) (upd vals m (wk c (vals m) (vals (m + 1)))) := by
    unfold cL
    rw [f_X5_reckon_J234, nmI_o, show m + 2 = (m + 1) + 1 by omega, pk_m1, nI_pred, rdI_o (jin_n (by omega) (by omega)), rdI_o (jin_n (by omega) (by omega)), nI_clamp (by omega), nI_clamp (by omega), jn_e, cb1_o, wrI_o (jin_n (by omega) (by omega)), nmI_o, nI_1, nI_clamp (by omega)]
  have hD : f_X5_isDivision c = some (bI (c = 47 ∨ c = 37)) := by
    rw [f_X5_isDivision]
    unfold bI
    by_cases d1 : c = 47
    · rw [if_pos d1, if_pos (Or.inl d1)]
    · rw [if_neg d1]
      by_cases d2 : c = 37
      · rw [if_pos d2, if_pos (Or.inr d2)]
      · rw [if_neg d2, if_neg (fun w => by rcases w with w | w; exact d1 w; exact d2 w)]
  have hW : cL nn arr Lt to K (n + 1) (m + 2) lp i vals = (if bI (c = 47 ∨ c = 37) = 0 then cL nn arr Lt to K n (m + 1) lp (i + 1) (upd vals m (wk c (vals m) (vals (m + 1)))) else if vals (m + 1) = 0 then some (0, vals) else cL nn arr Lt to K n (m + 1) lp (i + 1) (upd vals m (wk c (vals m) (vals (m + 1))))) := by
    rw [cL_w hto hnn hi hlp hw hs rfl, if_neg ne.1, if_neg ne.2.1, if_pos h1, if_neg ne.2.2.1, if_neg ne.2.2.2.1, if_neg ne.2.2.2.2, if_neg h2, hD, cb1_o, show m + 2 = (m + 1) + 1 by omega, nI_pred, rdI_o (jin_n (by omega) (by omega)), nI_clamp (by omega), ← hJ]
  rw [hW]
  constructor
  · intro d
    rw [if_neg (by rw [bI_0]; exact fun w => w d.1), if_pos d.2]
  · intro d
    by_cases d1 : c = 47 ∨ c = 37
    · rw [if_neg (by rw [bI_0]; exact fun w => w d1), if_neg (fun w => d ⟨d1, w⟩)]
    · rw [if_pos (by rw [bI_0]; exact d1)]
theorem cL_not (hto : to ≤ nn) (hnn : nn ≤ 120) (hi : i < to) (hlp : lp ≤ i) (hm : m + 1 ≤ 32) (hw : arr i = jshl 0 8 ||| 33) : cL nn arr Lt to K (n + 1) (m + 1) lp i vals = cL nn arr Lt to K n (m + 1) lp (i + 1) (upd vals m (1 - vals m)) := by
  rw [cL_w hto hnn hi hlp hw (w_lo 0 33 (by decide) (by decide)) rfl, if_neg (by decide), if_neg (by decide), if_pos (show (1 : Int32) ≤ nI (m + 1) from nI_le (a := 1) (by omega) (by omega)), if_pos rfl, nI_pred, rdI_o (jin_n (by omega) (by omega)), nmI_o, wrI_o (jin_n (by omega) (by omega)), nmI_o, nI_1, nI_clamp (by omega)]
  rfl
/-- an & or a |: leapt over, or asked on -/
theorem cL_leap {c : Int32} {g : Nat} (hto : to ≤ nn) (hnn : nn ≤ 120) (hi : i < to) (hlp : lp ≤ i) (hm : m + 1 ≤ 32) (hg : g ≤ 120) (hw : arr i = jshl (nI g) 8 ||| c) (hc : c = 38 ∨ c = 124) :
    cL nn arr Lt to K (n + 1) (m + 1) lp i vals = if (vals m = 0 ∧ c = 38) ∨ (¬ vals m = 0 ∧ c = 124) then cL nn arr Lt to K n (m + 1) g (i + 1) vals else cL nn arr Lt to K n m lp (i + 1) vals := by
  have hcb : 0 ≤ c.toInt ∧ c.toInt < 256 := by rcases hc with h | h <;> subst h <;> decide
  have tg : (nI g).toInt = (g : Int) := nI_toInt (by omega)
  have ne : ¬ c = 48 ∧ ¬ c = 97 ∧ ¬ c = 33 := by rcases hc with h | h <;> subst h <;> decide
  rw [cL_w hto hnn hi hlp hw (w_lo (nI g) c hcb.1 hcb.2) (w_hi (nI g) c hcb.1 hcb.2 (by omega) (by omega)), if_neg ne.1, if_neg ne.2.1, if_pos (show (1 : Int32) ≤ nI (m + 1) from nI_le (a := 1) (by omega) (by omega)), if_neg ne.2.2]
  have hJ : f_X5_reckon_J161 (nI lp) c (nI g) (f_X5_reckon_L9 nn arr Lt (nI to) K n) (nI (m + 1)) (nI i) vals = if (vals m = 0 ∧ c = 38) ∨ (¬ vals m = 0 ∧ c = 124) then cL nn arr Lt to K n (m + 1) g (i + 1) vals else cL nn arr Lt to K n m lp (i + 1) vals := by
    unfold cL
    rw [f_X5_reckon_J161, nI_pred, rdI_o (jin_n (by omega) (by omega)), nI_clamp (by omega), f_X5_reckon_J178, f_X5_reckon_J178]
    simp only [f_X5_reckon_J190, nmI_o, pk_m1, nI_1]
    by_cases a : vals m = 0
    · rcases hc with h | h
      · subst h
        rw [if_pos a, if_neg (by decide), if_pos trivial, if_pos (Or.inl ⟨a, rfl⟩)]
      · subst h
        rw [if_pos a, if_pos rfl, if_neg (by decide), if_neg (by rintro (w | w); exact absurd w.2 (by decide); exact w.1 a)]
    · rcases hc with h | h
      · subst h
        rw [if_neg a, if_neg (by decide), if_neg (by decide), if_neg (by rintro (w | w); exact a w.1; exact absurd w.2 (by decide))]
      · subst h
        rw [if_neg a, if_pos rfl, if_pos trivial, if_pos (Or.inr ⟨a, rfl⟩)]
  rcases hc with h | h
  · rw [if_pos h]; exact hJ
  · rw [if_neg (by rw [h]; decide), if_pos h]; exact hJ
end EV
end
section
section EC
variable {code code' : Nat → Int32} {u L L2 B B2 : Nat} {f g : Sem} {c v : Int32}
theorem CR_mono (h : CR code u L B f) (hB : B ≤ B2) : CR code u L B2 f := fun V Lt arr vals nn to m n lp K h1 h2 h3 h4 h5 h6 h7 => h V Lt arr vals nn to m n lp K h1 h2 h3 h4 h5 (by omega) h7
theorem CR_congr (h : CR code u L B f) (hc : ∀ i, i < L → code' (u + i) = code (u + i)) : CR code' u L B f := fun V Lt arr vals nn to m n lp K h1 h2 h3 h4 h5 h6 h7 => h V Lt arr vals nn to m n lp K h1 (fun i hi => by rw [h2 i hi, hc i hi]) h3 h4 h5 h6 h7
theorem CR_num (hw : code u = jshl v 8 ||| 48) (h0 : 0 ≤ v.toInt) (h1 : v.toInt < 8388608) : CR code u 1 1 (fun _ => some v) := by
  intro V Lt arr vals nn to m n lp K g1 g2 g3 g4 g5 g6 g7
  have ha : arr u = jshl v 8 ||| 48 := by have := g2 0 (by omega); rw [Nat.add_zero] at this; rw [this, hw]
  refine ⟨fun z hz => ?_, fun hz => by cases hz⟩
  cases hz
  refine ⟨upd vals m v, lp, fun i hi => upd_n (by omega), upd_s _ _ _, by omega, ?_⟩
  exact cL_push (w := v) g4 g5 (by omega) g7 (by omega) (Or.inl ⟨by rw [ha]; exact w_lo v 48 (by decide) (by decide), by rw [ha]; exact w_hi v 48 (by decide) (by decide) h0 h1⟩)
theorem valB_b {c : Int32} (h : valB c = true) : 0 ≤ c.toInt ∧ c.toInt < 256 := by
  unfold valB at h
  simp only [Bool.or_eq_true, beq_iff_eq] at h
  rcases h with ((((((((((((h | h) | h) | h) | h) | h) | h) | h) | h) | h) | h) | h) | h) <;> subst h <;> decide
theorem CR_let (hw : code u = jshl c 8 ||| 97) (hc : valB c = true) : CR code u 1 1 (fun V => some (V c)) := by
  intro V Lt arr vals nn to m n lp K g1 g2 g3 g4 g5 g6 g7
  have ha : arr u = jshl c 8 ||| 97 := by have := g2 0 (by omega); rw [Nat.add_zero] at this; rw [this, hw]
  have hb := valB_b hc
  refine ⟨fun z hz => ?_, fun hz => by cases hz⟩
  cases hz
  refine ⟨upd vals m (V c), lp, fun i hi => upd_n (by omega), upd_s _ _ _, by omega, ?_⟩
  exact cL_push (w := c) g4 g5 (by omega) g7 (by omega) (Or.inr ⟨by rw [ha]; exact w_lo c 97 (by decide) (by decide), by rw [ha]; exact w_hi c 97 (by decide) (by decide) hb.1 (by omega), hc, g1 c hc⟩)
theorem CR_bin (hf : CR code u L B f) (hg : CR code (u + L) L2 B2 g) (hw : code (u + L + L2) = jshl 0 8 ||| c) (hc : isO c) (hB : B2 + 1 ≤ B) (hB2 : 1 ≤ B2) : CR code u (L + L2 + 1) B (sBin c f g) := by
  intro V Lt arr vals nn to m n lp K g1 g2 g3 g4 g5 g6 g7
  have ha : arr (u + L + L2) = jshl 0 8 ||| c := by have := g2 (L + L2) (by omega); rw [← Nat.add_assoc] at this; rw [this, hw]
  obtain ⟨f1, f0⟩ := hf V Lt arr vals nn to m (n + 1 + L2) lp K g1 (fun i hi => g2 i (by omega)) (by omega) g4 g5 g6 g7
  have hfu : n + (L + L2 + 1) = n + 1 + L2 + L := by omega
  rw [hfu]
  cases hf1 : f V with
  | none =>
    have hs : sBin c f g V = none := by unfold sBin; rw [hf1]
    rw [hs]
    exact ⟨fun z hz => (by cases hz), fun _ => f0 hf1⟩
  | some a =>
    obtain ⟨v1, lp1, a1, a2, a3, a4⟩ := f1 a hf1
    obtain ⟨k1, k0⟩ := hg V Lt arr v1 nn to (m + 1) (n + 1) lp1 K g1 (fun i hi => by have := g2 (L + i) (by omega); rw [← Nat.add_assoc] at this; exact this) (by omega) g4 g5 (by omega) a3
    rw [a4]
    cases hg1 : g V with
    | none =>
      have hs : sBin c f g V = none := by unfold sBin; rw [hf1, hg1]
      rw [hs]
      exact ⟨fun z hz => (by cases hz), fun _ => k0 hg1⟩
    | some b =>
      obtain ⟨v2, lp2, b1, b2, b3, b4⟩ := k1 b hg1
      have hb := cL_bin (n := n) (m := m) (lp := lp2) (i := u + L + L2) (vals := v2) (Lt := Lt) (K := K) (c := c) g4 g5 (by omega) b3 (by omega) ha hc
      have e0 : v2 m = a := by rw [b1 m (by omega), a2]
      rw [b2, e0] at hb
      rw [b4]
      have hs : sBin c f g V = if dvz c b then none else some (wk c a b) := by unfold sBin; rw [hf1, hg1]
      rw [hs]
      by_cases d : dvz c b
      · rw [if_pos d]
        exact ⟨fun z hz => (by cases hz), fun _ => ⟨v2, hb.1 d⟩⟩
      · rw [if_neg d]
        refine ⟨fun z hz => ?_, fun hz => by cases hz⟩
        cases hz
        refine ⟨upd v2 m (wk c a b), lp2, fun i hi => ?_, upd_s _ _ _, by omega, ?_⟩
        · rw [upd_n (by omega), b1 i (by omega), a1 i hi]
        · rw [hb.2 d, show u + (L + L2 + 1) = u + L + L2 + 1 by omega]
theorem CR_not (hf : CR code u L B f) (hw : code (u + L) = jshl 0 8 ||| 33) (hB : 1 ≤ B) : CR code u (L + 1) B (sNot f) := by
  intro V Lt arr vals nn to m n lp K g1 g2 g3 g4 g5 g6 g7
  have ha : arr (u + L) = jshl 0 8 ||| 33 := by rw [g2 L (by omega), hw]
  obtain ⟨f1, f0⟩ := hf V Lt arr vals nn to m (n + 1) lp K g1 (fun i hi => g2 i (by omega)) (by omega) g4 g5 g6 g7
  rw [show n + (L + 1) = n + 1 + L by omega]
  cases hf1 : f V with
  | none =>
    have hs : sNot f V = none := by unfold sNot; rw [hf1]; rfl
    rw [hs]
    exact ⟨fun z hz => (by cases hz), fun _ => f0 hf1⟩
  | some a =>
    have hs : sNot f V = some (1 - a) := by unfold sNot; rw [hf1]; rfl
    rw [hs]
    obtain ⟨v1, lp1, a1, a2, a3, a4⟩ := f1 a hf1
    refine ⟨fun z hz => ?_, fun hz => by cases hz⟩
    cases hz
    refine ⟨upd v1 m (1 - a), lp1, fun i hi => by rw [upd_n (by omega), a1 i hi], upd_s _ _ _, by omega, ?_⟩
    rw [a4, cL_not g4 g5 (by omega) a3 (by omega) ha, a2]
    rfl
theorem CR_join (hf : CR code u L B f) (hg : CR code (u + L + 1) L2 B g) (hw : code (u + L) = jshl (nI (u + L + 1 + L2)) 8 ||| c) (hc : c = 38 ∨ c = 124) (hB : 1 ≤ B) : CR code u (L + 1 + L2) B (if c = 38 then sAnd f g else sOr f g) := by
  intro V Lt arr vals nn to m n lp K g1 g2 g3 g4 g5 g6 g7
  have ha : arr (u + L) = jshl (nI (u + L + 1 + L2)) 8 ||| c := by rw [g2 L (by omega), hw]
  obtain ⟨f1, f0⟩ := hf V Lt arr vals nn to m (n + L2 + 1) lp K g1 (fun i hi => g2 i (by omega)) (by omega) g4 g5 g6 g7
  rw [show n + (L + 1 + L2) = n + L2 + 1 + L by omega]
  cases hf1 : f V with
  | none =>
    have hs : (if c = 38 then sAnd f g else sOr f g) V = none := by
      split
      · unfold sAnd; rw [hf1]
      · unfold sOr; rw [hf1]
    rw [hs]
    exact ⟨fun z hz => (by cases hz), fun _ => f0 hf1⟩
  | some a =>
    obtain ⟨v1, lp1, a1, a2, a3, a4⟩ := f1 a hf1
    have hl := cL_leap (n := n + L2) (m := m) (lp := lp1) (i := u + L) (vals := v1) (Lt := Lt) (K := K) (c := c) (g := u + L + 1 + L2) g4 g5 (by omega) a3 (by omega) (by omega) ha hc
    rw [a2] at hl
    rw [a4, hl]
    have hs : (if c = 38 then sAnd f g else sOr f g) V = if (a = 0 ∧ c = 38) ∨ (¬ a = 0 ∧ c = 124) then some a else g V := by
      rcases hc with h | h
      · subst h
        rw [if_pos rfl]
        unfold sAnd
        rw [hf1]
        by_cases d : a = 0
        · rw [if_pos (Or.inl ⟨d, rfl⟩)]; show (if a = 0 then some a else g V) = _; rw [if_pos d]
        · rw [if_neg (by rintro (w | w); exact d w.1; exact absurd w.2 (by decide))]; show (if a = 0 then some a else g V) = _; rw [if_neg d]
      · subst h
        rw [if_neg (by decide)]
        unfold sOr
        rw [hf1]
        by_cases d : a = 0
        · rw [if_neg (by rintro (w | w); exact absurd w.2 (by decide); exact w.1 d)]; show (if a = 0 then g V else some a) = _; rw [if_pos d]
        · rw [if_pos (Or.inr ⟨d, rfl⟩)]; show (if a = 0 then g V else some a) = _; rw [if_neg d]
    rw [hs]
    by_cases d : (a = 0 ∧ c = 38) ∨ (¬ a = 0 ∧ c = 124)
    · rw [if_pos d, if_pos d]
      refine ⟨fun z hz => ?_, fun hz => by cases hz⟩
      cases hz
      refine ⟨v1, u + L + 1 + L2, a1, a2, by omega, ?_⟩
      rw [cL_skips g4 g5 (by omega) L2 (u + L + 1) n rfl, show u + (L + 1 + L2) = u + L + 1 + L2 by omega]
    · rw [if_neg d, if_neg d]
      obtain ⟨k1, k0⟩ := hg V Lt arr v1 nn to m n lp1 K g1 (fun i hi => by have := g2 (L + 1 + i) (by omega); rw [← Nat.add_assoc, ← Nat.add_assoc] at this; exact this) (by omega) g4 g5 g6 (by omega)
      refine ⟨fun z hz => ?_, k0⟩
      obtain ⟨v2, lp2, b1, b2, b3, b4⟩ := k1 z hz
      refine ⟨v2, lp2, fun i hi => by rw [b1 i hi, a1 i hi], b2, by omega, ?_⟩
      rw [b4, show u + (L + 1 + L2) = u + L + 1 + L2 by omega]
end EC
/-! the reference's -/
noncomputable def vO (q : Nat → Int32) (c : Int32) : Int32 := (f_X12_valueOf (q 0) (q 1) (q 2) (q 3) (q 4) (q 5) (q 6) (q 7) (q 8) (q 9) (q 10) (q 11) (q 12) c).getD 0
theorem vO_e (q : Nat → Int32) (c : Int32) : f_X12_valueOf (q 0) (q 1) (q 2) (q 3) (q 4) (q 5) (q 6) (q 7) (q 8) (q 9) (q 10) (q 11) (q 12) c = some (vO q c) := by
  obtain ⟨v, e, -⟩ := s_X12_valueOf (q 0) (q 1) (q 2) (q 3) (q 4) (q 5) (q 6) (q 7) (q 8) (q 9) (q 10) (q 11) (q 12) c
  unfold vO
  rw [e]; rfl
noncomputable def rL (q arr aarg : Nat → Int32) (to n m i : Nat) (rf wo : Nat → Int32) : Option ((Nat → Int32) × (Nat → Int32)) := f_X12_works_L5 (q 0) (q 1) (q 2) (q 3) (q 4) (q 5) (q 6) (q 7) (q 8) (q 9) (q 10) (q 11) (q 12) arr aarg (nI to) n (nI m) (nI i) rf wo
def RR (nc na : Nat → Int32) (k L : Nat) (f : Sem) : Prop :=
  ∀ (V : Int32 → Int32) (q arr aarg rf wo : Nat → Int32) (off to m n : Nat), (∀ c, valB c = true → vO q c = V c) → (∀ i, i < L → arr (off + k + i) = nc (k + i) ∧ aarg (off + k + i) = na (k + i)) → off + k + L ≤ to → to ≤ 2400 → m + L ≤ 190 →
    ∃ rf' wo' : Nat → Int32, (∀ i, i < m → rf' i = rf i ∧ wo' i = wo i) ∧ rL q arr aarg to (n + L) m (off + k) rf wo = rL q arr aarg to n (m + 1) (off + k + L) rf' wo' ∧ (∀ v, f V = some v → rf' m = 0 ∧ wo' m = v) ∧ (f V = none → rf' m = 1)
section ER
variable {q arr aarg rf wo : Nat → Int32} {to n m i : Nat}
theorem vb0 : vp_nar .boolean 0 = 0 := by decide
theorem vb1 : vp_nar .boolean 1 = 1 := by decide
theorem rL_num (hto : to ≤ 2400) (hi : i < to) (hm : m < 200) (hc : arr i = 0) : rL q arr aarg to (n + 1) m i rf wo = rL q arr aarg to n (m + 1) (i + 1) (upd rf m 0) (upd wo m (aarg i)) := by
  unfold rL
  have jl : jin (nI i) 2400 = true := jin_n (by omega) (by omega)
  have jm : jin (nI m) 200 = true := jin_n (by omega) (by omega)
  rw [f_X12_works_L5, if_neg (nI_ge hi (by omega)), rdI_o jl, nI_clamp (by omega), hc, if_pos (by decide), rdI_o jl, nI_clamp (by omega), hc, if_neg (by decide), wrZ_o jm, rdI_o jl, nI_clamp (by omega), hc, if_pos rfl, rdI_o jl, nI_clamp (by omega), wrI_o jm, nmI_o, nmI_o, nI_1, nI_1, nI_clamp (by omega), vb0]
theorem rL_let (hto : to ≤ 2400) (hi : i < to) (hm : m < 200) (hc : arr i = 1) : rL q arr aarg to (n + 1) m i rf wo = rL q arr aarg to n (m + 1) (i + 1) (upd rf m 0) (upd wo m (vO q (aarg i))) := by
  unfold rL
  have jl : jin (nI i) 2400 = true := jin_n (by omega) (by omega)
  have jm : jin (nI m) 200 = true := jin_n (by omega) (by omega)
  rw [f_X12_works_L5, if_neg (nI_ge hi (by omega)), rdI_o jl, nI_clamp (by omega), hc, if_pos (by decide), rdI_o jl, nI_clamp (by omega), hc, if_neg (by decide), wrZ_o jm, rdI_o jl, nI_clamp (by omega), hc, if_neg (by decide), rdI_o jl, nI_clamp (by omega), vO_e, cb1_o, wrI_o jm, nmI_o, nmI_o, nI_1, nI_1, nI_clamp (by omega), vb0]
theorem rL_not (hto : to ≤ 2400) (hi : i < to) (hm : m < 200) (hc : arr i = 2) : rL q arr aarg to (n + 1) (m + 1) i rf wo = rL q arr aarg to n (m + 1) (i + 1) rf (upd wo m (1 - wo m)) := by
  unfold rL
  have jl : jin (nI i) 2400 = true := jin_n (by omega) (by omega)
  have jm : jin (nI m) 200 = true := jin_n (by omega) (by omega)
  rw [f_X12_works_L5, if_neg (nI_ge hi (by omega)), rdI_o jl, nI_clamp (by omega), hc, if_pos (by decide), rdI_o jl, nI_clamp (by omega), hc, if_pos rfl, nI_pred, rdI_o jm, nmI_o, wrI_o jm, nmI_o, nI_1, nI_clamp (by omega)]
theorem rL_op {c : Int32} {rf' wo' : Nat → Int32} (hto : to ≤ 2400) (hi : i < to) (hc : arr i = c) (hc2 : 2 < c.toInt) (hd : f_X12_does rf wo c (nI m) = some (rf', wo')) : rL q arr aarg to (n + 1) (m + 2) i rf wo = rL q arr aarg to n (m + 1) (i + 1) rf' wo' := by
  unfold rL
  have jl : jin (nI i) 2400 = true := jin_n (by omega) (by omega)
  have h2 : ¬ c ≤ 2 := fun w => by have := leI w; have z : (2 : Int32).toInt = 2 := (by decide); omega
  rw [f_X12_works_L5, if_neg (nI_ge hi (by omega)), rdI_o jl, nI_clamp (by omega), hc, if_neg h2, nmI_o, show m + 2 = (m + 1) + 1 by omega, pk_m1, nI_pred, rdI_o jl, nI_clamp (by omega), hc, hd, cb2_o, nmI_o, nI_1]
theorem does_bin {c : Int32} (hm : m + 1 < 200) (hc : isO c) : ∃ t : Int32, f_X12_does rf wo c (nI m) = some (upd rf m t, upd wo m (wk c (wo m) (wo (m + 1)))) ∧ ((rf m = 0 ∧ rf (m + 1) = 0 ∧ ¬ dvz c (wo (m + 1))) → t = 0) ∧ (¬ (rf m = 0 ∧ rf (m + 1) = 0 ∧ ¬ dvz c (wo (m + 1))) → t = 1) := by
  have ne : ¬ c = 38 ∧ ¬ c = 124 := by rcases hc with h | h | h | h | h | h | h | h <;> subst h <;> decide
  have jm : jin (nI m) 200 = true := jin_n (by omega) (by omega)
  have jm1 : jin (nI (m + 1)) 200 = true := jin_n (by omega) (by omega)
  have hJ : ∀ z : Int32, f_X12_does_J120 rf wo c (nI m) (nI (m + 1)) z = some (upd rf m (vp_nar .boolean z), upd wo m (wk c (wo m) (wo (m + 1)))) := by
    intro z
    rw [f_X12_does_J120, wrZ_o jm, rdI_o jm, rdI_o jm1, nI_clamp (by omega), nI_clamp (by omega), wk_e, cb1_o, wrI_o jm, nI_clamp (by omega)]
  rw [f_X12_does, nmI_o, if_neg ne.1, if_neg ne.2, nI_1, rdI_o jm, nI_clamp (by omega)]
  by_cases a : rf m = 0
  · rw [if_pos a, rdI_o jm1, nI_clamp (by omega)]
    by_cases b : rf (m + 1) = 0
    · rw [if_pos b]
      have hD : f_X12_does_J106 wo (nI (m + 1)) (f_X12_does_J120 rf wo c (nI m) (nI (m + 1))) = if wo (m + 1) = 0 then f_X12_does_J120 rf wo c (nI m) (nI (m + 1)) 1 else f_X12_does_J120 rf wo c (nI m) (nI (m + 1)) 0 := by
        rw [f_X12_does_J106, rdI_o jm1, nI_clamp (by omega)]
      by_cases d : c = 47 ∨ c = 37
      · have hE : (if c = 47 then f_X12_does_J106 wo (nI (m + 1)) (f_X12_does_J120 rf wo c (nI m) (nI (m + 1))) else if c = 37 then f_X12_does_J106 wo (nI (m + 1)) (f_X12_does_J120 rf wo c (nI m) (nI (m + 1))) else f_X12_does_J120 rf wo c (nI m) (nI (m + 1)) 0) = f_X12_does_J106 wo (nI (m + 1)) (f_X12_does_J120 rf wo c (nI m) (nI (m + 1))) := by
          by_cases d1 : c = 47
          · rw [if_pos d1]
          · rw [if_neg d1, if_pos (d.resolve_left d1)]
        rw [hE, hD]
        by_cases z : wo (m + 1) = 0
        · rw [if_pos z, hJ, vb1]
          exact ⟨1, rfl, fun w => absurd ⟨d, z⟩ w.2.2, fun _ => rfl⟩
        · rw [if_neg z, hJ, vb0]
          exact ⟨0, rfl, fun _ => rfl, fun w => absurd ⟨a, b, fun w2 => z w2.2⟩ w⟩
      · rw [if_neg (fun w => d (Or.inl w)), if_neg (fun w => d (Or.inr w)), hJ, vb0]
        exact ⟨0, rfl, fun _ => rfl, fun w => absurd ⟨a, b, fun w2 => d w2.1⟩ w⟩
    · rw [if_neg b, hJ, vb1]
      exact ⟨1, rfl, fun w => absurd w.2.1 b, fun _ => rfl⟩
  · rw [if_neg a, hJ, vb1]
    exact ⟨1, rfl, fun w => absurd w.1 a, fun _ => rfl⟩
theorem does_join {c : Int32} (hm : m + 1 < 200) (hc : c = 38 ∨ c = 124) : f_X12_does rf wo c (nI m) = if rf m = 0 ∧ wo m = (if c = 38 then 1 else 0) then some (upd rf m (vp_nar .boolean (rf (m + 1))), upd wo m (wo (m + 1))) else some (rf, wo) := by
  have jm : jin (nI m) 200 = true := jin_n (by omega) (by omega)
  have jm1 : jin (nI (m + 1)) 200 = true := jin_n (by omega) (by omega)
  have hJ : f_X12_does_J16 c (nI m) (nI (m + 1)) rf wo = if rf m = 0 ∧ wo m = (if c = 38 then 1 else 0) then some (upd rf m (vp_nar .boolean (rf (m + 1))), upd wo m (wo (m + 1))) else some (rf, wo) := by
    rw [f_X12_does_J16, rdI_o jm, nI_clamp (by omega)]
    by_cases a : rf m = 0
    · rw [if_pos a, rdI_o jm, nI_clamp (by omega)]
      have hJ2 : ∀ z : Int32, f_X12_does_J42 (nI m) (nI (m + 1)) rf wo (wo m) z = if wo m = z then some (upd rf m (vp_nar .boolean (rf (m + 1))), upd wo m (wo (m + 1))) else some (rf, wo) := by
        intro z
        rw [f_X12_does_J42, rdI_o jm1, nI_clamp (by omega), wrI_o jm, rdI_o jm1, nI_clamp (by omega), wrZ_o jm, nI_clamp (by omega)]
      rw [hJ2, hJ2]
      by_cases d : c = 38
      · rw [if_pos d, if_pos d]
        by_cases z : wo m = 1
        · rw [if_pos z, if_pos ⟨a, z⟩]
        · rw [if_neg z, if_neg (fun w => z w.2)]
      · rw [if_neg d, if_neg d]
        by_cases z : wo m = 0
        · rw [if_pos z, if_pos ⟨a, z⟩]
        · rw [if_neg z, if_neg (fun w => z w.2)]
    · rw [if_neg a, if_neg (fun w => a w.1)]
  rw [f_X12_does, nmI_o, nI_1]
  rcases hc with h | h
  · rw [if_pos h]; exact hJ
  · rw [if_neg (by rw [h]; decide), if_pos h]; exact hJ
end ER
end
section
section EX
variable {nc na nc' na' : Nat → Int32} {k L L2 : Nat} {f g : Sem} {c v : Int32}
theorem RR_congr (h : RR nc na k L f) (hc : ∀ i, i < L → nc' (k + i) = nc (k + i) ∧ na' (k + i) = na (k + i)) : RR nc' na' k L f := fun V q arr aarg rf wo off to m n h1 h2 h3 h4 h5 => h V q arr aarg rf wo off to m n h1 (fun i hi => ⟨(h2 i hi).1.trans (hc i hi).1, (h2 i hi).2.trans (hc i hi).2⟩) h3 h4 h5
theorem RR_num (h1 : nc k = 0) (h2 : na k = v) : RR nc na k 1 (fun _ => some v) := by
  intro V q arr aarg rf wo off to m n g1 g2 g3 g4 g5
  have ha := g2 0 (by omega)
  rw [Nat.add_zero, Nat.add_zero, h1, h2] at ha
  refine ⟨upd rf m 0, upd wo m v, fun i hi => ⟨upd_n (by omega), upd_n (by omega)⟩, ?_, fun z hz => ?_, fun hz => by cases hz⟩
  · rw [rL_num g4 (by omega) (by omega) ha.1, ha.2]
  · cases hz; exact ⟨upd_s _ _ _, upd_s _ _ _⟩
theorem RR_let (h1 : nc k = 1) (h2 : na k = c) (hc : valB c = true) : RR nc na k 1 (fun V => some (V c)) := by
  intro V q arr aarg rf wo off to m n g1 g2 g3 g4 g5
  have ha := g2 0 (by omega)
  rw [Nat.add_zero, Nat.add_zero, h1, h2] at ha
  refine ⟨upd rf m 0, upd wo m (V c), fun i hi => ⟨upd_n (by omega), upd_n (by omega)⟩, ?_, fun z hz => ?_, fun hz => by cases hz⟩
  · rw [rL_let g4 (by omega) (by omega) ha.1, ha.2, g1 c hc]
  · cases hz; exact ⟨upd_s _ _ _, upd_s _ _ _⟩
theorem isO_2 {c : Int32} (hc : isO c) : 2 < c.toInt := by rcases hc with h | h | h | h | h | h | h | h <;> subst h <;> decide
theorem RR_bin (hf : RR nc na k L f) (hg : RR nc na (k + L) L2 g) (hw : nc (k + L + L2) = c) (hc : isO c) : RR nc na k (L + L2 + 1) (sBin c f g) := by
  intro V q arr aarg rf wo off to m n g1 g2 g3 g4 g5
  have ha : arr (off + k + L + L2) = c := by have := (g2 (L + L2) (by omega)).1; rw [← Nat.add_assoc, ← Nat.add_assoc] at this; rw [this, hw]
  obtain ⟨rf1, wo1, a1, a2, a3, a4⟩ := hf V q arr aarg rf wo off to m (n + 1 + L2) g1 (fun i hi => g2 i (by omega)) (by omega) g4 (by omega)
  obtain ⟨rf2, wo2, b1, b2, b3, b4⟩ := hg V q arr aarg rf1 wo1 off to (m + 1) (n + 1) g1 (fun i hi => by have := g2 (L + i) (by omega); rw [← Nat.add_assoc, ← Nat.add_assoc] at this; rw [← Nat.add_assoc]; exact this) (by omega) g4 (by omega)
  obtain ⟨t, t1, t2, t3⟩ := does_bin (rf := rf2) (wo := wo2) (m := m) (c := c) (by omega) hc
  have hr := rL_op (q := q) (aarg := aarg) (n := n) g4 (show off + k + L + L2 < to by omega) ha (isO_2 hc) t1
  refine ⟨upd rf2 m t, upd wo2 m (wk c (wo2 m) (wo2 (m + 1))), fun i hi => ?_, ?_, ?_, ?_⟩
  · rw [upd_n (by omega), upd_n (by omega)]
    exact ⟨((b1 i (by omega)).1).trans (a1 i hi).1, ((b1 i (by omega)).2).trans (a1 i hi).2⟩
  · rw [show n + (L + L2 + 1) = n + 1 + L2 + L by omega, a2, show off + k + L = off + (k + L) by omega, b2, show off + (k + L) + L2 = off + k + L + L2 by omega, hr, show off + k + (L + L2 + 1) = off + k + L + L2 + 1 by omega]
  · intro z hz
    rw [upd_s, upd_s]
    unfold sBin at hz
    cases hf1 : f V with
    | none => rw [hf1] at hz; cases hz
    | some a =>
      cases hg1 : g V with
      | none => rw [hf1, hg1] at hz; cases hz
      | some b =>
        rw [hf1, hg1] at hz
        have hz : (if dvz c b then none else some (wk c a b)) = some z := hz
        obtain ⟨p1, p2⟩ := a3 a hf1
        obtain ⟨p3, p4⟩ := b3 b hg1
        have e1 : rf2 m = 0 := by rw [(b1 m (by omega)).1, p1]
        have e2 : wo2 m = a := by rw [(b1 m (by omega)).2, p2]
        by_cases d : dvz c b
        · rw [if_pos d] at hz; cases hz
        · rw [if_neg d] at hz
          cases hz
          rw [e2, p4]
          exact ⟨t2 ⟨e1, p3, by rw [p4]; exact d⟩, rfl⟩
  · intro hz
    rw [upd_s]
    unfold sBin at hz
    refine t3 (fun w => ?_)
    obtain ⟨w1, w2, w3⟩ := w
    cases hf1 : f V with
    | none =>
      have := a4 hf1
      rw [(b1 m (by omega)).1, this] at w1
      exact absurd w1 (by decide)
    | some a =>
      cases hg1 : g V with
      | none =>
        have := b4 hg1
        rw [this] at w2
        exact absurd w2 (by decide)
      | some b =>
        rw [hf1, hg1] at hz
        have hz : (if dvz c b then none else some (wk c a b)) = none := hz
        obtain ⟨p3, p4⟩ := b3 b hg1
        rw [p4] at w3
        rw [if_neg w3] at hz
        cases hz
theorem RR_not (hf : RR nc na k L f) (hw : nc (k + L) = 2) : RR nc na k (L + 1) (sNot f) := by
  intro V q arr aarg rf wo off to m n g1 g2 g3 g4 g5
  have ha : arr (off + k + L) = 2 := by rw [(g2 L (by omega)).1, hw]
  obtain ⟨rf1, wo1, a1, a2, a3, a4⟩ := hf V q arr aarg rf wo off to m (n + 1) g1 (fun i hi => g2 i (by omega)) (by omega) g4 (by omega)
  refine ⟨rf1, upd wo1 m (1 - wo1 m), fun i hi => ⟨(a1 i hi).1, by rw [upd_n (by omega)]; exact (a1 i hi).2⟩, ?_, fun z hz => ?_, fun hz => ?_⟩
  · rw [show n + (L + 1) = n + 1 + L by omega, a2, rL_not g4 (by omega) (by omega) ha]
    rfl
  · unfold sNot at hz
    cases hf1 : f V with
    | none => rw [hf1] at hz; cases hz
    | some a =>
      rw [hf1] at hz
      cases hz
      obtain ⟨p1, p2⟩ := a3 a hf1
      exact ⟨p1, by rw [upd_s, p2]⟩
  · unfold sNot at hz
    cases hf1 : f V with
    | none => exact a4 hf1
    | some a => rw [hf1] at hz; cases hz
theorem RR_join (hf : RR nc na k L f) (hg : RR nc na (k + L) L2 g) (hw : nc (k + L + L2) = c) (hc : c = 38 ∨ c = 124) (hb : isBoo f) : RR nc na k (L + L2 + 1) (if c = 38 then sAnd f g else sOr f g) := by
  intro V q arr aarg rf wo off to m n g1 g2 g3 g4 g5
  have hc2 : 2 < c.toInt := by rcases hc with h | h <;> subst h <;> decide
  have ha : arr (off + k + L + L2) = c := by have := (g2 (L + L2) (by omega)).1; rw [← Nat.add_assoc, ← Nat.add_assoc] at this; rw [this, hw]
  obtain ⟨rf1, wo1, a1, a2, a3, a4⟩ := hf V q arr aarg rf wo off to m (n + 1 + L2) g1 (fun i hi => g2 i (by omega)) (by omega) g4 (by omega)
  obtain ⟨rf2, wo2, b1, b2, b3, b4⟩ := hg V q arr aarg rf1 wo1 off to (m + 1) (n + 1) g1 (fun i hi => by have := g2 (L + i) (by omega); rw [← Nat.add_assoc, ← Nat.add_assoc] at this; rw [← Nat.add_assoc]; exact this) (by omega) g4 (by omega)
  have hd := does_join (rf := rf2) (wo := wo2) (m := m) (c := c) (by omega) hc
  have hrun : ∀ rf' wo', f_X12_does rf2 wo2 c (nI m) = some (rf', wo') → rL q arr aarg to (n + (L + L2 + 1)) m (off + k) rf wo = rL q arr aarg to n (m + 1) (off + k + (L + L2 + 1)) rf' wo' := by
    intro rf' wo' h
    have hr := rL_op (q := q) (aarg := aarg) (n := n) g4 (show off + k + L + L2 < to by omega) ha hc2 h
    rw [show n + (L + L2 + 1) = n + 1 + L2 + L by omega, a2, show off + k + L = off + (k + L) by omega, b2, show off + (k + L) + L2 = off + k + L + L2 by omega, hr, show off + k + (L + L2 + 1) = off + k + L + L2 + 1 by omega]
  have e1 : rf2 m = rf1 m := (b1 m (by omega)).1
  have e2 : wo2 m = wo1 m := (b1 m (by omega)).2
  have keep : ∀ i, i < m → rf2 i = rf i ∧ wo2 i = wo i := fun i hi => ⟨((b1 i (by omega)).1).trans (a1 i hi).1, ((b1 i (by omega)).2).trans (a1 i hi).2⟩
  cases hf1 : f V with
  | none =>
    have h1 := a4 hf1
    have hs : (if c = 38 then sAnd f g else sOr f g) V = none := by
      split
      · unfold sAnd; rw [hf1]
      · unfold sOr; rw [hf1]
    rw [if_neg (by rw [e1, h1]; exact fun w => absurd w.1 (by decide))] at hd
    rw [hs]
    exact ⟨rf2, wo2, keep, hrun _ _ hd, fun z hz => (by cases hz), fun _ => by rw [e1, h1]⟩
  | some a =>
    obtain ⟨p1, p2⟩ := a3 a hf1
    have hab := hb V a hf1
    rw [e1, e2, p1, p2] at hd
    have hs : (if c = 38 then sAnd f g else sOr f g) V = if a = (if c = 38 then 1 else 0) then g V else some a := by
      rcases hc with h | h
      · subst h
        rw [if_pos rfl, if_pos rfl]
        unfold sAnd
        rw [hf1]
        show (if a = 0 then some a else g V) = _
        rcases hab with h | h
        · rw [if_pos h, if_neg (by rw [h]; decide)]
        · rw [if_neg (by rw [h]; decide), if_pos h]
      · subst h
        rw [if_neg (show ¬ (124 : Int32) = 38 by decide), if_neg (show ¬ (124 : Int32) = 38 by decide)]
        unfold sOr
        rw [hf1]
    rw [hs]
    by_cases d : a = (if c = 38 then 1 else 0)
    · rw [if_pos ⟨rfl, d⟩] at hd
      rw [if_pos d]
      refine ⟨_, _, fun i hi => ?_, hrun _ _ hd, fun z hz => ?_, fun hz => ?_⟩
      · rw [upd_n (by omega), upd_n (by omega)]; exact keep i hi
      · obtain ⟨p3, p4⟩ := b3 z hz
        rw [upd_s, upd_s, p3, p4]
        exact ⟨vb0, rfl⟩
      · rw [upd_s, b4 hz]; exact vb1
    · rw [if_neg (fun w => d w.2)] at hd
      rw [if_neg d]
      refine ⟨rf2, wo2, keep, hrun _ _ hd, fun z hz => ?_, fun hz => by cases hz⟩
      cases hz
      exact ⟨by rw [e1, p1], by rw [e2, p2]⟩
end EX
theorem boo_bin {c : Int32} {f g : Sem} (hc : c = 60 ∨ c = 62 ∨ c = 61) : isBoo (sBin c f g) := by
  intro V v h
  unfold sBin at h
  cases hf : f V with
  | none => rw [hf] at h; cases h
  | some a =>
    cases hg : g V with
    | none => rw [hf, hg] at h; cases h
    | some b =>
      rw [hf, hg] at h
      have h : (if dvz c b then none else some (wk c a b)) = some v := h
      rw [if_neg (fun w => by rcases hc with e | e | e <;> subst e <;> exact absurd w.1 (by decide))] at h
      cases h
      have hw := wk_e c a b
      generalize wk c a b = y at hw ⊢
      rw [f_X12_worked] at hw
      rcases hc with e | e | e
      · subst e
        rw [if_neg (by decide), if_neg (by decide), if_neg (by decide), if_neg (by decide), if_neg (by decide), if_pos (by decide)] at hw
        by_cases z : b ≤ a
        · rw [if_pos z] at hw; cases hw; exact Or.inl rfl
        · rw [if_neg z] at hw; cases hw; exact Or.inr rfl
      · subst e
        rw [if_neg (by decide), if_neg (by decide), if_neg (by decide), if_neg (by decide), if_neg (by decide), if_neg (by decide), if_pos (by decide)] at hw
        by_cases z : a ≤ b
        · rw [if_pos z] at hw; cases hw; exact Or.inl rfl
        · rw [if_neg z] at hw; cases hw; exact Or.inr rfl
      · subst e
        rw [if_neg (by decide), if_neg (by decide), if_neg (by decide), if_neg (by decide), if_neg (by decide), if_neg (by decide), if_neg (by decide)] at hw
        by_cases z : a = b
        · rw [if_pos z] at hw; cases hw; exact Or.inr rfl
        · rw [if_neg z] at hw; cases hw; exact Or.inl rfl
theorem boo_not {f : Sem} (h : isBoo f) : isBoo (sNot f) := by
  intro V v hv
  unfold sNot at hv
  cases hf : f V with
  | none => rw [hf] at hv; cases hv
  | some a =>
    rw [hf] at hv
    cases hv
    rcases h V a hf with e | e
    · rw [e]; exact Or.inr (by decide)
    · rw [e]; exact Or.inl (by decide)
theorem boo_join {c : Int32} {f g : Sem} (hf : isBoo f) (hg : isBoo g) : isBoo (if c = 38 then sAnd f g else sOr f g) := by
  intro V v hv
  split at hv
  · unfold sAnd at hv
    cases h1 : f V with
    | none => rw [h1] at hv; cases hv
    | some a =>
      rw [h1] at hv
      have hv : (if a = 0 then some a else g V) = some v := hv
      by_cases d : a = 0
      · rw [if_pos d] at hv; cases hv; exact hf V _ h1
      · rw [if_neg d] at hv; exact hg V v hv
  · unfold sOr at hv
    cases h1 : f V with
    | none => rw [h1] at hv; cases hv
    | some a =>
      rw [h1] at hv
      have hv : (if a = 0 then g V else some a) = some v := hv
      by_cases d : a = 0
      · rw [if_pos d] at hv; exact hg V v hv
      · rw [if_neg d] at hv; cases hv; exact hf V _ h1
end
section
/-! an E, read by both -/
def bd (kd o : Nat) : Nat := 5 - kd + 2 * (6 - o)
theorem isT_A {x : Int32} (h : isT x) : isA x := by
  rcases h with h | h | h
  · exact Or.inl h
  · exact Or.inr (Or.inl h)
  · exact Or.inr (Or.inr (Or.inl h))
theorem isP_A {x : Int32} (h : isP x) : isA x := by
  rcases h with h | h
  · exact Or.inr (Or.inr (Or.inr (Or.inl h)))
  · exact Or.inr (Or.inr (Or.inr (Or.inr h)))
theorem isA_TP {x : Int32} (h : isA x) : isT x ∨ isP x := by
  rcases h with h | h | h | h | h
  · exact Or.inl (Or.inl h)
  · exact Or.inl (Or.inr (Or.inl h))
  · exact Or.inl (Or.inr (Or.inr h))
  · exact Or.inr (Or.inl h)
  · exact Or.inr (Or.inr h)
def pendOK (kd j : Nat) (st : Nat → Int32) (m : Nat) : Prop := (kd = 4 ∧ j = 0) ∨ (kd = 3 ∧ j ≤ 1 ∧ ∀ i, i < j → isT (st (m + i))) ∨ (kd = 2 ∧ j ≤ 2 ∧ ∀ i, i < j → isA (st (m + i)))
def stopc (kd : Nat) (h : Int32) : Prop := (kd = 3 → ¬ isT h) ∧ (kd = 2 → ¬ isA h)
def eOK (e : Nat) (t : Nat → Int32) (kd pd : Nat) (code0 : Nat → Int32) (u k o p m : Nat) (na nc st : Nat → Int32) (a k' j : Nat) (na' nc' st' : Nat → Int32) (us : Int32) (code' : Nat → Int32) : Prop :=
  p < a ∧ a ≤ e ∧ k ≤ k' ∧ k' + j + p ≤ a + k ∧ vrun e t k o p m na nc st k' o a (m + j) na' nc' st' ∧ (∀ i, i < m → st' i = st i) ∧ pendOK pd j st' m ∧ us = nI (u + (k' + j - k)) ∧ (∀ i, i < u → code' i = code0 i) ∧ (∀ i, i < k → nc' i = nc i ∧ na' i = na i) ∧ (∃ f : Sem, CR code' u (k' + j - k) (bd pd o) f ∧ RR (emC st' m j nc' k') (emC z0 m j na' k') k (k' + j - k) f) ∧ stopc kd (hN t e a)
def ePost (e : Nat) (t : Nat → Int32) (kd : Nat) (code0 : Nat → Int32) (u k o p m : Nat) (na nc st : Nat → Int32) (y : Int32 × Int32 × Int32 × Int32 × (Nat → Int32)) : Prop :=
  (y.1 = 0 ∧ ∃ a : Nat, y.2.1 = nI a ∧ a ≤ e ∧ (1 ≤ y.2.2.2.1.toInt ∧ y.2.2.2.1.toInt ≤ 9) ∧ vbad e t k o p m na nc st (badC y.2.2.2.1 a)) ∨
  (y.1 = 1 ∧ ∃ (a k' j : Nat) (na' nc' st' : Nat → Int32), y.2.1 = nI a ∧ eOK e t kd kd code0 u k o p m na nc st a k' j na' nc' st' y.2.2.1 y.2.2.2.2)
section S3
variable {e k o p m k' o' p' m' a j k2 o2 a2 m2 : Nat} {b t na nc st na' nc' st' na2 nc2 st2 code : Nat → Int32}
theorem fac_let (he : e ≤ 120) (hp : p < e) (h1 : ¬ hN t e p = 91) (h2 : ¬ digP (hN t e p)) (h3 : valB (hN t e p) = true) (hk : k < 120) : f_X12_factor (nI p) (nI e) 0 (nI k) (nI o) (nI m) na nc st t = some (nI (p + 1), 0, nI (k + 1), nI o, nI m, upd na k (hN t e p), upd nc k 1, st) := by
  rw [fac_J he (by omega) h1, f_X12_factor_J23, isGood_0, cb1_o, if_neg (by decide), dig_n he (by omega), cb1_o, if_pos (by rw [bI_0]; exact h2), here_n he (by omega), cb1_o, isValue_n, cb1_o, if_neg (by rw [bI_0]; exact fun w => w h3), cb1_o, emit_n hk, cb3_o, nmI_o, nI_1]
theorem fac_wrong (he : e ≤ 120) (hp : p ≤ e) (h1 : ¬ hN t e p = 91) (h2 : ¬ digP (hN t e p)) (h3 : ¬ valB (hN t e p) = true) : f_X12_factor (nI p) (nI e) 0 (nI k) (nI o) (nI m) na nc st t = some (nI p, badC 1 p, nI k, nI o, nI m, na, nc, st) := by
  rw [fac_J he hp h1, f_X12_factor_J23, isGood_0, cb1_o, if_neg (by decide), dig_n he hp, cb1_o, if_pos (by rw [bI_0]; exact h2), here_n he hp, cb1_o, isValue_n, cb1_o, if_pos (by rw [bI_0]; exact h3), wrongs_n, cb1_o]
theorem fac_num {q : Nat} {w : Int32} (he : e ≤ 120) (hp : p ≤ e) (h1 : ¬ hN t e p = 91) (h2 : digP (hN t e p)) (hr : f_X12_reads (nI p) (nI e) 0 t = some (w, nI q, 0)) (hk : k < 120) : f_X12_factor (nI p) (nI e) 0 (nI k) (nI o) (nI m) na nc st t = some (nI q, 0, nI (k + 1), nI o, nI m, upd na k w, upd nc k 0, st) := by
  rw [fac_J he hp h1, f_X12_factor_J23, isGood_0, cb1_o, if_neg (by decide), dig_n he hp, cb1_o, if_neg (by rw [bI_0]; exact fun w => w h2), hr, cb3_o, emit_n hk, cb3_o]
theorem fac_num6 {q d : Int32} {w : Int32} (he : e ≤ 120) (hp : p ≤ e) (h1 : ¬ hN t e p = 91) (h2 : digP (hN t e p)) (hr : f_X12_reads (nI p) (nI e) 0 t = some (w, q, d)) (hd : ¬ d = 0) : f_X12_factor (nI p) (nI e) 0 (nI k) (nI o) (nI m) na nc st t = some (q, d, nI k, nI o, nI m, na, nc, st) := by
  rw [fac_J he hp h1, f_X12_factor_J23, isGood_0, cb1_o, if_neg (by decide), dig_n he hp, cb1_o, if_neg (by rw [bI_0]; exact fun w => w h2), hr, cb3_o, f_X12_emit, isGood_n hd, cb1_o, if_pos rfl, cb3_o]
/-- an E ends inside of brackets that are still open -/
theorem stay_noclose (he : e ≤ 120) (hp : p ≤ e) (hc : ¬ hN t e p = 93) (hs : ¬ isA (hN t e p)) (hm : st m = 91) (h1 : ∀ i, i < j → isA (st (m + 1 + i))) (h2 : k + j ≤ 120) (h3 : m + 1 + j < 160) (n : Nat) : vL e t (n + 1 + 1) 1 k o p (m + 1 + j) na nc st = some (nI p, badC 1 p, nI (k + j), nI o, nI (m + 1), 0, emC z0 (m + 1) j na k, emC st (m + 1) j nc k, st) := by
  have ht : tpN st (m + 1) = 91 := by unfold tpN; rw [if_neg (by omega)]; exact hm
  have hq : ¬ opq 1 (tpN st (m + 1)) := by
    rw [ht]
    rintro (h | h)
    · exact absurd h (by unfold isT; decide)
    · exact absurd h.2 (by unfold isP; decide)
  have hT : ¬ (hN t e p = 42 ∨ hN t e p = 47 ∨ hN t e p = 37) := fun w => hs (isT_A w)
  have hP : ¬ (hN t e p = 43 ∨ hN t e p = 45) := fun w => hs (isP_A w)
  have hst : f_X12_stays (nI p) (nI e) 0 (nI k) (nI o) (nI (m + 1 + j)) 0 na nc st t = some (0, nI p, 0, nI (k + j), nI o, nI (m + 1), 0, emC z0 (m + 1) j na k, emC st (m + 1) j nc k, st) := by
    rw [f_X12_stays, here_n he hp, cb1_o, isTimes_e, cb1_o, if_pos (by rw [bI_0]; exact hT), isPlus_e, cb1_o, if_pos (by rw [bI_0]; exact hP), sums_e hq (fun i hi => isA_opq (h1 i hi)) h2 (by omega), cb4_o, if_neg hc]
  rw [vL_1, f_X12_value_J29, isGood_0, cb1_o, if_neg (by decide), hst, cb10_o, if_pos rfl, f_X12_value_L7, if_pos rfl, f_X12_value_J57, isGood_0, cb1_o, if_neg (by decide), top_n (by omega), cb1_o, ht, if_pos rfl, wrongs_n, cb1_o]
theorem vrun_close (haa : a < a2) (h : vrun e t k o p m na nc st k' o' a m' na' nc' st') (hs : ∀ n, vL e t (n + 1) 1 k' o' a m' na' nc' st' = vL e t n 1 k2 o2 a2 m2 na2 nc2 st2) : vrun e t k o p m na nc st k2 o2 a2 m2 na2 nc2 st2 := by
  obtain ⟨J, hJ, h⟩ := h
  refine ⟨J + 1, by omega, fun n => ?_⟩
  rw [show n + 1 + (J + 1) = (n + 1) + 1 + J by omega, h (n + 1), hs (n + 1)]
theorem vbad_noclose (hae : a ≤ e) {d : Int32} {p1 k1 o1 m1 ib1 : Int32} {na1 nc1 st1 : Nat → Int32} (h : vrun e t k o p m na nc st k' o' a m' na' nc' st') (hs : ∀ n, vL e t (n + 1 + 1) 1 k' o' a m' na' nc' st' = some (p1, d, k1, o1, m1, ib1, na1, nc1, st1)) : vbad e t k o p m na nc st d := by
  obtain ⟨J, hJ, h⟩ := h
  refine ⟨J + 1, p1, k1, o1, m1, ib1, na1, nc1, st1, by omega, fun n => ?_⟩
  rw [show n + 1 + (J + 1) = (n + 1) + 1 + J by omega, h (n + 1), hs n]
theorem vrun_op (haa : a2 = a + 1) {k3 o3 p3 m3 : Nat} {na3 nc3 st3 : Nat → Int32} (h : vrun e t k o p m na nc st k' o' a m' na' nc' st') (hs : ∀ n, vL e t (n + 1) 1 k' o' a m' na' nc' st' = vL e t n 0 k2 o2 a2 m2 na2 nc2 st2) (h2 : vrun e t k2 o2 a2 m2 na2 nc2 st2 k3 o3 p3 m3 na3 nc3 st3) : vrun e t k o p m na nc st k3 o3 p3 m3 na3 nc3 st3 := by
  obtain ⟨J, hJ, h⟩ := h
  obtain ⟨J2, hJ2, h2⟩ := h2
  refine ⟨J + J2 + 1, by omega, fun n => ?_⟩
  rw [show n + 1 + (J + J2 + 1) = (n + 1 + J2) + 1 + J by omega, h (n + 1 + J2), hs (n + 1 + J2), h2 n]
theorem vbad_op {d : Int32} (haa : a2 = a + 1) (h : vrun e t k o p m na nc st k' o' a m' na' nc' st') (hs : ∀ n, vL e t (n + 1) 1 k' o' a m' na' nc' st' = vL e t n 0 k2 o2 a2 m2 na2 nc2 st2) (h2 : vbad e t k2 o2 a2 m2 na2 nc2 st2 d) : vbad e t k o p m na nc st d := by
  obtain ⟨J, hJ, h⟩ := h
  obtain ⟨J2, p1, k1, o1, m1, ib1, na1, nc1, st1, hJ2, h2⟩ := h2
  refine ⟨J + J2 + 1, p1, k1, o1, m1, ib1, na1, nc1, st1, by omega, fun n => ?_⟩
  rw [show n + 1 + (J + J2 + 1) = (n + 1 + J2) + 1 + J by omega, h (n + 1 + J2), hs (n + 1 + J2), h2 n]
theorem sign_n {fault : Int32} {c : Int32} (he : e ≤ 120) (hp : a ≤ e) (hb : TBy b t) (hc : 0 < c.toInt) : f_X6_signStands 200 (nI e) (nI a) fault b c = if hN t e a = c then some (1, nI (a + 1), fault) else some (0, nI a, 1) := by
  rw [f_X6_signStands, next_n he hp, cb1_o]
  by_cases d : hN t e a = c
  · rw [if_pos ((nh_iff hb c hc).mpr d), if_pos d, nmI_o, nI_1]
  · rw [if_neg (fun w => d ((nh_iff hb c hc).mp w)), if_neg d, f_X6_fail, cb2_o]
    unfold bo
    rw [if_pos (Or.inl rfl)]
end S3
end
section
section S4
variable {e o : Nat} {b t : Nat → Int32}
/-- what an E of a kind must give -/
def eHyp (e : Nat) (b t : Nat → Int32) (kd : Nat) (pre : Int32 → Prop) (o : Nat) (G : Nat → Int32 → Int32 → Int32 → Int32 → (Nat → Int32) → (Nat → Int32) → Option (Int32 × Int32 × Int32 × Int32 × (Nat → Int32))) : Prop :=
  ∀ (u k p m : Nat) (fault : Int32) (code na nc st : Nat → Int32), k + m ≤ p → p ≤ e → u ≤ p → pre (tpN st m) → Sf (G 200 (nI e) (nI p) (nI u) fault b code) (ePost e t kd code u k o p m na nc st)
abbrev GT4 : Type := Nat → Int32 → Int32 → Int32 → Int32 → (Nat → Int32) → (Nat → Int32) → Int32 → Int32 → Option (Int32 × Int32 × Int32 × Int32 × (Nat → Int32))
abbrev GT3 : Type := Nat → Int32 → Int32 → Int32 → Int32 → (Nat → Int32) → (Nat → Int32) → Int32 → Option (Int32 × Int32 × Int32 × Int32 × (Nat → Int32))
theorem eOK_1 {code na nc st : Nat → Int32} {u k p m a : Nat} {c x w : Int32} {f : Sem} (hpa : p < a) (ha : a ≤ e) (hr : vrun e t k o p m na nc st (k + 1) o a m (upd na k x) (upd nc k c) st) (hC : CR (upd code u w) u 1 1 f) (hR : RR (upd nc k c) (upd na k x) k 1 f) : eOK e t 4 4 code u k o p m na nc st a (k + 1) 0 (upd na k x) (upd nc k c) st (nI (u + 1)) (upd code u w) := by
  refine ⟨hpa, ha, by omega, by omega, hr, fun i _ => rfl, Or.inl ⟨rfl, rfl⟩, ?_, fun i hi => upd_n (by omega), fun i hi => ⟨upd_n (by omega), upd_n (by omega)⟩, ?_, ⟨fun h => absurd h (by omega), fun h => absurd h (by omega)⟩⟩
  · rw [show k + 1 + 0 - k = 1 by omega]
  · rw [show k + 1 + 0 - k = 1 by omega]
    exact ⟨f, CR_mono hC (by unfold bd; omega), hR⟩
theorem simF {G0 G1 : GT4} {G2 G3 : GT3} (he : e ≤ 120) (hb : TBy b t) (ho : o ≤ 6) (hS : o < 6 → eHyp e b t 2 (fun x => ¬ isA x) (o + 1) (fun n l a u f b c => G0 n l a u f b c 2 (nI (o + 1)))) : eHyp e b t 4 (fun _ => True) o (fun n l a u f b c => b_X6_factorStands G0 G1 G2 G3 n l a u f b c (nI o)) := by
  intro u k p m fault code na nc st hkm hpe hup _
  show Sf (b_X6_factorStands G0 G1 G2 G3 200 (nI e) (nI p) (nI u) fault b code (nI o)) _
  rw [b_X6_factorStands, next_n he hpe, cb1_o]
  have hfault : ∀ f : Int32, (1 ≤ f.toInt ∧ f.toInt ≤ 9) → vbad e t k o p m na nc st (badC f p) → ePost e t 4 code u k o p m na nc st (0, nI p, nI u, f, code) := fun f hf hv => Or.inl ⟨rfl, p, rfl, hpe, hf, hv⟩
  refine Sf_ite (fun c => ?_) (fun c => ?_)
  · have hc := (nh_iff (b := b) (e := e) (p := p) hb 91 (by decide)).mp c
    have hpl : p < e := hN_lt (by rw [hc]; decide)
    refine Sf_ite (fun c2 => ?_) (fun c2 => ?_)
    · have ho6 : o < 6 := (nI_ltI (a := o) (b := 6) (by omega) (by omega)).mp c2
      rw [nmI_o, nI_1, nI_1]
      have htop : tpN (upd st m 91) (m + 1) = 91 := by unfold tpN; rw [if_neg (by omega), Nat.add_sub_cancel, upd_s]
      refine Sf_cb5 (hS ho6 u k (p + 1) (m + 1) fault code na nc (upd st m 91) (by omega) (by omega) (by omega) (by rw [htop]; unfold isA; decide)) (fun r a' u' f' code' hp => ?_)
      rcases hp with ⟨r0, a, ea, hae, hf, hv⟩ | ⟨r1, a, k', j, na', nc', st', ea, hok⟩
      · have r0 : r = 0 := r0
        have ea : a' = nI a := ea
        rw [if_pos r0]
        exact Sf_some (Or.inl ⟨rfl, a, ea, hae, hf, vbad_open he hpl hc ho6 (by omega) hv⟩)
      · have r1 : r = 1 := r1
        have ea : a' = nI a := ea
        obtain ⟨q1, q2, q3, q4, q5, q6, q7, q8, q9, q10, q11, q12⟩ := hok
        have q8 : u' = nI (u + (k' + j - k)) := q8
        have q9 : ∀ i, i < u → code' i = code i := q9
        have q11 : ∃ f : Sem, CR code' u (k' + j - k) (bd 2 (o + 1)) f ∧ RR (emC st' (m + 1) j nc' k') (emC z0 (m + 1) j na' k') k (k' + j - k) f := q11
        obtain ⟨f, hC, hR⟩ := q11
        have hpend : ∀ i, i < j → isA (st' (m + 1 + i)) := by
          rcases q7 with h | h | h
          · exact absurd h.1 (by omega)
          · exact absurd h.1 (by omega)
          · exact h.2.2
        have hst : st' m = 91 := by rw [q6 m (by omega), upd_s]
        rw [if_neg (by rw [r1]; decide), ea, sign_n he q2 hb (by decide)]
        by_cases d : hN t e a = 93
        · have hal : a < e := hN_lt (by rw [d]; decide)
          rw [if_pos d, cb3_o, if_neg (by decide)]
          refine Sf_some (Or.inr ⟨rfl, a + 1, k' + j, 0, emC z0 (m + 1) j na' k', emC st' (m + 1) j nc' k', st', rfl, ?_⟩)
          refine ⟨by omega, by omega, by omega, by omega, ?_, fun i hi => by rw [q6 i (by omega)]; exact upd_n (by omega), Or.inl ⟨rfl, rfl⟩, ?_, q9, fun i hi => ?_, ⟨f, CR_mono hC (by unfold bd; omega), hR⟩, ⟨fun h => absurd h (by omega), fun h => absurd h (by omega)⟩⟩
          · have hs := fun n => stay_close (o := o + 1) (k := k') (na := na') (nc := nc') he hal d hst hpend (by omega) (by omega) (by omega) n
            exact vrun_open he hpl hc ho6 (by omega) (vrun_close (by omega) q5 hs)
          · exact q8
          · rw [emC_lo (by omega), emC_lo (by omega)]; exact q10 i hi
        · rw [if_neg d, cb3_o, if_pos rfl]
          refine Sf_some (Or.inl ⟨rfl, a, rfl, q2, (show 1 ≤ (1 : Int32).toInt ∧ (1 : Int32).toInt ≤ 9 by decide), ?_⟩)
          have hs := fun n => stay_noclose (o := o + 1) (k := k') (na := na') (nc := nc') he q2 d (q12.2 rfl) hst hpend (by omega) (by omega) n
          exact vbad_open he hpl hc ho6 (by omega) (vbad_noclose q2 q5 hs)
    · have ho6 : o = 6 := by
        by_cases w : o < 6
        · exact absurd ((nI_ltI (a := o) (b := 6) (by omega) (by omega)).mpr w) c2
        · omega
      subst ho6
      rw [f_X6_fail, cb2_o]
      exact Sf_bo (Or.inl (by decide)) (Sf_some (hfault 5 (by decide) (vbad_fac hpe (fac_deep he hpl hc (by omega)) (badC_ne (by decide) (by decide) (by omega)))))
  · have hc : ¬ hN t e p = 91 := fun w => c ((nh_iff (b := b) (e := e) (p := p) hb 91 (by decide)).mpr w)
    rw [isDigit_n, cb1_o]
    refine Sf_ite (fun c2 => ?_) (fun c2 => ?_)
    · rw [bI_0] at c2
      have hd : ¬ digP (hN t e p) := fun w => c2 ((nh_dig hb).mpr w)
      have wrong : ¬ valB (hN t e p) = true → Sf (b_X6_factorStands_J86 fault (nI p) (nI u) code) (ePost e t 4 code u k o p m na nc st) := by
        intro hv
        rw [b_X6_factorStands_J86, f_X6_fail, cb2_o]
        exact Sf_bo (Or.inl (by decide)) (Sf_some (hfault 1 (by decide) (vbad_fac hpe (fac_wrong he hpe hc hd hv) (badC_ne (by decide) (by decide) (by omega)))))
      refine Sf_ite (fun c3 => wrong ?_) (fun c3 => ?_)
      · have : ¬ p < e := fun w => by
          rw [nh hb, if_pos w] at c3
          have h1 := hN_b t e p
          have h2 := eqI c3
          have zm : (-1 : Int32).toInt = -1 := by decide
          omega
        unfold hN
        rw [if_neg this]
        decide
      · have hpl : p < e := by
          by_cases w : p < e
          · exact w
          · rw [nh hb, if_neg w] at c3; exact absurd rfl c3
        rw [nh hb, if_pos hpl]
        have hcb := hN_b t e p
        obtain ⟨c', hc1, hc2⟩ := nI_of (x := hN t e p) (fun w => by have := ltI w; have z : (0 : Int32).toInt = 0 := (by decide); omega)
        have hc3 : c' < 256 := by
          have := nI_toInt hc1
          rw [hc2, this] at hcb
          omega
        obtain ⟨q, q1, q2⟩ := idx_n hc3
        rw [hc2, q1, cb1_o]
        refine Sf_ite (fun c4 => ?_) (fun c4 => ?_)
        · have hv : valB (hN t e p) = true := by rw [hc2]; exact q2.mp c4
          rw [put_n (by omega), cb2_o, nmI_o, nI_1]
          refine Sf_some (Or.inr ⟨rfl, p + 1, k + 1, 0, upd na k (hN t e p), upd nc k 1, st, rfl, ?_⟩)
          have h := eOK_1 (code := code) (u := u) (c := 1) (x := hN t e p) (w := jshl (hN t e p) 8 ||| 97) (f := fun V => some (V (hN t e p))) (Nat.lt_succ_self p) (show p + 1 ≤ e by omega) (vrun_fac (by omega) (fac_let (o := o) (m := m) (na := na) (nc := nc) (st := st) (k := k) he hpl hc hd hv (by omega))) (CR_let (upd_s _ _ _) hv) (RR_let (upd_s _ _ _) (upd_s _ _ _) hv)
          rw [hc2] at h
          rw [hc2]
          exact h
        · rw [← hc2] at q2
          exact wrong (fun w => c4 (q2.mpr w))
    · rw [bI_0] at c2
      have c2 := Classical.not_not.mp c2
      have hd : digP (hN t e p) := (nh_dig hb).mp c2
      have hpl : p < e := hN_lt (fun w => by rw [w] at hd; exact absurd hd.1 (by decide))
      obtain ⟨n, hn⟩ : ∃ n, FU = n + 5 + 1 := ⟨FU - 6, by have := FU_ge; omega⟩
      obtain ⟨n', hn'⟩ : ∃ n, FU = n + 5 + 2 := ⟨FU - 7, by have := FU_ge; omega⟩
      obtain ⟨q, w, q1, q2, q3, qb, q4, q5, q6⟩ := num_2 (p := p) he hb (K := f_X6_numberStands_J48 (nI e) (nI u) fault 200 b code) 5 0 n n' 0 (by omega) (by omega) (by decide)
      have hp5 : 10 ^ q ≤ 10 ^ 5 := Nat.pow_le_pow_right (by omega) q2
      have q0 : 0 < q := q4 (by rw [Nat.add_zero]; exact hd) (by omega)
      have q5 : f_X6_numberStands_L4 (nI e) 200 b (f_X6_numberStands_J48 (nI e) (nI u) fault 200 b code) (n + 5 + 1) 0 (nI 0) (nI p) = f_X6_numberStands_J48 (nI e) (nI u) fault 200 b code w (nI (p + q)) := q5
      rw [nI_0] at q5
      have q6 : (¬ digP (hN t e (p + q)) ∧ f_X12_reads_L7 (nI p) (nI e) t (n' + 5 + 2) 0 0 (nI p) = some (w, nI (p + q), 0)) ∨ (q = 5 ∧ digP (hN t e (p + q)) ∧ ∃ w', f_X12_reads_L7 (nI p) (nI e) t (n' + 5 + 2) 0 0 (nI p) = some (w', nI (p + q + 1), badC 2 (p + q))) := q6
      rw [f_X6_numberStands, hn, q5, f_X6_numberStands_J48, next_n he q3, cb1_o, isDigit_n, cb1_o]
      have hrd : ∀ z, f_X12_reads_L7 (nI p) (nI e) t (n' + 5 + 2) 0 0 (nI p) = z → f_X12_reads (nI p) (nI e) 0 t = z := fun z hz => by rw [f_X12_reads, hn']; exact hz
      rcases q6 with ⟨g1, g2⟩ | ⟨g0, g1, w', g2⟩
      · rw [if_pos (by rw [bI_0]; exact fun z => g1 ((nh_dig hb).mp z)), put_n (by omega), cb2_o, cb5_o]
        refine Sf_bo (Or.inr (by decide)) (Sf_some (Or.inr ⟨rfl, p + q, k + 1, 0, upd na k w, upd nc k 0, st, rfl, ?_⟩))
        exact eOK_1 (c := 0) (x := w) (by omega) q3 (vrun_fac (by omega) (fac_num he hpe hc hd (hrd _ g2) (by omega))) (CR_num (upd_s _ _ _) qb.1 (by omega)) (RR_num (upd_s _ _ _) (upd_s _ _ _))
      · rw [if_neg (by rw [bI_0]; exact fun z => z ((nh_dig hb).mpr g1)), f_X6_fail, cb2_o]
        have hv := vbad_fac (o := o) (m := m) (na := na) (nc := nc) (st := st) (k := k) hpe (fac_num6 he hpe hc hd (hrd _ g2) (badC_ne (by decide) (by decide) (by omega))) (badC_ne (by decide) (by decide) (by omega))
        unfold bo
        rw [if_pos (Or.inl rfl), cb5_o]
        exact (show Sf (bo 0 (some (0, nI (p + q), nI u, 2, code))) _ from Sf_bo (Or.inl (by decide)) (Sf_some (Or.inl ⟨rfl, p + q, rfl, q3, (show 1 ≤ (2 : Int32).toInt ∧ (2 : Int32).toInt ≤ 9 by decide), hv⟩)))
/-- operands of a row -/
theorem simOT {G0 G1 : GT4} {G2 G3 : GT3} (hF : eHyp e b t 4 (fun _ => True) o (fun n l a u f b c => G3 n l a u f b c (nI o))) : eHyp e b t 4 (fun _ => True) o (fun n l a u f b c => b_X6_operandStands G0 G1 G2 G3 n l a u f b c 3 (nI o)) := by
  intro u k p m fault code na nc st h1 h2 h3 h4
  show Sf (b_X6_operandStands G0 G1 G2 G3 200 (nI e) (nI p) (nI u) fault b code 3 (nI o)) _
  rw [b_X6_operandStands, if_neg (by decide), if_neg (by decide), if_neg (by decide)]
  refine Sf_cb5 (hF u k p m fault code na nc st h1 h2 h3 h4) (fun r a' u' f' code' hp => ?_)
  refine Sf_bo ?_ (Sf_some hp)
  rcases hp with ⟨r0, -⟩ | ⟨r1, -⟩
  · have r0 : r = 0 := r0
    rw [r0]; exact Or.inl (by decide)
  · have r1 : r = 1 := r1
    rw [r1]; exact Or.inr (by decide)
theorem simOS {G0 G1 : GT4} {G2 G3 : GT3} (hF : eHyp e b t 3 (fun x => ¬ isT x) o (fun n l a u f b c => G0 n l a u f b c 3 (nI o))) : eHyp e b t 3 (fun x => ¬ isT x) o (fun n l a u f b c => b_X6_operandStands G0 G1 G2 G3 n l a u f b c 2 (nI o)) := by
  intro u k p m fault code na nc st h1 h2 h3 h4
  show Sf (b_X6_operandStands G0 G1 G2 G3 200 (nI e) (nI p) (nI u) fault b code 2 (nI o)) _
  rw [b_X6_operandStands, if_neg (by decide), if_neg (by decide), if_pos (by decide)]
  refine Sf_cb5 (hF u k p m fault code na nc st h1 h2 h3 h4) (fun r a' u' f' code' hp => ?_)
  refine Sf_bo ?_ (Sf_some hp)
  rcases hp with ⟨r0, -⟩ | ⟨r1, -⟩
  · have r0 : r = 0 := r0
    rw [r0]; exact Or.inl (by decide)
  · have r1 : r = 1 := r1
    rw [r1]; exact Or.inr (by decide)
end S4
end
section
section S5
variable {e o : Nat} {b t : Nat → Int32}
theorem tpN_congr {st st' : Nat → Int32} {m : Nat} (h : ∀ i, i < m → st' i = st i) : tpN st' m = tpN st m := by
  unfold tpN
  by_cases c : m = 0
  · rw [if_pos c, if_pos c]
  · rw [if_neg c, if_neg c]; exact h _ (by omega)
theorem isA_O {c : Int32} (h : isA c) : isO c := by
  rcases h with h | h | h | h | h
  · exact Or.inl h
  · exact Or.inr (Or.inl h)
  · exact Or.inr (Or.inr (Or.inl h))
  · exact Or.inr (Or.inr (Or.inr (Or.inl h)))
  · exact Or.inr (Or.inr (Or.inr (Or.inr (Or.inl h))))
set_option maxHeartbeats 4000000 in
theorem rowE_L {G1 : GT4} {kd kdO : Nat} {fl p1 : Int32} {opk preO : Int32 → Prop} (he : e ≤ 120) (hb : TBy b t)
    (hj0 : ∀ c, ¬ opk c → f_X6_joins p1 c = some 0) (hj1 : ∀ c, opk c → f_X6_joins p1 c = some 1) (h01 : ¬ p1 = 0) (h11 : ¬ p1 = 1)
    (hA : ∀ c, opk c → isA c ∧ fl = bI (c = 43 ∨ c = 45) ∧ preO c ∧ 2 < c.toInt)
    (hpend : ∀ (j : Nat) (st : Nat → Int32) (m : Nat), pendOK kd j st m → j ≤ 2 ∧ ∀ i, i < j → opq fl (st (m + i)))
    (hjn : ∀ (j : Nat) (st : Nat → Int32) (m : Nat), pendOK kdO j st (m + 1) → opk (st m) → pendOK kd (j + 1) st m)
    (hstop : ∀ h, stopc kdO h → ¬ opk h → stopc kd h)
    (hkd : kdO = kd + 1) (hkd3 : kd ≤ 3) (hO : eHyp e b t kdO preO o (fun n l a u f b c => G1 n l a u f b c p1 (nI o)))
    {u k p m : Nat} {code na nc st : Nat → Int32} (hkm : k + m ≤ p) (hpe : p ≤ e) (hup : u ≤ p) (htop : ¬ opq fl (tpN st m)) :
    ∀ (n i a k' j : Nat) (fault' us : Int32) (code' na' nc' st' : Nat → Int32), i < a → e + 1 < n + i → eOK e t kdO kd code u k o p m na nc st a k' j na' nc' st' us code' → Sf (b_X6_rowStands_L13 (nI e) 200 b p1 (nI o) G1 n (nI i) (nI a) fault' us code') (ePost e t kd code u k o p m na nc st) := by
  intro n
  induction n with
  | zero => intro i a k' j fault' us code' na' nc' st' h1 h2 h3; obtain ⟨q1, q2, -⟩ := h3; exact absurd h2 (by omega)
  | succ n ih =>
    intro i a k' j fault' us code' na' nc' st' h1 h2 h3
    have hok := h3
    obtain ⟨q1, q2, q3, q4, q5, q6, q7, q8, q9, q10, q11, q12⟩ := h3
    rw [b_X6_rowStands_L13, if_neg (nI_ge (a := i) (b := e) (by omega) (by omega)), next_n he q2, cb1_o]
    by_cases c : opk (hN t e a)
    · obtain ⟨c1, c2, c3, c4⟩ := hA _ c
      have zz : (0 : Int32).toInt = 0 := by decide
      have hal : a < e := hN_lt (t := t) (fun w => by have := eqI w; omega)
      rw [nh hb, if_pos hal, hj1 _ c, cb1_o, if_neg (by decide), cb1_o, if_neg h01, if_neg h11, b_X6_rowStands_J58, if_pos rfl, b_X6_rowStands_J72, nmI_o, nI_1, q8]
      obtain ⟨hj2, hpo⟩ := hpend j st' m q7
      have htop' : ¬ opq fl (tpN st' m) := by rw [tpN_congr q6]; exact htop
      have hs := fun n => stay_op (o := o) (k := k') (na := na') (nc := nc') (c := hN t e a) (fl := fl) (j := j) (st := st') (m := m) he hal rfl c1 c2 htop' hpo (by omega) (by omega) n
      have htc : tpN (upd st' m (hN t e a)) (m + 1) = hN t e a := by unfold tpN; rw [if_neg (by omega), Nat.add_sub_cancel, upd_s]
      refine Sf_cb5 (hO (u + (k' + j - k)) (k' + j) (a + 1) (m + 1) fault' code' (emC z0 m j na' k') (emC st' m j nc' k') (upd st' m (hN t e a)) (by omega) (by omega) (by omega) (by rw [htc]; exact c3)) (fun r a' u' f' code2 hp => ?_)
      rcases hp with ⟨r0, a2, ea, hae, hf, hv⟩ | ⟨r1, a2, k2, j2, na2, nc2, st2, ea, g1, g2, g3, g4, g5, g6, g7, g8, g9, g10, g11, g12⟩
      · have r0 : r = 0 := r0
        have ea : a' = nI a2 := ea
        rw [if_pos r0]
        exact Sf_some (Or.inl ⟨rfl, a2, ea, hae, hf, vbad_op rfl q5 hs hv⟩)
      · have r1 : r = 1 := r1
        have ea : a' = nI a2 := ea
        have g8 : u' = nI (u + (k' + j - k) + (k2 + j2 - (k' + j))) := g8
        have g9 : ∀ i, i < u + (k' + j - k) → code2 i = code' i := g9
        have g11 : ∃ f : Sem, CR code2 (u + (k' + j - k)) (k2 + j2 - (k' + j)) (bd kdO o) f ∧ RR (emC st2 (m + 1) j2 nc2 k2) (emC z0 (m + 1) j2 na2 k2) (k' + j) (k2 + j2 - (k' + j)) f := g11
        obtain ⟨f1, hC1, hR1⟩ := q11
        obtain ⟨f2, hC2, hR2⟩ := g11
        have hst2 : st2 m = hN t e a := by rw [g6 m (by omega), upd_s]
        rw [if_neg (by rw [r1]; decide), if_pos rfl, g8, put_n (by omega), cb2_o, nmI_o, nI_1, ea]
        refine ih (i + 1) a2 k2 (j2 + 1) f' _ _ na2 nc2 st2 (by omega) (by omega) ?_
        have eX : emC st2 m (j2 + 1) nc2 k2 = upd (emC st2 (m + 1) j2 nc2 k2) (k2 + j2) (hN t e a) := by rw [emC_snoc, hst2]
        have eY : emC z0 m (j2 + 1) na2 k2 = upd (emC z0 (m + 1) j2 na2 k2) (k2 + j2) 0 := emC_snoc
        refine ⟨by omega, g2, by omega, by omega, ?_, fun i hi => ?_, hjn j2 st2 m g7 (by rw [hst2]; exact c), ?_, fun i hi => ?_, fun i hi => ?_, ?_, g12⟩
        · have := vrun_op rfl q5 hs g5
          rw [show m + (j2 + 1) = m + 1 + j2 by omega]
          exact this
        · rw [g6 i (by omega), upd_n (by omega)]; exact q6 i hi
        · rw [show u + (k' + j - k) + (k2 + j2 - (k' + j)) + 1 = u + (k2 + (j2 + 1) - k) by omega]
        · rw [upd_n (by omega), g9 i (by omega)]; exact q9 i hi
        · obtain ⟨w1, w2⟩ := g10 i (by omega)
          rw [w1, w2, emC_lo (by omega), emC_lo (by omega)]; exact q10 i hi
        · rw [eX, eY, show k2 + (j2 + 1) - k = (k' + j - k) + (k2 + j2 - (k' + j)) + 1 by omega]
          refine ⟨sBin (hN t e a) f1 f2, ?_, ?_⟩
          · refine CR_bin (CR_congr hC1 (fun i hi => ?_)) (CR_congr hC2 (fun i hi => upd_n (by omega))) (upd_s _ _ _) (isA_O c1) (show bd kdO o + 1 ≤ bd kd o by unfold bd; omega) (by unfold bd; omega)
            rw [upd_n (by omega), g9 _ (by omega)]
          · refine RR_bin (RR_congr hR1 (fun i hi => ?_)) ?_ ?_ (isA_O c1)
            · have w := g10 (k + i) (by omega)
              refine ⟨?_, ?_⟩
              · rw [upd_n (by omega), emC_lo (st := st2) (by omega)]; exact w.1
              · rw [upd_n (by omega), emC_lo (m := m + 1) (by omega)]; exact w.2
            · rw [show k + (k' + j - k) = k' + j by omega]
              exact RR_congr hR2 (fun i hi => ⟨upd_n (by omega), upd_n (by omega)⟩)
            · rw [show k + (k' + j - k) + (k2 + j2 - (k' + j)) = k2 + j2 by omega, upd_s]
    · have cn : ¬ opk (nN b e a) := by
        rw [nh hb]
        by_cases d : a < e
        · rw [if_pos d]; exact c
        · rw [if_neg d]
          intro w
          have := (hA _ w).2.2.2
          have zm : (-1 : Int32).toInt = -1 := by decide
          omega
      rw [hj0 _ cn, cb1_o, if_pos rfl]
      exact Sf_some (Or.inr ⟨rfl, a, k', j, na', nc', st', rfl, q1, q2, q3, q4, q5, q6, q7, q8, q9, q10, q11, hstop _ q12 c⟩)
theorem rowE {G0 G1 : GT4} {G2 G3 : GT3} {kd kdO : Nat} {fl p1 : Int32} {opk preO : Int32 → Prop} (he : e ≤ 120) (hb : TBy b t)
    (hj0 : ∀ c, ¬ opk c → f_X6_joins p1 c = some 0) (hj1 : ∀ c, opk c → f_X6_joins p1 c = some 1) (h01 : ¬ p1 = 0) (h11 : ¬ p1 = 1)
    (hA : ∀ c, opk c → isA c ∧ fl = bI (c = 43 ∨ c = 45) ∧ preO c ∧ 2 < c.toInt)
    (hpend : ∀ (j : Nat) (st : Nat → Int32) (m : Nat), pendOK kd j st m → j ≤ 2 ∧ ∀ i, i < j → opq fl (st (m + i)))
    (hjn : ∀ (j : Nat) (st : Nat → Int32) (m : Nat), pendOK kdO j st (m + 1) → opk (st m) → pendOK kd (j + 1) st m)
    (hp0 : ∀ (j : Nat) (st : Nat → Int32) (m : Nat), pendOK kdO j st m → pendOK kd j st m)
    (hstop : ∀ h, stopc kdO h → ¬ opk h → stopc kd h)
    (hkd : kdO = kd + 1) (hkd3 : kd ≤ 3) (hO : eHyp e b t kdO preO o (fun n l a u f b c => G1 n l a u f b c p1 (nI o)))
    (hpre : ∀ x, ¬ opq fl x → preO x) : eHyp e b t kd (fun x => ¬ opq fl x) o (fun n l a u f b c => b_X6_rowStands G0 G1 G2 G3 n l a u f b c p1 (nI o)) := by
  intro u k p m fault code na nc st h1 h2 h3 h4
  show Sf (b_X6_rowStands G0 G1 G2 G3 200 (nI e) (nI p) (nI u) fault b code p1 (nI o)) _
  rw [b_X6_rowStands]
  refine Sf_cb5 (hO u k p m fault code na nc st h1 h2 h3 (hpre _ h4)) (fun r a' u' f' code' hp => ?_)
  rcases hp with ⟨r0, a, ea, hae, hf, hv⟩ | ⟨r1, a, k', j, na', nc', st', ea, hok⟩
  · have r0 : r = 0 := r0
    have ea : a' = nI a := ea
    rw [if_pos r0]
    exact Sf_some (Or.inl ⟨rfl, a, ea, hae, hf, hv⟩)
  · have r1 : r = 1 := r1
    have ea : a' = nI a := ea
    obtain ⟨q1, q2, q3, q4, q5, q6, q7, q8, q9, q10, q11, q12⟩ := hok
    rw [if_neg (by rw [r1]; decide), ea]
    have hFU := FU_ge
    obtain ⟨f0, hC0, hR0⟩ := q11
    exact rowE_L he hb hj0 hj1 h01 h11 hA hpend hjn hstop hkd hkd3 hO h1 h2 h3 h4 FU 0 a k' j f' u' code' na' nc' st' (by omega) (by omega) ⟨q1, q2, q3, q4, q5, q6, hp0 _ _ _ q7, q8, q9, q10, ⟨f0, CR_mono hC0 (by unfold bd; omega), hR0⟩, q12⟩
theorem opq0 {x : Int32} : opq 0 x ↔ isT x := ⟨fun h => by rcases h with h | h; exact h; exact absurd rfl h.1, fun h => Or.inl h⟩
theorem opq1 {x : Int32} : opq 1 x ↔ isA x := ⟨fun h => by rcases h with h | h; exact isT_A h; exact isP_A h.2, isA_opq⟩
theorem simRT {G0 G1 : GT4} {G2 G3 : GT3} (he : e ≤ 120) (hb : TBy b t) (hO : eHyp e b t 4 (fun _ => True) o (fun n l a u f b c => G1 n l a u f b c 3 (nI o))) : eHyp e b t 3 (fun x => ¬ isT x) o (fun n l a u f b c => b_X6_rowStands G0 G1 G2 G3 n l a u f b c 3 (nI o)) := by
  have h := rowE (G0 := G0) (G2 := G2) (G3 := G3) (kd := 3) (kdO := 4) (fl := 0) (p1 := 3) (opk := isT) (preO := fun _ => True) he hb ?_ ?_ (by decide) (by decide) ?_ ?_ ?_ ?_ ?_ rfl (by omega) hO (fun _ _ => trivial)
  · intro u k p m fault code na nc st h1 h2 h3 h4
    exact h u k p m fault code na nc st h1 h2 h3 (fun w => h4 (opq0.mp w))
  · intro c hc
    rw [f_X6_joins, if_neg (by decide), if_neg (by decide), if_neg (by decide), if_neg (fun w => hc (Or.inl w)), if_neg (fun w => hc (Or.inr (Or.inl w))), if_neg (fun w => hc (Or.inr (Or.inr w)))]
  · intro c hc
    rcases hc with h | h | h <;> subst h <;> decide
  · intro c hc
    refine ⟨isT_A hc, ?_, trivial, ?_⟩
    · rcases hc with h | h | h <;> subst h <;> decide
    · rcases hc with h | h | h <;> subst h <;> decide
  · intro j st m hp
    rcases hp with hp | hp | hp
    · exact absurd hp.1 (by omega)
    · exact ⟨by omega, fun i hi => Or.inl (hp.2.2 i hi)⟩
    · exact absurd hp.1 (by omega)
  · intro j st m hp hc
    rcases hp with hp | hp | hp
    · refine Or.inr (Or.inl ⟨rfl, by omega, fun i hi => ?_⟩)
      have : i = 0 := by omega
      subst this
      exact hc
    · exact absurd hp.1 (by omega)
    · exact absurd hp.1 (by omega)
  · intro j st m hp
    rcases hp with hp | hp | hp
    · exact Or.inr (Or.inl ⟨rfl, by omega, fun i hi => absurd hi (by omega)⟩)
    · exact absurd hp.1 (by omega)
    · exact absurd hp.1 (by omega)
  · intro h _ hc
    exact ⟨fun _ => hc, fun w => absurd w (by omega)⟩
theorem simRS {G0 G1 : GT4} {G2 G3 : GT3} (he : e ≤ 120) (hb : TBy b t) (hO : eHyp e b t 3 (fun x => ¬ isT x) o (fun n l a u f b c => G1 n l a u f b c 2 (nI o))) : eHyp e b t 2 (fun x => ¬ isA x) o (fun n l a u f b c => b_X6_rowStands G0 G1 G2 G3 n l a u f b c 2 (nI o)) := by
  have h := rowE (G0 := G0) (G2 := G2) (G3 := G3) (kd := 2) (kdO := 3) (fl := 1) (p1 := 2) (opk := isP) (preO := fun x => ¬ isT x) he hb ?_ ?_ (by decide) (by decide) ?_ ?_ ?_ ?_ ?_ rfl (by omega) hO (fun x hx w => hx (Or.inl w))
  · intro u k p m fault code na nc st h1 h2 h3 h4
    exact h u k p m fault code na nc st h1 h2 h3 (fun w => h4 (opq1.mp w))
  · intro c hc
    rw [f_X6_joins, if_neg (by decide), if_neg (by decide), if_pos (by decide), if_neg (fun w => hc (Or.inl w)), if_neg (fun w => hc (Or.inr w))]
  · intro c hc
    rcases hc with h | h <;> subst h <;> decide
  · intro c hc
    refine ⟨isP_A hc, ?_, ?_, ?_⟩
    · rcases hc with h | h <;> subst h <;> decide
    · rcases hc with h | h <;> subst h <;> unfold isT <;> decide
    · rcases hc with h | h <;> subst h <;> decide
  · intro j st m hp
    rcases hp with hp | hp | hp
    · exact absurd hp.1 (by omega)
    · exact absurd hp.1 (by omega)
    · exact ⟨hp.2.1, fun i hi => isA_opq (hp.2.2 i hi)⟩
  · intro j st m hp hc
    rcases hp with hp | hp | hp
    · exact absurd hp.1 (by omega)
    · refine Or.inr (Or.inr ⟨rfl, by omega, fun i hi => ?_⟩)
      by_cases d : i = 0
      · subst d; exact isP_A hc
      · have := hp.2.2 (i - 1) (by omega)
        rw [show m + 1 + (i - 1) = m + i by omega] at this
        exact isT_A this
    · exact absurd hp.1 (by omega)
  · intro j st m hp
    rcases hp with hp | hp | hp
    · exact absurd hp.1 (by omega)
    · exact Or.inr (Or.inr ⟨rfl, by omega, fun i hi => isT_A (hp.2.2 i hi)⟩)
    · exact absurd hp.1 (by omega)
  · intro h h1 hc
    refine ⟨fun w => absurd w (by omega), fun _ w => ?_⟩
    rcases isA_TP w with w | w
    · exact h1.1 rfl w
    · exact hc w
/-- an E of the class and of the reference -/
theorem simE (he : e ≤ 120) (hb : TBy b t) : ∀ (D o : Nat), o ≤ 6 →
    (1 + 5 * (6 - o) ≤ D → eHyp e b t 4 (fun _ => True) o (fun n l a u f b c => f_grp D 3 n l a u f b c (nI o) 0)) ∧
    (2 + 5 * (6 - o) ≤ D → eHyp e b t 4 (fun _ => True) o (fun n l a u f b c => f_grp D 1 n l a u f b c 3 (nI o))) ∧
    (3 + 5 * (6 - o) ≤ D → eHyp e b t 3 (fun x => ¬ isT x) o (fun n l a u f b c => f_grp D 0 n l a u f b c 3 (nI o))) ∧
    (4 + 5 * (6 - o) ≤ D → eHyp e b t 3 (fun x => ¬ isT x) o (fun n l a u f b c => f_grp D 1 n l a u f b c 2 (nI o))) ∧
    (5 + 5 * (6 - o) ≤ D → eHyp e b t 2 (fun x => ¬ isA x) o (fun n l a u f b c => f_grp D 0 n l a u f b c 2 (nI o))) := by
  intro D
  induction D with
  | zero => intro o ho; exact ⟨fun h => absurd h (by omega), fun h => absurd h (by omega), fun h => absurd h (by omega), fun h => absurd h (by omega), fun h => absurd h (by omega)⟩
  | succ D ih =>
    intro o ho
    obtain ⟨i1, i2, i3, i4, i5⟩ := ih o ho
    refine ⟨fun h => ?_, fun h => ?_, fun h => ?_, fun h => ?_, fun h => ?_⟩
    · intro u k p m fault code na nc st h1 h2 h3 h4
      show Sf (f_grp (D + 1) 3 200 (nI e) (nI p) (nI u) fault b code (nI o) 0) _
      rw [f_grp, if_neg (by decide), if_neg (by decide), if_neg (by decide), if_pos rfl]
      exact simF he hb ho (fun ho6 => (ih (o + 1) (by omega)).2.2.2.2 (by omega)) u k p m fault code na nc st h1 h2 h3 h4
    · intro u k p m fault code na nc st h1 h2 h3 h4
      show Sf (f_grp (D + 1) 1 200 (nI e) (nI p) (nI u) fault b code 3 (nI o)) _
      rw [f_grp, if_neg (by decide), if_pos rfl]
      exact simOT (i1 (by omega)) u k p m fault code na nc st h1 h2 h3 h4
    · intro u k p m fault code na nc st h1 h2 h3 h4
      show Sf (f_grp (D + 1) 0 200 (nI e) (nI p) (nI u) fault b code 3 (nI o)) _
      rw [f_grp, if_pos rfl]
      exact simRT he hb (i2 (by omega)) u k p m fault code na nc st h1 h2 h3 h4
    · intro u k p m fault code na nc st h1 h2 h3 h4
      show Sf (f_grp (D + 1) 1 200 (nI e) (nI p) (nI u) fault b code 2 (nI o)) _
      rw [f_grp, if_neg (by decide), if_pos rfl]
      exact simOS (i3 (by omega)) u k p m fault code na nc st h1 h2 h3 h4
    · intro u k p m fault code na nc st h1 h2 h3 h4
      show Sf (f_grp (D + 1) 0 200 (nI e) (nI p) (nI u) fault b code 2 (nI o)) _
      rw [f_grp, if_pos rfl]
      exact simRS he hb (i4 (by omega)) u k p m fault code na nc st h1 h2 h3 h4
end S5
end
section
/-! a C, read by both: the reference's steps -/
section S6
variable {e k o p m k' o' p' m' a j : Nat} {b t na nc st na' nc' st' : Nat → Int32}
theorem val_vL (ib : Int32) : f_X12_value (nI p) (nI e) 0 (nI k) (nI o) (nI m) ib na nc st t = vL e t FU 0 k o p m na nc st := rfl
theorem stay_end (he : e ≤ 120) (hp : a ≤ e) (hs : ¬ isA (hN t e a)) (hm : ¬ isA (tpN st m)) (hm2 : ¬ tpN st m = 91) (h1 : ∀ i, i < j → isA (st (m + i))) (h2 : k + j ≤ 120) (h3 : m + j < 160) (n : Nat) :
    (¬ hN t e a = 93 → vL e t (n + 1 + 1) 1 k o a (m + j) na nc st = some (nI a, 0, nI (k + j), nI o, nI m, 0, emC z0 m j na k, emC st m j nc k, st)) ∧ (hN t e a = 93 → vL e t (n + 1 + 1) 1 k o a (m + j) na nc st = some (nI a, badC 1 a, nI (k + j), nI o, nI m, 0, emC z0 m j na k, emC st m j nc k, st)) := by
  have hq : ¬ opq 1 (tpN st m) := fun w => hm (opq1.mp w)
  have hT : ¬ (hN t e a = 42 ∨ hN t e a = 47 ∨ hN t e a = 37) := fun w => hs (isT_A w)
  have hP : ¬ (hN t e a = 43 ∨ hN t e a = 45) := fun w => hs (isP_A w)
  constructor
  · intro hc
    have hst : f_X12_stays (nI a) (nI e) 0 (nI k) (nI o) (nI (m + j)) 0 na nc st t = some (0, nI a, 0, nI (k + j), nI o, nI m, 0, emC z0 m j na k, emC st m j nc k, st) := by
      rw [f_X12_stays, here_n he hp, cb1_o, isTimes_e, cb1_o, if_pos (by rw [bI_0]; exact hT), isPlus_e, cb1_o, if_pos (by rw [bI_0]; exact hP), sums_e hq (fun i hi => isA_opq (h1 i hi)) h2 (by omega), cb4_o, if_neg hc]
    rw [vL_1, f_X12_value_J29, isGood_0, cb1_o, if_neg (by decide), hst, cb10_o, if_pos rfl, f_X12_value_L7, if_pos rfl, f_X12_value_J57, isGood_0, cb1_o, if_neg (by decide), top_n (by omega), cb1_o, if_neg hm2]
  · intro hc
    have hst : f_X12_stays (nI a) (nI e) 0 (nI k) (nI o) (nI (m + j)) 0 na nc st t = some (0, nI a, badC 1 a, nI (k + j), nI o, nI m, 0, emC z0 m j na k, emC st m j nc k, st) := by
      rw [f_X12_stays, here_n he hp, cb1_o, isTimes_e, cb1_o, if_pos (by rw [bI_0]; exact hT), isPlus_e, cb1_o, if_pos (by rw [bI_0]; exact hP), sums_e hq (fun i hi => isA_opq (h1 i hi)) h2 (by omega), cb4_o, if_pos hc, top_n (by omega), cb1_o, if_neg hm2, wrongs_n, cb1_o]
    rw [vL_1, f_X12_value_J29, isGood_0, cb1_o, if_neg (by decide), hst, cb10_o, if_pos rfl, f_X12_value_L7, if_pos rfl, f_X12_value_J57, isGood_n (badC_ne (by decide) (by decide) (by omega)), cb1_o, if_pos rfl]
theorem val_run (ib : Int32) (he : e ≤ 120) (hp : a ≤ e) (h : vrun e t k o p m na nc st k' o a (m + j) na' nc' st') (hs : ¬ isA (hN t e a)) (hm : ¬ isA (tpN st' m)) (hm2 : ¬ tpN st' m = 91) (h1 : ∀ i, i < j → isA (st' (m + i))) (h2 : k' + j ≤ 120) (h3 : m + j < 160) :
    (¬ hN t e a = 93 → f_X12_value (nI p) (nI e) 0 (nI k) (nI o) (nI m) ib na nc st t = some (nI a, 0, nI (k' + j), nI o, nI m, 0, emC z0 m j na' k', emC st' m j nc' k', st')) ∧ (hN t e a = 93 → f_X12_value (nI p) (nI e) 0 (nI k) (nI o) (nI m) ib na nc st t = some (nI a, badC 1 a, nI (k' + j), nI o, nI m, 0, emC z0 m j na' k', emC st' m j nc' k', st')) := by
  obtain ⟨J, hJ, h⟩ := h
  obtain ⟨n, hn⟩ : ∃ n, FU = (n + 1) + 1 + J := ⟨FU - J - 2, by have := FU_ge; omega⟩
  rw [val_vL, hn, h (n + 1)]
  exact stay_end he hp hs hm hm2 h1 h2 h3 n
theorem val_bad {d : Int32} (ib : Int32) (he : e ≤ 120) (h : vbad e t k o p m na nc st d) : ∃ (p1 k1 o1 m1 ib1 : Int32) (na1 nc1 st1 : Nat → Int32), f_X12_value (nI p) (nI e) 0 (nI k) (nI o) (nI m) ib na nc st t = some (p1, d, k1, o1, m1, ib1, na1, nc1, st1) := by
  obtain ⟨J, p1, k1, o1, m1, ib1, na1, nc1, st1, hJ, h⟩ := h
  obtain ⟨n, hn⟩ : ∃ n, FU = n + 1 + J := ⟨FU - J - 1, by have := FU_ge; omega⟩
  exact ⟨p1, k1, o1, m1, ib1, na1, nc1, st1, by rw [val_vL, hn, h n]⟩
/-! signs that wait between pieces -/
def jq (fl x : Int32) : Prop := x = 38 ∨ (¬ fl = 0 ∧ x = 124)
theorem joins_n {fl : Int32} (hm : ¬ jq fl (tpN st m)) : ∀ (j n k : Nat) (na nc : Nat → Int32), (∀ i, i < j → jq fl (st (m + i))) → k + j ≤ 120 → m + j ≤ 160 → f_X12_joins_L0 0 st fl (n + j + 1) (nI k) (nI (m + j)) na nc = some (nI (k + j), nI m, emC z0 m j na k, emC st m j nc k) := by
  intro j
  induction j with
  | zero =>
    intro n k na nc h1 h2 h3
    rw [f_X12_joins_L0, Nat.add_zero, top_n (by omega), cb1_o, if_neg (fun w => hm (Or.inl w))]
    by_cases c : fl = 0
    · rw [if_pos c]; rfl
    · rw [if_neg c, cb1_o, if_neg (fun w => hm (Or.inr ⟨c, w⟩))]; rfl
  | succ j ih =>
    intro n k na nc h1 h2 h3
    have ht : tpN st (m + (j + 1)) = st (m + j) := by unfold tpN; rw [if_neg (by omega)]; rfl
    have J : f_X12_joins_J22 0 st (nI k) (nI (m + (j + 1))) na nc (f_X12_joins_L0 0 st fl (n + j + 1)) = some (nI (k + (j + 1)), nI m, emC z0 m (j + 1) na k, emC st m (j + 1) nc k) := by
      rw [f_X12_joins_J22, top_n (by omega), cb1_o, ht, emit_n (by omega), cb3_o, nmI_o, show m + (j + 1) = (m + j) + 1 by omega, nI_pred, ih n (k + 1) _ _ (fun i hi => h1 i (by omega)) (by omega) (by omega)]
      rw [show k + 1 + j = k + (j + 1) by omega]
      rfl
    rw [show n + (j + 1) + 1 = (n + j + 1) + 1 by omega, f_X12_joins_L0, top_n (by omega), cb1_o, ht]
    have h4 := h1 j (by omega)
    by_cases c : st (m + j) = 38
    · rw [if_pos c]; exact J
    · rw [if_neg c]
      rcases h4 with h4 | h4
      · exact absurd h4 c
      · rw [if_neg h4.1, cb1_o, if_pos h4.2]; exact J
theorem joins_e {fl : Int32} (hm : ¬ jq fl (tpN st m)) (h1 : ∀ i, i < j → jq fl (st (m + i))) (h2 : k + j ≤ 120) (h3 : m + j ≤ 160) : f_X12_joins 0 (nI k) (nI (m + j)) na nc st fl = some (nI (k + j), nI m, emC z0 m j na k, emC st m j nc k) := by
  obtain ⟨n, hn⟩ := FU_n j (by omega)
  rw [f_X12_joins, hn]
  exact joins_n hm j n k na nc h1 h2 h3
def k2 : Nat → Int32 := fun _ => 2
/-- r nots are emitted -/
theorem ends_n (hm : ¬ tpN st m = 33) : ∀ (r n k o : Nat) (na nc : Nat → Int32), (∀ i, i < r → st (m + i) = 33) → r ≤ o → k + r ≤ 120 → m + r ≤ 160 → f_X12_ends_L0 0 st (n + r + 1) (nI k) (nI o) (nI (m + r)) na nc = some (nI (k + r), nI (o - r), nI m, emC z0 m r na k, emC k2 m r nc k) := by
  intro r
  induction r with
  | zero =>
    intro n k o na nc h1 h2 h3 h4
    rw [f_X12_ends_L0, Nat.add_zero, top_n (by omega), cb1_o, if_neg hm]; rfl
  | succ r ih =>
    intro n k o na nc h1 h2 h3 h4
    have ht : tpN st (m + (r + 1)) = 33 := by unfold tpN; rw [if_neg (by omega)]; exact h1 r (by omega)
    obtain ⟨o1, rfl⟩ : ∃ o1, o = o1 + 1 := ⟨o - 1, by omega⟩
    rw [show n + (r + 1) + 1 = (n + r + 1) + 1 by omega, f_X12_ends_L0, top_n (by omega), cb1_o, ht, if_pos rfl, emit_n (by omega), cb3_o, nmI_o, nmI_o, show m + (r + 1) = (m + r) + 1 by omega, nI_pred, nI_pred, ih n (k + 1) o1 _ _ (fun i hi => h1 i (by omega)) (by omega) (by omega) (by omega)]
    rw [show k + 1 + r = k + (r + 1) by omega, show o1 + 1 - (r + 1) = o1 - r by omega]
    rfl
theorem ends_e {r : Nat} (hm : ¬ tpN st m = 33) (h1 : ∀ i, i < r → st (m + i) = 33) (h2 : r ≤ o) (h3 : k + r ≤ 120) (h4 : m + r ≤ 160) : f_X12_ends 0 (nI k) (nI o) (nI (m + r)) na nc st = some (nI (k + r), nI (o - r), nI m, emC z0 m r na k, emC k2 m r nc k) := by
  obtain ⟨n, hn⟩ := FU_n r (by omega)
  rw [f_X12_ends, hn]
  exact ends_n hm r n k o na nc h1 h2 h3 h4
/-! brackets and nots that open ahead of a piece -/
section PL
variable {K : Int32 → Int32 → Int32 → Int32 → (Nat → Int32) → Option (Int32 × Int32 × Int32 × Int32 × Int32 × Int32 × (Nat → Int32) × (Nat → Int32) × (Nat → Int32))} {c : Int32}
theorem piL_J (hc : c = 33 ∨ c = 40) (he : e ≤ 120) (hp : p ≤ e) (hh : hN t e p = c) (n : Nat) : f_X12_pieceOfC_L0 (nI e) t K (n + 1) 0 (nI o) (nI p) (nI m) st = f_X12_pieceOfC_J25 (nI e) t 0 (nI o) (nI p) (nI m) st (f_X12_pieceOfC_L0 (nI e) t K n) := by
  rw [f_X12_pieceOfC_L0, isGood_0, cb1_o, if_neg (by decide), here_n he hp, cb1_o, hh]
  rcases hc with h | h
  · rw [if_pos h]
  · rw [if_neg (by rw [h]; decide), cb1_o, if_pos h]
theorem piL_open (hc : c = 33 ∨ c = 40) (he : e ≤ 120) (hp : p ≤ e) (hh : hN t e p = c) (ho : o < 6) (hm : m < 160) (n : Nat) : f_X12_pieceOfC_L0 (nI e) t K (n + 1) 0 (nI o) (nI p) (nI m) st = f_X12_pieceOfC_L0 (nI e) t K n 0 (nI (o + 1)) (nI (p + 1)) (nI (m + 1)) (upd st m c) := by
  rw [piL_J hc he hp hh, f_X12_pieceOfC_J25, opens_n he hp hh ho hm, cb5_o]
theorem piL_deep (hc : c = 33 ∨ c = 40) (he : e ≤ 120) (hp : p ≤ e) (hh : hN t e p = c) (hm : m < 160) (n : Nat) : f_X12_pieceOfC_L0 (nI e) t K (n + 2) 0 (nI 6) (nI p) (nI m) st = K (badC 5 p) (nI 7) (nI (p + 1)) (nI (m + 1)) (upd st m c) := by
  rw [show n + 2 = (n + 1) + 1 by omega, piL_J hc he hp hh, f_X12_pieceOfC_J25, opens_6 he hp hh hm, cb5_o, f_X12_pieceOfC_L0, isGood_n (badC_ne (by decide) (by decide) (by omega)), cb1_o, if_pos rfl]
theorem piL_stop (he : e ≤ 120) (hp : p ≤ e) (h1 : ¬ hN t e p = 33) (h2 : ¬ hN t e p = 40) (n : Nat) : f_X12_pieceOfC_L0 (nI e) t K (n + 1) 0 (nI o) (nI p) (nI m) st = K 0 (nI o) (nI p) (nI m) st := by
  rw [f_X12_pieceOfC_L0, isGood_0, cb1_o, if_neg (by decide), here_n he hp, cb1_o, if_neg h1, cb1_o, if_neg h2]
theorem piL_fuel (he : e ≤ 120) : ∀ (i n n' o p m : Nat) (st : Nat → Int32), o + i = 6 → p ≤ e → m + i < 160 → f_X12_pieceOfC_L0 (nI e) t K (n + i + 2) 0 (nI o) (nI p) (nI m) st = f_X12_pieceOfC_L0 (nI e) t K (n' + i + 2) 0 (nI o) (nI p) (nI m) st := by
  intro i
  induction i with
  | zero =>
    intro n n' o p m st h1 h2 h3
    have ho : o = 6 := by omega
    subst ho
    by_cases c : hN t e p = 33 ∨ hN t e p = 40
    · rw [Nat.add_zero, Nat.add_zero, piL_deep c he h2 rfl (by omega), piL_deep c he h2 rfl (by omega)]
    · rw [show n + 0 + 2 = (n + 1) + 1 by omega, show n' + 0 + 2 = (n' + 1) + 1 by omega, piL_stop he h2 (fun w => c (Or.inl w)) (fun w => c (Or.inr w)), piL_stop he h2 (fun w => c (Or.inl w)) (fun w => c (Or.inr w))]
  | succ i ih =>
    intro n n' o p m st h1 h2 h3
    by_cases c : hN t e p = 33 ∨ hN t e p = 40
    · have hlt : p < e := hN_lt (t := t) (fun w => by rw [w] at c; revert c; decide)
      rw [show n + (i + 1) + 2 = (n + i + 2) + 1 by omega, show n' + (i + 1) + 2 = (n' + i + 2) + 1 by omega, piL_open c he h2 rfl (by omega) (by omega), piL_open c he h2 rfl (by omega) (by omega)]
      exact ih n n' (o + 1) (p + 1) (m + 1) _ (by omega) (by omega) (by omega)
    · rw [show n + (i + 1) + 2 = (n + i + 2) + 1 by omega, show n' + (i + 1) + 2 = (n' + i + 2) + 1 by omega, piL_stop he h2 (fun w => c (Or.inl w)) (fun w => c (Or.inr w)), piL_stop he h2 (fun w => c (Or.inl w)) (fun w => c (Or.inr w))]
end PL
theorem pi_open {c ib : Int32} (hc : c = 33 ∨ c = 40) (he : e ≤ 120) (hp : p < e) (hh : hN t e p = c) (ho : o < 6) (hm : m < 150) : f_X12_pieceOfC (nI p) (nI e) 0 (nI k) (nI o) (nI m) ib na nc st t = f_X12_pieceOfC (nI (p + 1)) (nI e) 0 (nI k) (nI (o + 1)) (nI (m + 1)) ib na nc (upd st m c) t := by
  obtain ⟨n, hn⟩ : ∃ n, FU = (n + (5 - o) + 2) + 1 := ⟨FU - (5 - o) - 3, by have := FU_ge; omega⟩
  rw [f_X12_pieceOfC, f_X12_pieceOfC]
  have h1 : f_X12_pieceOfC_L0 (nI e) t (f_X12_pieceOfC_J32 (nI e) (nI k) ib na nc t) FU 0 (nI o) (nI p) (nI m) st = f_X12_pieceOfC_L0 (nI e) t (f_X12_pieceOfC_J32 (nI e) (nI k) ib na nc t) (n + (5 - o) + 2) 0 (nI (o + 1)) (nI (p + 1)) (nI (m + 1)) (upd st m c) := by
    rw [hn]; exact piL_open hc he (by omega) hh ho (by omega) _
  have h2 : f_X12_pieceOfC_L0 (nI e) t (f_X12_pieceOfC_J32 (nI e) (nI k) ib na nc t) FU 0 (nI (o + 1)) (nI (p + 1)) (nI (m + 1)) (upd st m c) = f_X12_pieceOfC_L0 (nI e) t (f_X12_pieceOfC_J32 (nI e) (nI k) ib na nc t) (n + (5 - o) + 2) 0 (nI (o + 1)) (nI (p + 1)) (nI (m + 1)) (upd st m c) := by
    rw [hn, show n + (5 - o) + 2 + 1 = (n + 1) + (5 - o) + 2 by omega]
    exact piL_fuel he (5 - o) (n + 1) n (o + 1) (p + 1) (m + 1) _ (by omega) (by omega) (by omega)
  rw [h1, h2]
theorem pi_deep {c ib : Int32} (hc : c = 33 ∨ c = 40) (he : e ≤ 120) (hp : p < e) (hh : hN t e p = c) (hm : m < 150) : f_X12_pieceOfC (nI p) (nI e) 0 (nI k) (nI 6) (nI m) ib na nc st t = some (nI (p + 1), badC 5 p, nI k, nI 7, nI (m + 1), ib, na, nc, upd st m c) := by
  obtain ⟨n, hn⟩ : ∃ n, FU = n + 2 := ⟨FU - 2, by have := FU_ge; omega⟩
  have hg := isGood_n (badC_ne (f := 5) (a := p) (by decide) (by decide) (by omega))
  rw [f_X12_pieceOfC, hn, piL_deep hc he (by omega) hh (by omega), f_X12_pieceOfC_J32, hg, cb1_o, if_pos rfl, f_X12_pieceOfC_J43, hg, cb1_o, if_pos rfl]
theorem pi_stop {ib : Int32} (he : e ≤ 120) (hp : p ≤ e) (h1 : ¬ hN t e p = 33) (h2 : ¬ hN t e p = 40) : f_X12_pieceOfC (nI p) (nI e) 0 (nI k) (nI o) (nI m) ib na nc st t = cb9 (f_X12_value (nI p) (nI e) 0 (nI k) (nI o) (nI m) ib na nc st t) (fun p1 d1 k1 o1 m1 ib1 na1 nc1 st1 => f_X12_pieceOfC_J43 (nI e) t d1 k1 ib1 o1 p1 m1 na1 nc1 st1) := by
  obtain ⟨n, hn⟩ : ∃ n, FU = n + 1 := ⟨FU - 1, by have := FU_ge; omega⟩
  rw [f_X12_pieceOfC, hn, piL_stop he hp h1 h2, f_X12_pieceOfC_J32, isGood_0, cb1_o, if_neg (by decide)]
/-! the loop of a C -/
noncomputable def dL (e : Nat) (t : Nat → Int32) (n : Nat) (mo ib : Int32) (k o p m : Nat) (na nc st : Nat → Int32) : Option (Int32 × Int32 × Int32 × Int32 × Int32 × Int32 × Int32 × (Nat → Int32) × (Nat → Int32) × (Nat → Int32)) := f_X12_condition_L37 (nI e) t n mo 0 (nI k) ib 0 (nI o) (nI p) (nI m) na nc st
def drun (e : Nat) (t : Nat → Int32) (k o p m : Nat) (na nc st : Nat → Int32) (k' o' p' m' : Nat) (na' nc' st' : Nat → Int32) : Prop := ∃ J : Nat, J + p ≤ p' ∧ ∀ ib : Int32, ∃ ib' : Int32, ∀ n : Nat, dL e t (n + 1 + J) 1 ib k o p m na nc st = dL e t (n + 1) 0 ib' k' o' p' m' na' nc' st'
def dbad (e : Nat) (t : Nat → Int32) (k o p m : Nat) (na nc st : Nat → Int32) (d : Int32) : Prop := ∃ J : Nat, J + p ≤ e + 1 ∧ ∀ ib : Int32, ∃ (p' k' o' m' ov ib' : Int32) (na' nc' st' : Nat → Int32), ∀ n : Nat, dL e t (n + 1 + J) 1 ib k o p m na nc st = some (p', d, k', o', m', ov, ib', na', nc', st')
theorem dL_1 (ib : Int32) (n : Nat) : dL e t (n + 1) 1 ib k o p m na nc st = cb9 (f_X12_pieceOfC (nI p) (nI e) 0 (nI k) (nI o) (nI m) ib na nc st t) (fun p1 d1 k1 o1 m1 ib1 na1 nc1 st1 => f_X12_condition_J59 (nI e) t 1 0 (f_X12_condition_L37 (nI e) t n) d1 k1 ib1 o1 p1 m1 na1 nc1 st1) := by
  unfold dL
  rw [f_X12_condition_L37, isGood_0, cb1_o, if_neg (by decide), if_pos rfl, if_neg (by decide)]
theorem dL_0 (ib : Int32) (n : Nat) : dL e t (n + 1) 0 ib k o p m na nc st = cb10 (f_X12_goesBehind (nI p) (nI e) 0 (nI k) (nI o) (nI m) 0 na nc st t) (fun r p1 d1 k1 o1 m1 ov1 na1 nc1 st1 => f_X12_condition_L37 (nI e) t n r d1 k1 ib ov1 o1 p1 m1 na1 nc1 st1) := by
  unfold dL
  rw [f_X12_condition_L37, isGood_0, cb1_o, if_neg (by decide), if_pos rfl, if_pos rfl, f_X12_condition_J59, isGood_0, cb1_o, if_neg (by decide)]
theorem drun_pi (hpp : p ≤ p') (hf : ∀ ib : Int32, ∃ ib' : Int32, f_X12_pieceOfC (nI p) (nI e) 0 (nI k) (nI o) (nI m) ib na nc st t = some (nI p', 0, nI k', nI o', nI m', ib', na', nc', st')) : drun e t k o p m na nc st k' o' p' m' na' nc' st' := by
  refine ⟨0, by omega, fun ib => ?_⟩
  obtain ⟨ib', h⟩ := hf ib
  refine ⟨ib', fun n => ?_⟩
  rw [Nat.add_zero, dL_1, h, cb9_o, f_X12_condition_J59, isGood_0, cb1_o, if_neg (by decide), dL_0]
theorem dbad_pi {d : Int32} (hpe : p ≤ e) (hd : ¬ d = 0) (hf : ∀ ib : Int32, ∃ (p1 k1 o1 m1 ib1 : Int32) (na1 nc1 st1 : Nat → Int32), f_X12_pieceOfC (nI p) (nI e) 0 (nI k) (nI o) (nI m) ib na nc st t = some (p1, d, k1, o1, m1, ib1, na1, nc1, st1)) : dbad e t k o p m na nc st d := by
  refine ⟨1, by omega, fun ib => ?_⟩
  obtain ⟨p1, k1, o1, m1, ib1, na1, nc1, st1, h⟩ := hf ib
  refine ⟨p1, k1, o1, m1, 0, ib1, na1, nc1, st1, fun n => ?_⟩
  rw [dL_1, h, cb9_o, f_X12_condition_J59, isGood_n hd, cb1_o, if_pos rfl, f_X12_condition_L37, isGood_n hd, cb1_o, if_pos rfl]
theorem drun_open {c : Int32} (hc : c = 33 ∨ c = 40) (he : e ≤ 120) (hp : p < e) (hh : hN t e p = c) (ho : o < 6) (hm : m < 150) (h : drun e t k (o + 1) (p + 1) (m + 1) na nc (upd st m c) k' o' p' m' na' nc' st') : drun e t k o p m na nc st k' o' p' m' na' nc' st' := by
  obtain ⟨J, hJ, h⟩ := h
  refine ⟨J, by omega, fun ib => ?_⟩
  obtain ⟨ib', h⟩ := h ib
  refine ⟨ib', fun n => ?_⟩
  rw [← h n, show n + 1 + J = (n + J) + 1 by omega, dL_1, dL_1, pi_open hc he hp hh ho hm]
theorem dbad_open {c d : Int32} (hc : c = 33 ∨ c = 40) (he : e ≤ 120) (hp : p < e) (hh : hN t e p = c) (ho : o < 6) (hm : m < 150) (h : dbad e t k (o + 1) (p + 1) (m + 1) na nc (upd st m c) d) : dbad e t k o p m na nc st d := by
  obtain ⟨J, hJ, h⟩ := h
  refine ⟨J, by omega, fun ib => ?_⟩
  obtain ⟨p1, k1, o1, m1, ov, ib1, na1, nc1, st1, h⟩ := h ib
  refine ⟨p1, k1, o1, m1, ov, ib1, na1, nc1, st1, fun n => ?_⟩
  rw [← h n, show n + 1 + J = (n + J) + 1 by omega, dL_1, dL_1, pi_open hc he hp hh ho hm]
/-- an & or a | behind a piece -/
theorem go_join {c fl : Int32} (he : e ≤ 120) (hp : a < e) (hc : hN t e a = c) (hcc : (c = 38 ∧ fl = 0) ∨ (c = 124 ∧ fl = 1)) (hm : ¬ jq fl (tpN st m)) (h1 : ∀ i, i < j → jq fl (st (m + i))) (h2 : k + j ≤ 120) (h3 : m + j < 160) (ib : Int32) (n : Nat) :
    dL e t (n + 1) 0 ib k o a (m + j) na nc st = dL e t n 1 ib (k + j) o (a + 1) (m + 1) (emC z0 m j na k) (emC st m j nc k) (upd st m c) := by
  have hJ : f_X12_goesBehind_J29 st c 0 (nI k) 0 (nI o) (nI a) (nI (m + j)) na nc fl = some (1, nI (a + 1), 0, nI (k + j), nI o, nI (m + 1), 0, emC z0 m j na k, emC st m j nc k, upd st m c) := by
    rw [f_X12_goesBehind_J29, joins_e hm h1 h2 (by omega), cb4_o, puts_n (by omega), cb3_o]
  have hs : f_X12_goesBehind (nI a) (nI e) 0 (nI k) (nI o) (nI (m + j)) 0 na nc st t = some (1, nI (a + 1), 0, nI (k + j), nI o, nI (m + 1), 0, emC z0 m j na k, emC st m j nc k, upd st m c) := by
    rw [f_X12_goesBehind, here_n he (by omega), cb1_o, hc]
    rcases hcc with ⟨d1, d2⟩ | ⟨d1, d2⟩
    · subst d2; rw [if_pos d1, f_X12_goesBehind_J17, if_neg (by rw [d1]; decide)]; exact hJ
    · subst d2; rw [if_neg (by rw [d1]; decide), if_pos d1, f_X12_goesBehind_J17, if_pos d1]; exact hJ
  rw [dL_0, hs, cb10_o]
  rfl
theorem drun_op {k3 o3 p3 m3 : Nat} {na3 nc3 st3 : Nat → Int32} {k2' o2 m2 : Nat} {na2 nc2 st2 : Nat → Int32} (h : drun e t k o p m na nc st k' o' a m' na' nc' st') (hs : ∀ (ib : Int32) (n : Nat), dL e t (n + 1) 0 ib k' o' a m' na' nc' st' = dL e t n 1 ib k2' o2 (a + 1) m2 na2 nc2 st2) (h2 : drun e t k2' o2 (a + 1) m2 na2 nc2 st2 k3 o3 p3 m3 na3 nc3 st3) : drun e t k o p m na nc st k3 o3 p3 m3 na3 nc3 st3 := by
  obtain ⟨J, hJ, h⟩ := h
  obtain ⟨J2, hJ2, h2⟩ := h2
  refine ⟨J + J2 + 1, by omega, fun ib => ?_⟩
  obtain ⟨ib1, h⟩ := h ib
  obtain ⟨ib2, h2⟩ := h2 ib1
  refine ⟨ib2, fun n => ?_⟩
  rw [show n + 1 + (J + J2 + 1) = (n + 1 + J2) + 1 + J by omega, h (n + 1 + J2), hs ib1 (n + 1 + J2), h2 n]
theorem dbad_op {d : Int32} {k2' o2 m2 : Nat} {na2 nc2 st2 : Nat → Int32} (h : drun e t k o p m na nc st k' o' a m' na' nc' st') (hs : ∀ (ib : Int32) (n : Nat), dL e t (n + 1) 0 ib k' o' a m' na' nc' st' = dL e t n 1 ib k2' o2 (a + 1) m2 na2 nc2 st2) (h2 : dbad e t k2' o2 (a + 1) m2 na2 nc2 st2 d) : dbad e t k o p m na nc st d := by
  obtain ⟨J, hJ, h⟩ := h
  obtain ⟨J2, hJ2, h2⟩ := h2
  refine ⟨J + J2 + 1, by omega, fun ib => ?_⟩
  obtain ⟨ib1, h⟩ := h ib
  obtain ⟨p1, k1, o1, m1, ov, ib2, na1, nc1, st1, h2⟩ := h2 ib1
  refine ⟨p1, k1, o1, m1, ov, ib2, na1, nc1, st1, fun n => ?_⟩
  rw [show n + 1 + (J + J2 + 1) = (n + 1 + J2) + 1 + J by omega, h (n + 1 + J2), hs ib1 (n + 1 + J2), h2 n]
/-- a bracket closes behind a C that stands in another -/
theorem go_close {r : Nat} (he : e ≤ 120) (hp : a < e) (hc : hN t e a = 41) (hm : st (m + r) = 40) (hmr : 0 < m + r) (hb : ¬ tpN st m = 33) (hr : ∀ i, i < r → st (m + i) = 33) (hro : r + 1 ≤ o) (h1 : ∀ i, i < j → jq 1 (st (m + r + 1 + i))) (h2 : k + j + r ≤ 120) (h3 : m + r + 1 + j < 160) (ib : Int32) (n : Nat) :
    dL e t (n + 1) 0 ib k o a (m + r + 1 + j) na nc st = dL e t n 0 ib (k + j + r) (o - 1 - r) (a + 1) m (emC z0 m r (emC z0 (m + r + 1) j na k) (k + j)) (emC k2 m r (emC st (m + r + 1) j nc k) (k + j)) st := by
  have ht : tpN st (m + r + 1) = 40 := by unfold tpN; rw [if_neg (by omega)]; exact hm
  have hq : ¬ jq 1 (tpN st (m + r + 1)) := by
    rw [ht]
    rintro (h | h)
    · exact absurd h (by decide)
    · exact absurd h.2 (by decide)
  obtain ⟨o1, rfl⟩ : ∃ o1, o = o1 + 1 := ⟨o - 1, by omega⟩
  have hne : ¬ nI (m + r) = 0 := nI_ne0 (by omega) (by omega)
  have hs : f_X12_goesBehind (nI a) (nI e) 0 (nI k) (nI (o1 + 1)) (nI (m + r + 1 + j)) 0 na nc st t = some (0, nI (a + 1), 0, nI (k + j + r), nI (o1 - r), nI m, 0, emC z0 m r (emC z0 (m + r + 1) j na k) (k + j), emC k2 m r (emC st (m + r + 1) j nc k) (k + j), st) := by
    rw [f_X12_goesBehind, here_n he (by omega), cb1_o, hc, if_neg (by decide), if_neg (by decide), if_pos rfl, joins_e hq h1 (by omega) (by omega), cb4_o, nmI_o, nmI_o, nmI_o, nI_pred, nI_pred, nI_1, if_neg hne, f_X12_goesBehind_J104]
    unfold bo
    rw [if_pos (Or.inl rfl), if_pos rfl, ends_e hb hr (by omega) (by omega) (by omega), cb5_o]
  rw [dL_0, hs, cb10_o, show o1 + 1 - 1 - r = o1 - r by omega]
  rfl
theorem drun_close {k2' o2 m2 : Nat} {na2 nc2 st2 : Nat → Int32} (h : drun e t k o p m na nc st k' o' a m' na' nc' st') (hs : ∀ (ib : Int32) (n : Nat), dL e t (n + 1) 0 ib k' o' a m' na' nc' st' = dL e t n 0 ib k2' o2 (a + 1) m2 na2 nc2 st2) : drun e t k o p m na nc st k2' o2 (a + 1) m2 na2 nc2 st2 := by
  obtain ⟨J, hJ, h⟩ := h
  refine ⟨J + 1, by omega, fun ib => ?_⟩
  obtain ⟨ib1, h⟩ := h ib
  refine ⟨ib1, fun n => ?_⟩
  rw [show n + 1 + (J + 1) = (n + 1) + 1 + J by omega, h (n + 1), hs ib1 (n + 1)]
/-- what can't stand behind a piece -/
theorem go_wrong (he : e ≤ 120) (hp : a ≤ e) (h1 : ¬ hN t e a = 38) (h2 : ¬ hN t e a = 124) (h3 : ¬ hN t e a = 41) (ib : Int32) (n : Nat) : dL e t (n + 1 + 1) 0 ib k o a m na nc st = some (nI a, badC 1 a, nI k, nI o, nI m, 0, ib, na, nc, st) := by
  rw [dL_0, f_X12_goesBehind, here_n he hp, cb1_o, if_neg h1, if_neg h2, if_neg h3, wrongs_n, cb1_o, cb10_o, f_X12_condition_L37, isGood_n (badC_ne (by decide) (by decide) (by omega)), cb1_o, if_pos rfl]
theorem dbad_wrong (hae : a ≤ e) (he : e ≤ 120) (h : drun e t k o p m na nc st k' o' a m' na' nc' st') (h1 : ¬ hN t e a = 38) (h2 : ¬ hN t e a = 124) (h3 : ¬ hN t e a = 41) : dbad e t k o p m na nc st (badC 1 a) := by
  obtain ⟨J, hJ, h⟩ := h
  refine ⟨J + 1, by omega, fun ib => ?_⟩
  obtain ⟨ib1, h⟩ := h ib
  refine ⟨nI a, nI k', nI o', nI m', 0, ib1, na', nc', st', fun n => ?_⟩
  rw [show n + 1 + (J + 1) = (n + 1) + 1 + J by omega, h (n + 1)]
  exact go_wrong he hae h1 h2 h3 ib1 n
end S6
end
section
/-! a piece -/
def sNots : Nat → Sem → Sem
  | 0, f => f
  | r + 1, f => sNots r (sNot f)
def bc (o : Nat) : Nat := 4 + 2 * (6 - o)
theorem RR_nots {m : Nat} : ∀ {r : Nat} {nc na : Nat → Int32} {k L : Nat} {f : Sem}, RR nc na k L f → RR (emC k2 m r nc (k + L)) (emC z0 m r na (k + L)) k (L + r) (sNots r f) := by
  intro r
  induction r with
  | zero => intro nc na k L f h; exact h
  | succ r ih =>
    intro nc na k L f h
    have h1 : RR (upd nc (k + L) 2) (upd na (k + L) 0) k (L + 1) (sNot f) := RR_not (RR_congr h (fun i hi => ⟨upd_n (by omega), upd_n (by omega)⟩)) (upd_s _ _ _)
    have h2 := ih h1
    rw [show k + (L + 1) = k + L + 1 by omega, show L + 1 + r = L + (r + 1) by omega] at h2
    exact h2
def baseC (x : Int32) : Prop := x = 40 ∨ x = 38 ∨ x = 124
theorem baseC_n {x : Int32} (h : baseC x) : ¬ x = 33 ∧ ¬ isA x ∧ ¬ x = 91 ∧ ¬ x = 0 := by
  rcases h with h | h | h <;> subst h <;> unfold isA <;> decide
def pOK (e : Nat) (t : Nat → Int32) (code0 : Nat → Int32) (u k o p w r : Nat) (na nc st : Nat → Int32) (a k' : Nat) (na' nc' st' : Nat → Int32) (us : Int32) (code' : Nat → Int32) : Prop :=
  p < a ∧ a ≤ e ∧ k + r ≤ k' ∧ k' + p ≤ a + k + r ∧ drun e t k o p (w + r) na nc st k' (o - r) a w na' nc' st' ∧ (∀ i, i < w → st' i = st i) ∧ us = nI (u + (k' - k - r)) ∧ (∀ i, i < u → code' i = code0 i) ∧ (∀ i, i < k → nc' i = nc i ∧ na' i = na i) ∧ ∃ f : Sem, isBoo f ∧ CR code' u (k' - k - r) (bc o) f ∧ RR nc' na' k (k' - k) (sNots r f)
def pPost (e : Nat) (t : Nat → Int32) (code0 : Nat → Int32) (u k o p w r : Nat) (na nc st : Nat → Int32) (y : Int32 × Int32 × Int32 × Int32 × (Nat → Int32)) : Prop :=
  (y.1 = 0 ∧ ∃ a : Nat, y.2.1 = nI a ∧ a ≤ e ∧ (1 ≤ y.2.2.2.1.toInt ∧ y.2.2.2.1.toInt ≤ 9) ∧ dbad e t k o p (w + r) na nc st (badC y.2.2.2.1 a)) ∨
  (y.1 = 1 ∧ ∃ a u' : Nat, y.2.1 = nI a ∧ a ≤ e ∧ y.2.2.1 = nI u' ∧ u' ≤ 120 ∧ hN t e a = 93 ∧ dbad e t k o p (w + r) na nc st (badC 1 a)) ∨
  (y.1 = 1 ∧ ∃ (a k' : Nat) (na' nc' st' : Nat → Int32), y.2.1 = nI a ∧ pOK e t code0 u k o p w r na nc st a k' na' nc' st' y.2.2.1 y.2.2.2.2)
def pHyp (e : Nat) (b t : Nat → Int32) (o : Nat) (G : Nat → Int32 → Int32 → Int32 → Int32 → (Nat → Int32) → (Nat → Int32) → Option (Int32 × Int32 × Int32 × Int32 × (Nat → Int32))) : Prop :=
  ∀ (u k p w r : Nat) (fault : Int32) (code na nc st : Nat → Int32), k + (w + r) ≤ p → p ≤ e → u ≤ p → r ≤ o → baseC (tpN st w) → (∀ i, i < r → st (w + i) = 33) → Sf (G 200 (nI e) (nI p) (nI u) fault b code) (pPost e t code u k o p w r na nc st)
def pendC (kd j : Nat) (st : Nat → Int32) (m : Nat) : Prop := (kd = 5 ∧ j = 0) ∨ (kd = 1 ∧ j ≤ 1 ∧ ∀ i, i < j → st (m + i) = 38) ∨ (kd = 0 ∧ j ≤ 2 ∧ ∀ i, i < j → (st (m + i) = 38 ∨ st (m + i) = 124))
def stopC (kd : Nat) (h : Int32) : Prop := (kd = 1 → ¬ h = 38) ∧ (kd = 0 → ¬ h = 38 ∧ ¬ h = 124)
def cOK (e : Nat) (t : Nat → Int32) (kd pd : Nat) (code0 : Nat → Int32) (u k o p m : Nat) (na nc st : Nat → Int32) (a k' j : Nat) (na' nc' st' : Nat → Int32) (us : Int32) (code' : Nat → Int32) : Prop :=
  p < a ∧ a ≤ e ∧ k ≤ k' ∧ k' + j + p ≤ a + k ∧ drun e t k o p m na nc st k' o a (m + j) na' nc' st' ∧ (∀ i, i < m → st' i = st i) ∧ pendC pd j st' m ∧ us = nI (u + (k' + j - k)) ∧ (∀ i, i < u → code' i = code0 i) ∧ (∀ i, i < k → nc' i = nc i ∧ na' i = na i) ∧ (∃ f : Sem, isBoo f ∧ CR code' u (k' + j - k) (bc o) f ∧ RR (emC st' m j nc' k') (emC z0 m j na' k') k (k' + j - k) f) ∧ stopC kd (hN t e a)
def cPost (e : Nat) (t : Nat → Int32) (kd : Nat) (code0 : Nat → Int32) (u k o p m : Nat) (na nc st : Nat → Int32) (y : Int32 × Int32 × Int32 × Int32 × (Nat → Int32)) : Prop :=
  (y.1 = 0 ∧ ∃ a : Nat, y.2.1 = nI a ∧ a ≤ e ∧ (1 ≤ y.2.2.2.1.toInt ∧ y.2.2.2.1.toInt ≤ 9) ∧ dbad e t k o p m na nc st (badC y.2.2.2.1 a)) ∨
  (y.1 = 1 ∧ ∃ a u' : Nat, y.2.1 = nI a ∧ a ≤ e ∧ y.2.2.1 = nI u' ∧ u' ≤ 120 ∧ hN t e a = 93 ∧ dbad e t k o p m na nc st (badC 1 a)) ∨
  (y.1 = 1 ∧ ∃ (a k' j : Nat) (na' nc' st' : Nat → Int32), y.2.1 = nI a ∧ cOK e t kd kd code0 u k o p m na nc st a k' j na' nc' st' y.2.2.1 y.2.2.2.2)
def cHyp (e : Nat) (b t : Nat → Int32) (kd o : Nat) (pre : Int32 → Prop) (G : Nat → Int32 → Int32 → Int32 → Int32 → (Nat → Int32) → (Nat → Int32) → Option (Int32 × Int32 × Int32 × Int32 × (Nat → Int32))) : Prop :=
  ∀ (u k p m : Nat) (fault : Int32) (code na nc st : Nat → Int32), k + m ≤ p → p ≤ e → u ≤ p → pre (tpN st m) → Sf (G 200 (nI e) (nI p) (nI u) fault b code) (cPost e t kd code u k o p m na nc st)
theorem put_any {u : Nat} {code : Nat → Int32} {c x : Int32} (h : u ≤ 120) : Sf (f_X6_put (nI u) code c x) (fun y => ∃ u' : Nat, y.1 = nI u' ∧ u' ≤ 120) := by
  by_cases d : u < 120
  · rw [put_n d]; exact Sf_some ⟨u + 1, rfl, by omega⟩
  · have e : u = 120 := by omega
    subst e
    rw [f_X6_put, if_pos (by decide)]
    exact Sf_some ⟨120, rfl, by omega⟩
section S7
variable {e o : Nat} {b t : Nat → Int32}
theorem sign_e (c : Int32) : f_X12_isSign c = some (bI (c = 60 ∨ c = 62 ∨ c = 61)) := isSign_e c
set_option maxHeartbeats 4000000 in
theorem simP {G0 G1 : GT4} {G2 G3 : GT3} (he : e ≤ 120) (hb : TBy b t) (ho : o ≤ 6) (hC : o < 6 → cHyp e b t 0 (o + 1) (fun x => x = 40) (fun n l a u f b c => G0 n l a u f b c 0 (nI (o + 1)))) (hP : o < 6 → pHyp e b t (o + 1) (fun n l a u f b c => G2 n l a u f b c (nI (o + 1)))) (hE : eHyp e b t 2 (fun x => ¬ isA x) o (fun n l a u f b c => G0 n l a u f b c 2 (nI o))) : pHyp e b t o (fun n l a u f b c => b_X6_pieceStands G0 G1 G2 G3 n l a u f b c (nI o)) := by
  intro u k p w r fault code na nc st hkm hpe hup hro hbase hnots
  show Sf (b_X6_pieceStands G0 G1 G2 G3 200 (nI e) (nI p) (nI u) fault b code (nI o)) _
  obtain ⟨hb1, hb2, hb3, hb4⟩ := baseC_n hbase
  have hw : 0 < w := by
    by_cases c : w = 0
    · subst c; exact absurd rfl hb4
    · omega
  have htr : ∀ st' : Nat → Int32, (∀ i, i < w + r → st' i = st i) → tpN st' (w + r) = 33 ∨ baseC (tpN st' (w + r)) := by
    intro st' hst
    by_cases c : r = 0
    · subst c
      right
      rw [Nat.add_zero, tpN_congr (fun i hi => hst i (by omega))]; exact hbase
    · left
      unfold tpN
      rw [if_neg (by omega), hst _ (by omega), show w + r - 1 = w + (r - 1) by omega]
      exact hnots _ (by omega)
  have h33 : ¬ isA (33 : Int32) ∧ ¬ (33 : Int32) = 91 := by unfold isA; decide
  have htop : ∀ st' : Nat → Int32, (∀ i, i < w + r → st' i = st i) → ¬ isA (tpN st' (w + r)) ∧ ¬ tpN st' (w + r) = 91 := by
    intro st' hst
    rcases htr st' hst with h | h
    · rw [h]; exact h33
    · have := baseC_n h; exact ⟨this.2.1, this.2.2.1⟩
  rw [b_X6_pieceStands, next_n he hpe, cb1_o]
  have hJ17 : ∀ c : Int32, (c = 33 ∨ c = 40) → hN t e p = c → Sf (b_X6_pieceStands_J17 (nI e) 200 b (nI o) G0 G2 c (nI p) fault (nI u) code) (pPost e t code u k o p w r na nc st) := by
    intro c hc hh
    have hpl : p < e := hN_lt (t := t) (by rw [hh]; rcases hc with h | h <;> subst h <;> decide)
    rw [b_X6_pieceStands_J17]
    refine Sf_ite (fun c2 => ?_) (fun c2 => ?_)
    · have ho6 : o < 6 := (nI_ltI (a := o) (b := 6) (by omega) (by omega)).mp c2
      rw [nmI_o, nI_1, nI_1]
      refine Sf_ite (fun c3 => ?_) (fun c3 => ?_)
      · subst c3
        have htc : tpN (upd st (w + r) 40) (w + r + 1) = 40 := by unfold tpN; rw [if_neg (by omega), Nat.add_sub_cancel, upd_s]
        refine Sf_cb5 (hC ho6 u k (p + 1) (w + r + 1) fault code na nc (upd st (w + r) 40) (by omega) (by omega) (by omega) htc) (fun rr a' u' f' code' hp => ?_)
        rcases hp with ⟨r0, a, ea, hae, hf, hv⟩ | ⟨r1, a, u2, ea, hae, eu, hu2, h93, hv⟩ | ⟨r1, a, k', j, na', nc', st', ea, hok⟩
        · have r0 : rr = 0 := r0
          have ea : a' = nI a := ea
          rw [if_pos r0]
          exact Sf_some (Or.inl ⟨rfl, a, ea, hae, hf, dbad_open (Or.inr rfl) he hpl hh ho6 (by omega) hv⟩)
        · have r1 : rr = 1 := r1
          have ea : a' = nI a := ea
          rw [if_neg (by rw [r1]; decide), ea, sign_n he hae hb (by decide), if_neg (by rw [h93]; decide), cb3_o, if_pos rfl]
          exact Sf_some (Or.inl ⟨rfl, a, rfl, hae, (show 1 ≤ (1 : Int32).toInt ∧ (1 : Int32).toInt ≤ 9 by decide), dbad_open (Or.inr rfl) he hpl hh ho6 (by omega) hv⟩)
        · have r1 : rr = 1 := r1
          have ea : a' = nI a := ea
          obtain ⟨q1, q2, q3, q4, q5, q6, q7, q8, q9, q10, ⟨f, fb, fC, fR⟩, q12⟩ := hok
          have q8 : u' = nI (u + (k' + j - k)) := q8
          have hpj : j ≤ 2 ∧ ∀ i, i < j → jq 1 (st' (w + r + 1 + i)) := by
            rcases q7 with h | h | h
            · exact absurd h.1 (by omega)
            · exact absurd h.1 (by omega)
            · refine ⟨h.2.1, fun i hi => ?_⟩
              rcases h.2.2 i hi with g | g
              · exact Or.inl g
              · exact Or.inr ⟨by decide, g⟩
          rw [if_neg (by rw [r1]; decide), ea, sign_n he q2 hb (by decide)]
          by_cases d : hN t e a = 41
          · have hal : a < e := hN_lt (t := t) (by rw [d]; decide)
            rw [if_pos d, cb3_o, if_neg (by decide)]
            have hs40 : st' (w + r) = 40 := by rw [q6 _ (by omega), upd_s]
            have hsr : ∀ i, i < r → st' (w + i) = 33 := fun i hi => by rw [q6 _ (by omega), upd_n (by omega)]; exact hnots i hi
            have hsw : ∀ i, i < w → st' i = st i := fun i hi => by rw [q6 _ (by omega), upd_n (by omega)]
            have hs := fun ib n => go_close (o := o + 1) (k := k') (na := na') (nc := nc') (m := w) (r := r) (j := j) (st := st') he hal d hs40 (by omega) (by rw [tpN_congr hsw]; exact hb1) hsr (by omega) hpj.2 (by omega) (by omega) ib n
            rw [show o + 1 - 1 - r = o - r by omega] at hs
            refine Sf_some (Or.inr (Or.inr ⟨rfl, a + 1, k' + j + r, _, _, st', rfl, by omega, by omega, by omega, by omega, drun_open (Or.inr rfl) he hpl hh ho6 (by omega) (drun_close q5 hs), hsw, ?_, q9, fun i hi => ?_, f, fb, ?_, ?_⟩))
            · rw [show k' + j + r - k - r = k' + j - k by omega]; exact q8
            · rw [emC_lo (by omega), emC_lo (by omega), emC_lo (by omega), emC_lo (by omega)]; exact q10 i hi
            · rw [show k' + j + r - k - r = k' + j - k by omega]; exact CR_mono fC (by unfold bc; omega)
            · have h2 := RR_nots (m := w) (r := r) fR
              rw [show k + (k' + j - k) = k' + j by omega, show k' + j - k + r = k' + j + r - k by omega] at h2
              exact h2
          · rw [if_neg d, cb3_o, if_pos rfl]
            have hst := q12.2 rfl
            exact Sf_some (Or.inl ⟨rfl, a, rfl, q2, (show 1 ≤ (1 : Int32).toInt ∧ (1 : Int32).toInt ≤ 9 by decide), dbad_open (Or.inr rfl) he hpl hh ho6 (by omega) (dbad_wrong q2 he q5 hst.1 hst.2 d)⟩)
      · have c33 : c = 33 := hc.resolve_right c3
        subst c33
        have hupw : ∀ i, i < w → upd st (w + r) 33 i = st i := fun i hi => upd_n (by omega)
        refine Sf_cb5 (hP ho6 u k (p + 1) w (r + 1) fault code na nc (upd st (w + r) 33) (by omega) (by omega) (by omega) (by omega) (by rw [tpN_congr hupw]; exact hbase) (fun i hi => ?_)) (fun rr a' u' f' code' hp => ?_)
        · by_cases d : i = r
          · subst d; exact upd_s _ _ _
          · rw [upd_n (by omega)]; exact hnots i (by omega)
        · rcases hp with ⟨r0, a, ea, hae, hf, hv⟩ | ⟨r1, a, u2, ea, hae, eu, hu2, h93, hv⟩ | ⟨r1, a, k', na', nc', st', ea, q1, q2, q3, q4, q5, q6, q7, q8, q9, f, fb, fC, fR⟩
          · have r0 : rr = 0 := r0
            have ea : a' = nI a := ea
            rw [if_pos r0]
            exact Sf_some (Or.inl ⟨rfl, a, ea, hae, hf, dbad_open (Or.inl rfl) he hpl hh ho6 (by omega) hv⟩)
          · have r1 : rr = 1 := r1
            have ea : a' = nI a := ea
            have eu : u' = nI u2 := eu
            rw [if_neg (by rw [r1]; decide), eu]
            refine Sf_cb2 (put_any hu2) (fun u3 code3 hu3 => ?_)
            obtain ⟨u4, e4, l4⟩ := hu3
            exact Sf_some (Or.inr (Or.inl ⟨rfl, a, u4, ea, hae, e4, l4, h93, dbad_open (Or.inl rfl) he hpl hh ho6 (by omega) hv⟩))
          · have r1 : rr = 1 := r1
            have ea : a' = nI a := ea
            have q7 : u' = nI (u + (k' - k - (r + 1))) := q7
            rw [if_neg (by rw [r1]; decide), q7, put_n (by omega), cb2_o, ea]
            have q5' : drun e t k (o + 1) (p + 1) (w + r + 1) na nc (upd st (w + r) 33) k' (o - r) a w na' nc' st' := by
              rw [show o + 1 - (r + 1) = o - r by omega] at q5
              exact q5
            refine Sf_some (Or.inr (Or.inr ⟨rfl, a, k', na', nc', st', rfl, by omega, q2, by omega, by omega, drun_open (Or.inl rfl) he hpl hh ho6 (by omega) q5', fun i hi => (q6 i hi).trans (hupw i hi), ?_, fun i hi => ?_, q9, sNot f, boo_not fb, ?_, fR⟩))
            · show nI (u + (k' - k - (r + 1)) + 1) = _
              rw [show u + (k' - k - (r + 1)) + 1 = u + (k' - k - r) by omega]
            · show upd code' (u + (k' - k - (r + 1))) _ i = _
              rw [upd_n (by omega)]; exact q8 i hi
            · rw [show k' - k - r = (k' - k - (r + 1)) + 1 by omega]
              exact CR_not (CR_congr (CR_mono fC (by unfold bc; omega)) (fun i hi => upd_n (by omega))) (upd_s _ _ _) (by unfold bc; omega)
    · have ho6 : o = 6 := by
        by_cases x : o < 6
        · exact absurd ((nI_ltI (a := o) (b := 6) (by omega) (by omega)).mpr x) c2
        · omega
      subst ho6
      rw [f_X6_fail, cb2_o]
      refine Sf_bo (Or.inl (by decide)) (Sf_some (Or.inl ⟨rfl, p, rfl, hpe, (show 1 ≤ (5 : Int32).toInt ∧ (5 : Int32).toInt ≤ 9 by decide), ?_⟩))
      exact dbad_pi hpe (badC_ne (f := 5) (by decide) (by decide) (by omega)) (fun ib => ⟨_, _, _, _, _, _, _, _, pi_deep hc he hpl hh (by omega)⟩)
  refine Sf_ite (fun c => ?_) (fun c => Sf_ite (fun c2 => ?_) (fun c2 => ?_))
  · have h := (nh_iff (b := b) (e := e) (p := p) hb 33 (by decide)).mp c
    rw [c]; exact hJ17 33 (Or.inl rfl) h
  · have h := (nh_iff (b := b) (e := e) (p := p) hb 40 (by decide)).mp c2
    rw [c2]; exact hJ17 40 (Or.inr rfl) h
  · have n33 : ¬ hN t e p = 33 := fun x => c ((nh_iff (b := b) (e := e) (p := p) hb 33 (by decide)).mpr x)
    have n40 : ¬ hN t e p = 40 := fun x => c2 ((nh_iff (b := b) (e := e) (p := p) hb 40 (by decide)).mpr x)
    have f1 : 1 ≤ (1 : Int32).toInt ∧ (1 : Int32).toInt ≤ 9 := by decide
    have bad1 : ∀ a : Nat, a ≤ e → ¬ badC 1 a = 0 := fun a ha => badC_ne (by decide) (by decide) (by omega)
    refine Sf_cb5 (hE u k p (w + r) fault code na nc st hkm hpe hup (htop st (fun _ _ => rfl)).1) (fun rr a' u' f' code' hp => ?_)
    rcases hp with ⟨r0, a, ea, hae, hf, hv⟩ | ⟨r1, a, k1, j1, na1, nc1, st1, ea, q1, q2, q3, q4, q5, q6, q7, q8, q9, q10, ⟨f, fC, fR⟩, q12⟩
    · have r0 : rr = 0 := r0
      have ea : a' = nI a := ea
      rw [if_pos r0]
      refine Sf_some (Or.inl ⟨rfl, a, ea, hae, hf, dbad_pi hpe (badC_ne hf.1 hf.2 (by omega)) (fun ib => ?_)⟩)
      obtain ⟨p1, k1, o1, m1, ib1, na1, nc1, st1, h⟩ := val_bad ib he hv
      refine ⟨p1, k1, o1, m1, ib1, na1, nc1, st1, ?_⟩
      rw [pi_stop he hpe n33 n40, h, cb9_o, f_X12_pieceOfC_J43, isGood_n (badC_ne hf.1 hf.2 (by omega)), cb1_o, if_pos rfl]
    · have r1 : rr = 1 := r1
      have ea : a' = nI a := ea
      have q8 : u' = nI (u + (k1 + j1 - k)) := q8
      have hst1 := htop st1 q6
      have hpd : j1 ≤ 2 ∧ ∀ i, i < j1 → isA (st1 (w + r + i)) := by
        rcases q7 with h | h | h
        · exact absurd h.1 (by omega)
        · exact absurd h.1 (by omega)
        · exact h.2
      have hV := fun ib => val_run ib he q2 q5 (q12.2 rfl) hst1.1 hst1.2 hpd.2 (by omega) (by omega)
      rw [if_neg (by rw [r1]; decide), ea, next_n he q2, cb1_o]
      have hJ : ∀ c : Int32, (c = 60 ∨ c = 62 ∨ c = 61) → hN t e a = c → Sf (b_X6_pieceStands_J132 (nI e) 200 b (nI o) G0 (nI a) u' code' c f') (pPost e t code u k o p w r na nc st) := by
        intro c hc hh
        have hal : a < e := hN_lt (t := t) (by rw [hh]; rcases hc with h | h | h <;> subst h <;> decide)
        have hc93 : ¬ hN t e a = 93 := by rw [hh]; rcases hc with h | h | h <;> subst h <;> decide
        have hcA : ¬ isA c ∧ ¬ c = 91 ∧ 2 < c.toInt := by rcases hc with h | h | h <;> subst h <;> unfold isA <;> decide
        have hcO : isO c := by rcases hc with h | h | h <;> subst h <;> unfold isO <;> decide
        have htc : ∀ st' : Nat → Int32, st' (w + r) = c → tpN st' (w + r + 1) = c := fun st' h => by unfold tpN; rw [if_neg (by omega), Nat.add_sub_cancel]; exact h
        rw [b_X6_pieceStands_J132, nmI_o, nI_1, q8]
        have hv1 : ∀ ib : Int32, f_X12_pieceOfC (nI p) (nI e) 0 (nI k) (nI o) (nI (w + r)) ib na nc st t = f_X12_pieceOfC_J43 (nI e) t 0 (nI (k1 + j1)) 0 (nI o) (nI a) (nI (w + r)) (emC z0 (w + r) j1 na1 k1) (emC st1 (w + r) j1 nc1 k1) st1 := fun ib => by
          rw [pi_stop he hpe n33 n40, (hV ib).1 hc93, cb9_o]
        have hv2 : f_X12_pieceOfC_J43 (nI e) t 0 (nI (k1 + j1)) 0 (nI o) (nI a) (nI (w + r)) (emC z0 (w + r) j1 na1 k1) (emC st1 (w + r) j1 nc1 k1) st1 = cb9 (f_X12_value (nI (a + 1)) (nI e) 0 (nI (k1 + j1)) (nI o) (nI (w + r + 1)) 0 (emC z0 (w + r) j1 na1 k1) (emC st1 (w + r) j1 nc1 k1) (upd st1 (w + r) c) t) (fun p2 d2 k2' o2 m2 ib2 na2 nc2 st2 => cb1 (f_X12_isGood d2) fun g => if g = 0 then some (p2, d2, k2', o2, m2, ib2, na2, nc2, st2) else cb1 (f_X12_top m2 st2) fun tp => cb3 (f_X12_emit d2 k2' na2 nc2 tp 0) fun k3 na3 nc3 => nmI (m2 - 1) fun m3 => cb5 (f_X12_ends d2 k3 o2 m3 na3 nc3 st2) fun k4 o4 m4 na4 nc4 => some (p2, d2, k4, o4, m4, ib2, na4, nc4, st2)) := by
          rw [f_X12_pieceOfC_J43, isGood_0, cb1_o, if_neg (by decide), here_n he q2, cb1_o, hh, isSign_e, cb1_o, if_neg (by rw [bI_0]; exact fun x => x hc), puts_n (by omega), cb3_o]
        refine Sf_cb5 (hE (u + (k1 + j1 - k)) (k1 + j1) (a + 1) (w + r + 1) f' code' (emC z0 (w + r) j1 na1 k1) (emC st1 (w + r) j1 nc1 k1) (upd st1 (w + r) c) (by omega) (by omega) (by omega) (by rw [htc _ (upd_s _ _ _)]; exact hcA.1)) (fun rr2 a'' u'' f'' code2 hp2 => ?_)
        rcases hp2 with ⟨r0, a2, ea2, hae2, hf2, hv⟩ | ⟨r1', a2, k2', j2, na2, nc2, st2, ea2, g1, g2, g3, g4, g5, g6, g7, g8, g9, g10, ⟨f2, gC, gR⟩, g12⟩
        · have r0 : rr2 = 0 := r0
          have ea2 : a'' = nI a2 := ea2
          rw [if_pos r0]
          refine Sf_some (Or.inl ⟨rfl, a2, ea2, hae2, hf2, dbad_pi hpe (badC_ne hf2.1 hf2.2 (by omega)) (fun ib => ?_)⟩)
          obtain ⟨p1, kk, o1, m1, ib1, na3, nc3, st3, h⟩ := val_bad 0 he hv
          refine ⟨p1, kk, o1, m1, ib1, na3, nc3, st3, ?_⟩
          rw [hv1 ib, hv2, h, cb9_o, isGood_n (badC_ne hf2.1 hf2.2 (by omega)), cb1_o, if_pos rfl]
        · have r1' : rr2 = 1 := r1'
          have ea2 : a'' = nI a2 := ea2
          have g8 : u'' = nI (u + (k1 + j1 - k) + (k2' + j2 - (k1 + j1))) := g8
          have g9 : ∀ i, i < u + (k1 + j1 - k) → code2 i = code' i := g9
          have hs2c : st2 (w + r) = c := by rw [g6 _ (by omega), upd_s]
          have hpd2 : j2 ≤ 2 ∧ ∀ i, i < j2 → isA (st2 (w + r + 1 + i)) := by
            rcases g7 with h | h | h
            · exact absurd h.1 (by omega)
            · exact absurd h.1 (by omega)
            · exact h.2
          have hV2 := val_run 0 he g2 g5 (g12.2 rfl) (by rw [htc _ hs2c]; exact hcA.1) (by rw [htc _ hs2c]; exact hcA.2.1) hpd2.2 (by omega) (by omega)
          rw [if_neg (by rw [r1']; decide), g8, put_n (by omega), cb2_o, ea2]
          by_cases d93 : hN t e a2 = 93
          · refine Sf_some (Or.inr (Or.inl ⟨rfl, a2, u + (k1 + j1 - k) + (k2' + j2 - (k1 + j1)) + 1, rfl, g2, rfl, by omega, d93, dbad_pi hpe (bad1 a2 g2) (fun ib => ?_)⟩))
            refine ⟨nI a2, nI (k2' + j2), nI o, nI (w + r + 1), 0, emC z0 (w + r + 1) j2 na2 k2', emC st2 (w + r + 1) j2 nc2 k2', st2, ?_⟩
            rw [hv1 ib, hv2, hV2.2 d93, cb9_o, isGood_n (bad1 a2 g2), cb1_o, if_pos rfl]
          · have hsw : ∀ i, i < w + r → st2 i = st i := fun i hi => by rw [g6 _ (by omega), upd_n (by omega)]; exact q6 i hi
            have hpi : ∀ ib : Int32, f_X12_pieceOfC (nI p) (nI e) 0 (nI k) (nI o) (nI (w + r)) ib na nc st t = some (nI a2, 0, nI (k2' + j2 + 1 + r), nI (o - r), nI w, 0, emC z0 w r (upd (emC z0 (w + r + 1) j2 na2 k2') (k2' + j2) 0) (k2' + j2 + 1), emC k2 w r (upd (emC st2 (w + r + 1) j2 nc2 k2') (k2' + j2) c) (k2' + j2 + 1), st2) := fun ib => by
              rw [hv1 ib, hv2, hV2.1 d93, cb9_o, isGood_0, cb1_o, if_neg (by decide), top_n (by omega), cb1_o, htc _ hs2c, emit_n (by omega), cb3_o, nmI_o, nI_pred, ends_e (by rw [tpN_congr (fun i hi => hsw i (by omega))]; exact hb1) (fun i hi => by rw [hsw _ (by omega)]; exact hnots i hi) hro (by omega) (by omega), cb5_o]
            refine Sf_some (Or.inr (Or.inr ⟨rfl, a2, k2' + j2 + 1 + r, _, _, st2, rfl, by omega, g2, by omega, by omega, drun_pi (by omega) (fun ib => ⟨0, hpi ib⟩), fun i hi => hsw i (by omega), ?_, fun i hi => ?_, fun i hi => ?_, sBin c f f2, boo_bin hc, ?_, ?_⟩))
            · show nI (u + (k1 + j1 - k) + (k2' + j2 - (k1 + j1)) + 1) = _
              rw [show u + (k1 + j1 - k) + (k2' + j2 - (k1 + j1)) + 1 = u + (k2' + j2 + 1 + r - k - r) by omega]
            · show upd code2 _ _ i = _
              rw [upd_n (by omega), g9 i (by omega)]; exact q9 i hi
            · have w1 := g10 i (by omega)
              rw [emC_lo (by omega), emC_lo (by omega), upd_n (by omega), upd_n (by omega), emC_lo (by omega), emC_lo (by omega), w1.1, w1.2, emC_lo (by omega), emC_lo (by omega)]
              exact q10 i hi
            · rw [show k2' + j2 + 1 + r - k - r = (k1 + j1 - k) + (k2' + j2 - (k1 + j1)) + 1 by omega]
              refine CR_bin (B2 := bd 2 o) (CR_mono (CR_congr fC (fun i hi => ?_)) (by unfold bd bc; omega)) (CR_congr gC (fun i hi => upd_n (by omega))) (upd_s _ _ _) hcO (by unfold bd bc; omega) (by unfold bd; omega)
              show upd code2 _ _ (u + i) = code' (u + i)
              rw [upd_n (by omega), g9 _ (by omega)]
            · have hR : RR (upd (emC st2 (w + r + 1) j2 nc2 k2') (k2' + j2) c) (upd (emC z0 (w + r + 1) j2 na2 k2') (k2' + j2) 0) k ((k1 + j1 - k) + (k2' + j2 - (k1 + j1)) + 1) (sBin c f f2) := by
                refine RR_bin (RR_congr fR (fun i hi => ?_)) ?_ ?_ hcO
                · have w1 := g10 (k + i) (by omega)
                  refine ⟨?_, ?_⟩
                  · rw [upd_n (by omega), emC_lo (st := st2) (by omega)]; exact w1.1
                  · rw [upd_n (by omega), emC_lo (m := w + r + 1) (by omega)]; exact w1.2
                · rw [show k + (k1 + j1 - k) = k1 + j1 by omega]
                  exact RR_congr gR (fun i hi => ⟨upd_n (by omega), upd_n (by omega)⟩)
                · rw [show k + (k1 + j1 - k) + (k2' + j2 - (k1 + j1)) = k2' + j2 by omega, upd_s]
              have h2 := RR_nots (m := w) (r := r) hR
              rw [show k + ((k1 + j1 - k) + (k2' + j2 - (k1 + j1)) + 1) = k2' + j2 + 1 by omega, show (k1 + j1 - k) + (k2' + j2 - (k1 + j1)) + 1 + r = k2' + j2 + 1 + r - k by omega] at h2
              exact h2
      have hns : ¬ (hN t e a = 60 ∨ hN t e a = 62 ∨ hN t e a = 61) → dbad e t k o p (w + r) na nc st (badC 1 a) := by
        intro hn
        refine dbad_pi hpe (bad1 a q2) (fun ib => ?_)
        by_cases d93 : hN t e a = 93
        · refine ⟨nI a, nI (k1 + j1), nI o, nI (w + r), 0, emC z0 (w + r) j1 na1 k1, emC st1 (w + r) j1 nc1 k1, st1, ?_⟩
          rw [pi_stop he hpe n33 n40, (hV ib).2 d93, cb9_o, f_X12_pieceOfC_J43, isGood_n (bad1 a q2), cb1_o, if_pos rfl]
        · refine ⟨nI a, nI (k1 + j1), nI o, nI (w + r), 0, emC z0 (w + r) j1 na1 k1, emC st1 (w + r) j1 nc1 k1, st1, ?_⟩
          rw [pi_stop he hpe n33 n40, (hV ib).1 d93, cb9_o, f_X12_pieceOfC_J43, isGood_0, cb1_o, if_neg (by decide), here_n he q2, cb1_o, isSign_e, cb1_o, if_pos (by rw [bI_0]; exact hn), wrongs_n, cb1_o]
      refine Sf_ite (fun c4 => ?_) (fun c4 => Sf_ite (fun c5 => ?_) (fun c5 => Sf_ite (fun c6 => ?_) (fun c6 => ?_)))
      · have h := (nh_iff (b := b) (e := e) (p := a) hb 60 (by decide)).mp c4
        rw [c4]; exact hJ 60 (Or.inl rfl) h
      · have h := (nh_iff (b := b) (e := e) (p := a) hb 62 (by decide)).mp c5
        rw [c5]; exact hJ 62 (Or.inr (Or.inl rfl)) h
      · have h := (nh_iff (b := b) (e := e) (p := a) hb 61 (by decide)).mp c6
        rw [c6]; exact hJ 61 (Or.inr (Or.inr rfl)) h
      · rw [f_X6_fail, cb2_o]
        refine Sf_bo (Or.inl (by decide)) (Sf_some (Or.inl ⟨rfl, a, rfl, q2, f1, hns ?_⟩))
        rintro (h | h | h)
        · exact c4 ((nh_iff (b := b) (e := e) (p := a) hb 60 (by decide)).mpr h)
        · exact c5 ((nh_iff (b := b) (e := e) (p := a) hb 62 (by decide)).mpr h)
        · exact c6 ((nh_iff (b := b) (e := e) (p := a) hb 61 (by decide)).mpr h)
end S7
end
section
/-! rows of pieces and of parts -/
theorem leap_n {code : Nat → Int32} {u1 u2 : Nat} (h1 : u1 < u2) (h2 : u1 < 120) (h3 : u2 ≤ 120) : f_X6_leapHere (nI u2) code (nI u1) = some (upd code u1 (jshl (nI u2) 8 ||| (code u1 &&& 255))) := by
  rw [f_X6_leapHere, if_neg (nI_ge h1 (by omega)), rdI_o (jin_n (by omega) (by omega)), nmI_o, wrI_o (jin_n (by omega) (by omega)), nI_clamp (by omega)]
section S8
variable {e o : Nat} {b t : Nat → Int32}
set_option maxHeartbeats 4000000 in
theorem rowC_L {G1 : GT4} {kd kdO : Nat} {fl p1 sg : Int32} {preO : Int32 → Prop} (he : e ≤ 120) (hb : TBy b t)
    (hj0 : ∀ c, ¬ c = sg → f_X6_joins p1 c = some 0) (hj1 : f_X6_joins p1 sg = some 1) (h01 : p1 = 0 ∨ p1 = 1) (hsg : (sg = 38 ∧ fl = 0) ∨ (sg = 124 ∧ fl = 1)) (hpo : preO sg)
    (hpend : ∀ (j : Nat) (st : Nat → Int32) (m : Nat), pendC kd j st m → j ≤ 2 ∧ ∀ i, i < j → jq fl (st (m + i)))
    (hjn : ∀ (j : Nat) (st : Nat → Int32) (m : Nat), pendC kdO j st (m + 1) → st m = sg → pendC kd (j + 1) st m)
    (hstop : ∀ h, stopC kdO h → ¬ h = sg → stopC kd h)
    (hO : cHyp e b t kdO o preO (fun n l a u f b c => G1 n l a u f b c p1 (nI o)))
    {u k p m : Nat} {code na nc st : Nat → Int32} (hkm : k + m ≤ p) (hpe : p ≤ e) (hup : u ≤ p) (htop : ¬ jq fl (tpN st m)) :
    ∀ (n i a k' j : Nat) (fault' us : Int32) (code' na' nc' st' : Nat → Int32), i < a → e + 1 < n + i → cOK e t kdO kd code u k o p m na nc st a k' j na' nc' st' us code' → Sf (b_X6_rowStands_L13 (nI e) 200 b p1 (nI o) G1 n (nI i) (nI a) fault' us code') (cPost e t kd code u k o p m na nc st) := by
  have hsg2 : sg = 38 ∨ sg = 124 := by rcases hsg with h | h; exact Or.inl h.1; exact Or.inr h.1
  have hsp : 0 < sg.toInt ∧ sg.toInt < 256 ∧ ¬ sg = 0 ∧ ¬ sg = 93 := by rcases hsg2 with h | h <;> subst h <;> decide
  intro n
  induction n with
  | zero => intro i a k' j fault' us code' na' nc' st' h1 h2 h3; obtain ⟨q1, q2, -⟩ := h3; exact absurd h2 (by omega)
  | succ n ih =>
    intro i a k' j fault' us code' na' nc' st' h1 h2 h3
    obtain ⟨q1, q2, q3, q4, q5, q6, q7, q8, q9, q10, q11, q12⟩ := h3
    rw [b_X6_rowStands_L13, if_neg (nI_ge (a := i) (b := e) (by omega) (by omega)), next_n he q2, cb1_o]
    by_cases c : hN t e a = sg
    · have hal : a < e := hN_lt (t := t) (by rw [c]; exact hsp.2.2.1)
      have cn : nN b e a = sg := (nh_iff hb sg hsp.1).mpr c
      obtain ⟨hj2, hpq⟩ := hpend j st' m q7
      have htop' : ¬ jq fl (tpN st' m) := by rw [tpN_congr q6]; exact htop
      have hs := fun ib n => go_join (o := o) (k := k') (na := na') (nc := nc') (c := sg) (fl := fl) (j := j) (st := st') (m := m) he hal c hsg htop' hpq (by omega) (by omega) ib n
      have htc : tpN (upd st' m sg) (m + 1) = sg := by unfold tpN; rw [if_neg (by omega), Nat.add_sub_cancel, upd_s]
      have hstep : Sf (b_X6_rowStands_J58 (nI e) 200 b p1 (nI o) G1 (nI i) (nI a) fault' us code' sg (b_X6_rowStands_L13 (nI e) 200 b p1 (nI o) G1 n) 1) (cPost e t kd code u k o p m na nc st) := by
        rw [b_X6_rowStands_J58, if_neg (by decide), q8, put_n (by omega), cb2_o, b_X6_rowStands_J72, nmI_o, nI_1]
        refine Sf_cb5 (hO (u + (k' + j - k) + 1) (k' + j) (a + 1) (m + 1) fault' (upd code' (u + (k' + j - k)) (jshl 0 8 ||| sg)) (emC z0 m j na' k') (emC st' m j nc' k') (upd st' m sg) (by omega) (by omega) (by omega) (by rw [htc]; exact hpo)) (fun r a' u' f' code2 hp => ?_)
        rcases hp with ⟨r0, a2, ea, hae, hf, hv⟩ | ⟨r1, a2, u2, ea, hae, eu, hu2, h93, hv⟩ | ⟨r1, a2, k2', j2, na2, nc2, st2, ea, g1, g2, g3, g4, g5, g6, g7, g8, g9, g10, ⟨f2, f2b, f2C, f2R⟩, g12⟩
        · have r0 : r = 0 := r0
          have ea : a' = nI a2 := ea
          rw [if_pos r0]
          exact Sf_some (Or.inl ⟨rfl, a2, ea, hae, hf, dbad_op q5 hs hv⟩)
        · have r1 : r = 1 := r1
          have ea : a' = nI a2 := ea
          have eu : u' = nI u2 := eu
          rw [if_neg (by rw [r1]; decide), if_neg (by decide), eu, ea]
          have tu2 : (nI u2).toInt = (u2 : Int) := nI_toInt (by omega)
          have tu1 : (nI (u + (k' + j - k))).toInt = ((u + (k' + j - k) : Nat) : Int) := nI_toInt (by omega)
          refine Sf_cb1 (s_X6_leapHere (nI u2) code2 (nI (u + (k' + j - k))) (by omega) (by omega)) (fun code3 _ => ?_)
          rw [nmI_o, nI_1]
          have hthird : cPost e t kd code u k o p m na nc st (1, nI a2, nI u2, f', code3) := Or.inr (Or.inl ⟨rfl, a2, u2, rfl, hae, rfl, hu2, h93, dbad_op q5 hs hv⟩)
          obtain ⟨n1, rfl⟩ : ∃ n1, n = n1 + 1 := ⟨n - 1, by omega⟩
          rw [b_X6_rowStands_L13]
          refine Sf_ite (fun _ => Sf_some hthird) (fun _ => ?_)
          rw [next_n he hae, cb1_o, hj0 _ (fun x => by rw [nh_iff hb sg hsp.1] at x; rw [h93] at x; exact hsp.2.2.2 x.symm), cb1_o, if_pos rfl]
          exact Sf_some hthird
        · have r1 : r = 1 := r1
          have ea : a' = nI a2 := ea
          have g8 : u' = nI (u + (k' + j - k) + 1 + (k2' + j2 - (k' + j))) := g8
          have g9 : ∀ i, i < u + (k' + j - k) + 1 → code2 i = upd code' (u + (k' + j - k)) (jshl 0 8 ||| sg) i := g9
          have hst2 : st2 m = sg := by rw [g6 m (by omega), upd_s]
          have hcw : code2 (u + (k' + j - k)) &&& 255 = sg := by rw [g9 _ (by omega), upd_s]; exact w_lo 0 sg (by omega) hsp.2.1
          rw [if_neg (by rw [r1]; decide), if_neg (by decide), g8, leap_n (by omega) (by omega) (by omega), cb1_o, nmI_o, nI_1, ea, hcw]
          obtain ⟨f1, f1b, f1C, f1R⟩ := q11
          have eX : emC st2 m (j2 + 1) nc2 k2' = upd (emC st2 (m + 1) j2 nc2 k2') (k2' + j2) sg := by rw [emC_snoc, hst2]
          have eY : emC z0 m (j2 + 1) na2 k2' = upd (emC z0 (m + 1) j2 na2 k2') (k2' + j2) 0 := emC_snoc
          refine ih (i + 1) a2 k2' (j2 + 1) f' _ _ na2 nc2 st2 (by omega) (by omega) ?_
          refine ⟨by omega, g2, by omega, by omega, ?_, fun i hi => ?_, hjn j2 st2 m g7 hst2, ?_, fun i hi => ?_, fun i hi => ?_, ?_, g12⟩
          · have := drun_op q5 hs g5
            rw [show m + (j2 + 1) = m + 1 + j2 by omega]
            exact this
          · rw [g6 i (by omega), upd_n (by omega)]; exact q6 i hi
          · rw [show u + (k' + j - k) + 1 + (k2' + j2 - (k' + j)) = u + (k2' + (j2 + 1) - k) by omega]
          · rw [upd_n (by omega), g9 i (by omega), upd_n (by omega)]; exact q9 i hi
          · obtain ⟨w1, w2⟩ := g10 i (by omega)
            rw [w1, w2, emC_lo (by omega), emC_lo (by omega)]; exact q10 i hi
          · refine ⟨if sg = 38 then sAnd f1 f2 else sOr f1 f2, boo_join f1b f2b, ?_, ?_⟩
            · rw [show k2' + (j2 + 1) - k = (k' + j - k) + 1 + (k2' + j2 - (k' + j)) by omega]
              refine CR_join (CR_congr f1C (fun i hi => ?_)) (CR_congr f2C (fun i hi => upd_n (by omega))) ?_ hsg2 (by unfold bc; omega)
              · rw [upd_n (by omega), g9 _ (by omega), upd_n (by omega)]
              · rw [upd_s]
            · rw [eX, eY, show k2' + (j2 + 1) - k = (k' + j - k) + (k2' + j2 - (k' + j)) + 1 by omega]
              refine RR_join (RR_congr f1R (fun i hi => ?_)) ?_ ?_ hsg2 f1b
              · have w := g10 (k + i) (by omega)
                refine ⟨?_, ?_⟩
                · rw [upd_n (by omega), emC_lo (st := st2) (by omega)]; exact w.1
                · rw [upd_n (by omega), emC_lo (m := m + 1) (by omega)]; exact w.2
              · rw [show k + (k' + j - k) = k' + j by omega]
                exact RR_congr f2R (fun i hi => ⟨upd_n (by omega), upd_n (by omega)⟩)
              · rw [show k + (k' + j - k) + (k2' + j2 - (k' + j)) = k2' + j2 by omega, upd_s]
      rw [cn, hj1, cb1_o, if_neg (by decide), cb1_o]
      rcases h01 with h | h
      · rw [if_pos h]; exact hstep
      · rw [if_neg (by rw [h]; decide), if_pos h]; exact hstep
    · have cn : ¬ nN b e a = sg := fun x => c ((nh_iff hb sg hsp.1).mp x)
      rw [hj0 _ cn, cb1_o, if_pos rfl]
      exact Sf_some (Or.inr (Or.inr ⟨rfl, a, k', j, na', nc', st', rfl, q1, q2, q3, q4, q5, q6, q7, q8, q9, q10, q11, hstop _ q12 c⟩))
theorem rowC {G0 G1 : GT4} {G2 G3 : GT3} {kd kdO : Nat} {fl p1 sg : Int32} {preO preR : Int32 → Prop} (he : e ≤ 120) (hb : TBy b t)
    (hj0 : ∀ c, ¬ c = sg → f_X6_joins p1 c = some 0) (hj1 : f_X6_joins p1 sg = some 1) (h01 : p1 = 0 ∨ p1 = 1) (hsg : (sg = 38 ∧ fl = 0) ∨ (sg = 124 ∧ fl = 1)) (hpo : preO sg)
    (hpend : ∀ (j : Nat) (st : Nat → Int32) (m : Nat), pendC kd j st m → j ≤ 2 ∧ ∀ i, i < j → jq fl (st (m + i)))
    (hjn : ∀ (j : Nat) (st : Nat → Int32) (m : Nat), pendC kdO j st (m + 1) → st m = sg → pendC kd (j + 1) st m)
    (hp0 : ∀ (j : Nat) (st : Nat → Int32) (m : Nat), pendC kdO j st m → pendC kd j st m)
    (hstop : ∀ h, stopC kdO h → ¬ h = sg → stopC kd h) (hstop93 : ¬ (93 : Int32) = sg)
    (hO : cHyp e b t kdO o preO (fun n l a u f b c => G1 n l a u f b c p1 (nI o)))
    (hpre : ∀ x, preR x → preO x ∧ ¬ jq fl x) : cHyp e b t kd o preR (fun n l a u f b c => b_X6_rowStands G0 G1 G2 G3 n l a u f b c p1 (nI o)) := by
  have hsp : 0 < sg.toInt := by rcases hsg with h | h <;> rw [h.1] <;> decide
  intro u k p m fault code na nc st h1 h2 h3 h4
  show Sf (b_X6_rowStands G0 G1 G2 G3 200 (nI e) (nI p) (nI u) fault b code p1 (nI o)) _
  rw [b_X6_rowStands]
  obtain ⟨hq1, hq2⟩ := hpre _ h4
  have hFU := FU_ge
  refine Sf_cb5 (hO u k p m fault code na nc st h1 h2 h3 hq1) (fun r a' u' f' code' hp => ?_)
  rcases hp with ⟨r0, a, ea, hae, hf, hv⟩ | ⟨r1, a, u2, ea, hae, eu, hu2, h93, hv⟩ | ⟨r1, a, k', j, na', nc', st', ea, q1, q2, q3, q4, q5, q6, q7, q8, q9, q10, q11, q12⟩
  · have r0 : r = 0 := r0
    have ea : a' = nI a := ea
    rw [if_pos r0]
    exact Sf_some (Or.inl ⟨rfl, a, ea, hae, hf, hv⟩)
  · have r1 : r = 1 := r1
    have ea : a' = nI a := ea
    have eu : u' = nI u2 := eu
    rw [if_neg (by rw [r1]; decide), ea, eu]
    have hthird : cPost e t kd code u k o p m na nc st (1, nI a, nI u2, f', code') := Or.inr (Or.inl ⟨rfl, a, u2, rfl, hae, rfl, hu2, h93, hv⟩)
    obtain ⟨n1, hn1⟩ : ∃ n1, FU = n1 + 1 := ⟨FU - 1, by omega⟩
    rw [hn1, b_X6_rowStands_L13]
    refine Sf_ite (fun _ => Sf_some hthird) (fun _ => ?_)
    rw [next_n he hae, cb1_o, hj0 _ (fun x => by rw [nh_iff hb sg hsp] at x; rw [h93] at x; exact hstop93 x), cb1_o, if_pos rfl]
    exact Sf_some hthird
  · have r1 : r = 1 := r1
    have ea : a' = nI a := ea
    rw [if_neg (by rw [r1]; decide), ea, show (0 : Int32) = nI 0 from nI_0.symm]
    exact rowC_L he hb hj0 hj1 h01 hsg hpo hpend hjn hstop hO h1 h2 h3 hq2 FU 0 a k' j f' u' code' na' nc' st' (by omega) (by omega) ⟨q1, q2, q3, q4, q5, q6, hp0 _ _ _ q7, q8, q9, q10, q11, q12⟩
theorem cPost_bo {kd u k p m : Nat} {code na nc st code' : Nat → Int32} {r a' u' f' : Int32} (h : cPost e t kd code u k o p m na nc st (r, a', u', f', code')) : r.toInt = 0 ∨ r.toInt = 1 := by
  rcases h with ⟨h, -⟩ | ⟨h, -⟩ | ⟨h, -⟩
  · have h : r = 0 := h
    rw [h]; exact Or.inl (by decide)
  · have h : r = 1 := h
    rw [h]; exact Or.inr (by decide)
  · have h : r = 1 := h
    rw [h]; exact Or.inr (by decide)
theorem simO1 {G0 G1 : GT4} {G2 G3 : GT3} (hP : pHyp e b t o (fun n l a u f b c => G2 n l a u f b c (nI o))) : cHyp e b t 5 o baseC (fun n l a u f b c => b_X6_operandStands G0 G1 G2 G3 n l a u f b c 1 (nI o)) := by
  intro u k p m fault code na nc st h1 h2 h3 h4
  show Sf (b_X6_operandStands G0 G1 G2 G3 200 (nI e) (nI p) (nI u) fault b code 1 (nI o)) _
  rw [b_X6_operandStands, if_neg (by decide), if_pos (by decide)]
  refine Sf_cb5 (hP u k p m 0 fault code na nc st h1 h2 h3 (by omega) h4 (fun i hi => absurd hi (by omega))) (fun r a' u' f' code' hp => ?_)
  have hq : cPost e t 5 code u k o p m na nc st (r, a', u', f', code') := by
    rcases hp with h | h | ⟨r1, a, k', na', nc', st', ea, q1, q2, q3, q4, q5, q6, q7, q8, q9, f, fb, fC, fR⟩
    · exact Or.inl h
    · exact Or.inr (Or.inl h)
    · refine Or.inr (Or.inr ⟨r1, a, k', 0, na', nc', st', ea, q1, q2, by omega, by omega, q5, q6, Or.inl ⟨rfl, rfl⟩, q7, q8, q9, ⟨f, fb, fC, fR⟩, ⟨fun h => absurd h (by omega), fun h => absurd h (by omega)⟩⟩)
  exact Sf_bo (cPost_bo hq) (Sf_some hq)
theorem simO0 {G0 G1 : GT4} {G2 G3 : GT3} (hP : cHyp e b t 1 o (fun x => x = 40 ∨ x = 124) (fun n l a u f b c => G0 n l a u f b c 1 (nI o))) : cHyp e b t 1 o (fun x => x = 40 ∨ x = 124) (fun n l a u f b c => b_X6_operandStands G0 G1 G2 G3 n l a u f b c 0 (nI o)) := by
  intro u k p m fault code na nc st h1 h2 h3 h4
  show Sf (b_X6_operandStands G0 G1 G2 G3 200 (nI e) (nI p) (nI u) fault b code 0 (nI o)) _
  rw [b_X6_operandStands, if_pos rfl]
  exact Sf_cb5 (hP u k p m fault code na nc st h1 h2 h3 h4) (fun r a' u' f' code' hp => Sf_bo (cPost_bo hp) (Sf_some hp))
theorem simR1 {G0 G1 : GT4} {G2 G3 : GT3} (he : e ≤ 120) (hb : TBy b t) (hO : cHyp e b t 5 o baseC (fun n l a u f b c => G1 n l a u f b c 1 (nI o))) : cHyp e b t 1 o (fun x => x = 40 ∨ x = 124) (fun n l a u f b c => b_X6_rowStands G0 G1 G2 G3 n l a u f b c 1 (nI o)) := by
  refine rowC (kd := 1) (kdO := 5) (fl := 0) (p1 := 1) (sg := 38) (preO := baseC) he hb ?_ ?_ (Or.inr rfl) (Or.inl ⟨rfl, rfl⟩) (Or.inr (Or.inl rfl)) ?_ ?_ ?_ ?_ (by decide) hO ?_
  · intro c hc
    rw [f_X6_joins, if_neg (by decide), if_pos rfl, if_neg hc]
  · decide
  · intro j st m hp
    rcases hp with hp | hp | hp
    · exact absurd hp.1 (by omega)
    · exact ⟨by omega, fun i hi => Or.inl (hp.2.2 i hi)⟩
    · exact absurd hp.1 (by omega)
  · intro j st m hp hc
    rcases hp with hp | hp | hp
    · refine Or.inr (Or.inl ⟨rfl, by omega, fun i hi => ?_⟩)
      have : i = 0 := by omega
      subst this
      exact hc
    · exact absurd hp.1 (by omega)
    · exact absurd hp.1 (by omega)
  · intro j st m hp
    rcases hp with hp | hp | hp
    · exact Or.inr (Or.inl ⟨rfl, by omega, fun i hi => absurd hi (by omega)⟩)
    · exact absurd hp.1 (by omega)
    · exact absurd hp.1 (by omega)
  · intro h _ hc
    exact ⟨fun _ => hc, fun w => absurd w (by omega)⟩
  · intro x hx
    rcases hx with h | h <;> subst h
    · exact ⟨Or.inl rfl, by rintro (w | w); exact absurd w (by decide); exact absurd rfl w.1⟩
    · exact ⟨Or.inr (Or.inr rfl), by rintro (w | w); exact absurd w (by decide); exact absurd rfl w.1⟩
theorem simR0 {G0 G1 : GT4} {G2 G3 : GT3} (he : e ≤ 120) (hb : TBy b t) (hO : cHyp e b t 1 o (fun x => x = 40 ∨ x = 124) (fun n l a u f b c => G1 n l a u f b c 0 (nI o))) : cHyp e b t 0 o (fun x => x = 40) (fun n l a u f b c => b_X6_rowStands G0 G1 G2 G3 n l a u f b c 0 (nI o)) := by
  refine rowC (kd := 0) (kdO := 1) (fl := 1) (p1 := 0) (sg := 124) (preO := fun x => x = 40 ∨ x = 124) he hb ?_ ?_ (Or.inl rfl) (Or.inr ⟨rfl, rfl⟩) (Or.inr rfl) ?_ ?_ ?_ ?_ (by decide) hO ?_
  · intro c hc
    rw [f_X6_joins, if_pos rfl, if_neg hc]
  · decide
  · intro j st m hp
    rcases hp with hp | hp | hp
    · exact absurd hp.1 (by omega)
    · exact absurd hp.1 (by omega)
    · refine ⟨hp.2.1, fun i hi => ?_⟩
      rcases hp.2.2 i hi with g | g
      · exact Or.inl g
      · exact Or.inr ⟨by decide, g⟩
  · intro j st m hp hc
    rcases hp with hp | hp | hp
    · exact absurd hp.1 (by omega)
    · refine Or.inr (Or.inr ⟨rfl, by omega, fun i hi => ?_⟩)
      by_cases d : i = 0
      · subst d; exact Or.inr hc
      · have := hp.2.2 (i - 1) (by omega)
        rw [show m + 1 + (i - 1) = m + i by omega] at this
        exact Or.inl this
    · exact absurd hp.1 (by omega)
  · intro j st m hp
    rcases hp with hp | hp | hp
    · exact absurd hp.1 (by omega)
    · exact Or.inr (Or.inr ⟨rfl, by omega, fun i hi => Or.inl (hp.2.2 i hi)⟩)
    · exact absurd hp.1 (by omega)
  · intro h h1 hc
    exact ⟨fun w => absurd w (by omega), fun _ => ⟨h1.1 rfl, hc⟩⟩
  · intro x hx
    subst hx
    exact ⟨Or.inl rfl, by rintro (w | w); exact absurd w (by decide); exact absurd w.2 (by decide)⟩
/-- a C of the class and of the reference -/
theorem simC (he : e ≤ 120) (hb : TBy b t) : ∀ (D o : Nat), o ≤ 6 →
    (6 + 5 * (6 - o) ≤ D → pHyp e b t o (fun n l a u f b c => f_grp D 2 n l a u f b c (nI o) 0)) ∧
    (7 + 5 * (6 - o) ≤ D → cHyp e b t 5 o baseC (fun n l a u f b c => f_grp D 1 n l a u f b c 1 (nI o))) ∧
    (8 + 5 * (6 - o) ≤ D → cHyp e b t 1 o (fun x => x = 40 ∨ x = 124) (fun n l a u f b c => f_grp D 0 n l a u f b c 1 (nI o))) ∧
    (9 + 5 * (6 - o) ≤ D → cHyp e b t 1 o (fun x => x = 40 ∨ x = 124) (fun n l a u f b c => f_grp D 1 n l a u f b c 0 (nI o))) ∧
    (10 + 5 * (6 - o) ≤ D → cHyp e b t 0 o (fun x => x = 40) (fun n l a u f b c => f_grp D 0 n l a u f b c 0 (nI o))) := by
  intro D
  induction D with
  | zero => intro o ho; exact ⟨fun h => absurd h (by omega), fun h => absurd h (by omega), fun h => absurd h (by omega), fun h => absurd h (by omega), fun h => absurd h (by omega)⟩
  | succ D ih =>
    intro o ho
    obtain ⟨i1, i2, i3, i4, i5⟩ := ih o ho
    refine ⟨fun h => ?_, fun h => ?_, fun h => ?_, fun h => ?_, fun h => ?_⟩
    · intro u k p w r fault code na nc st h1 h2 h3 h4 h5 h6
      show Sf (f_grp (D + 1) 2 200 (nI e) (nI p) (nI u) fault b code (nI o) 0) _
      rw [f_grp, if_neg (by decide), if_neg (by decide), if_pos rfl]
      exact simP he hb ho (fun ho6 => (ih (o + 1) (by omega)).2.2.2.2 (by omega)) (fun ho6 => (ih (o + 1) (by omega)).1 (by omega)) ((simE he hb D o ho).2.2.2.2 (by omega)) u k p w r fault code na nc st h1 h2 h3 h4 h5 h6
    · intro u k p m fault code na nc st h1 h2 h3 h4
      show Sf (f_grp (D + 1) 1 200 (nI e) (nI p) (nI u) fault b code 1 (nI o)) _
      rw [f_grp, if_neg (by decide), if_pos rfl]
      exact simO1 (i1 (by omega)) u k p m fault code na nc st h1 h2 h3 h4
    · intro u k p m fault code na nc st h1 h2 h3 h4
      show Sf (f_grp (D + 1) 0 200 (nI e) (nI p) (nI u) fault b code 1 (nI o)) _
      rw [f_grp, if_pos rfl]
      exact simR1 he hb (i2 (by omega)) u k p m fault code na nc st h1 h2 h3 h4
    · intro u k p m fault code na nc st h1 h2 h3 h4
      show Sf (f_grp (D + 1) 1 200 (nI e) (nI p) (nI u) fault b code 0 (nI o)) _
      rw [f_grp, if_neg (by decide), if_pos rfl]
      exact simO0 (i3 (by omega)) u k p m fault code na nc st h1 h2 h3 h4
    · intro u k p m fault code na nc st h1 h2 h3 h4
      show Sf (f_grp (D + 1) 0 200 (nI e) (nI p) (nI u) fault b code 0 (nI o)) _
      rw [f_grp, if_pos rfl]
      exact simR0 he hb (i4 (by omega)) u k p m fault code na nc st h1 h2 h3 h4
end S8
end
section
/-! a clause, a text -/
theorem tpN_0 (st : Nat → Int32) : tpN st 0 = 0 := by unfold tpN; rw [if_pos rfl]
section S9
variable {e k o p m k' o' p' m' a j u : Nat} {b t na nc st na' nc' st' : Nat → Int32}
theorem go_over (he : e ≤ 120) (hp : a < e) (hc : hN t e a = 41) (hm : st 0 = 40) (h1 : ∀ i, i < j → jq 1 (st (1 + i))) (h2 : k + j ≤ 120) (h3 : 1 + j < 160) (ib : Int32) (n : Nat) : dL e t (n + 1 + 1) 0 ib k 1 a (1 + j) na nc st = some (nI (a + 1), 0, nI (k + j), nI 0, nI 0, 1, ib, emC z0 1 j na k, emC st 1 j nc k, st) := by
  have ht : tpN st 1 = 40 := by unfold tpN; rw [if_neg (by omega)]; exact hm
  have hq : ¬ jq 1 (tpN st 1) := by
    rw [ht]
    rintro (h | h)
    · exact absurd h (by decide)
    · exact absurd h.2 (by decide)
  rw [dL_0, f_X12_goesBehind, here_n he (by omega), cb1_o, hc, if_neg (by decide), if_neg (by decide), if_pos rfl, joins_e hq h1 h2 (by omega), cb4_o, nmI_o, nmI_o, nmI_o, show nI 1 - 1 = nI 0 from nI_pred 0, nI_1, if_pos nI_0, f_X12_goesBehind_J104]
  unfold bo
  rw [if_pos (Or.inr rfl), if_neg (by decide), cb10_o, f_X12_condition_L37, isGood_0, cb1_o, if_neg (by decide), if_neg (by decide)]
theorem cond_dL (iso ib : Int32) (he : e ≤ 120) (hp : p < e) (hc : hN t e p = 40) : f_X12_condition (nI p) (nI e) 0 (nI k) (nI 0) (nI 0) iso ib na nc st t = dL e t FU 1 ib k 1 (p + 1) 1 na nc (upd st 0 40) := by
  rw [f_X12_condition, here_n he (by omega), cb1_o, if_pos hc, f_X12_condition_J23, isGood_0, cb1_o, if_neg (by decide), opens_n he (by omega) hc (by omega) (by omega), cb5_o]
  rfl
theorem cond_no (iso ib : Int32) (he : e ≤ 120) (hp : p ≤ e) (hc : ¬ hN t e p = 40) : f_X12_condition (nI p) (nI e) 0 (nI k) (nI 0) (nI 0) iso ib na nc st t = some (nI p, badC 1 p, nI k, nI 0, nI 0, 0, ib, na, nc, st) := by
  rw [f_X12_condition, here_n he hp, cb1_o, if_neg hc, wrongs_n, cb1_o, f_X12_condition_J23, isGood_n (badC_ne (by decide) (by decide) (by omega)), cb1_o, if_pos rfl]
theorem cond_bad {d : Int32} (iso ib : Int32) (he : e ≤ 120) (hp : p < e) (hc : hN t e p = 40) (h : dbad e t k 1 (p + 1) 1 na nc (upd st 0 40) d) : ∃ (p1 k1 o1 m1 ov ib1 : Int32) (na1 nc1 st1 : Nat → Int32), f_X12_condition (nI p) (nI e) 0 (nI k) (nI 0) (nI 0) iso ib na nc st t = some (p1, d, k1, o1, m1, ov, ib1, na1, nc1, st1) := by
  obtain ⟨J, hJ, h⟩ := h
  obtain ⟨p1, k1, o1, m1, ov, ib1, na1, nc1, st1, h⟩ := h ib
  obtain ⟨n, hn⟩ : ∃ n, FU = n + 1 + J := ⟨FU - J - 1, by have := FU_ge; omega⟩
  exact ⟨p1, k1, o1, m1, ov, ib1, na1, nc1, st1, by rw [cond_dL iso ib he hp hc, hn, h n]⟩
theorem cond_run (iso ib : Int32) (he : e ≤ 120) (hp : p < e) (hc : hN t e p = 40) (h : drun e t k 1 (p + 1) 1 na nc (upd st 0 40) k' 1 a (1 + j) na' nc' st') (hal : a < e) (hca : hN t e a = 41) (hm : st' 0 = 40) (h1 : ∀ i, i < j → jq 1 (st' (1 + i))) (h2 : k' + j ≤ 120) (h3 : 1 + j < 160) : ∃ ib' : Int32, f_X12_condition (nI p) (nI e) 0 (nI k) (nI 0) (nI 0) iso ib na nc st t = some (nI (a + 1), 0, nI (k' + j), nI 0, nI 0, 1, ib', emC z0 1 j na' k', emC st' 1 j nc' k', st') := by
  obtain ⟨J, hJ, h⟩ := h
  obtain ⟨ib1, h⟩ := h ib
  obtain ⟨n, hn⟩ : ∃ n, FU = (n + 1) + 1 + J := ⟨FU - J - 2, by have := FU_ge; omega⟩
  exact ⟨ib1, by rw [cond_dL iso ib he hp hc, hn, h (n + 1), go_over he hal hca hm h1 h2 h3]⟩
end S9
def txS (lw : Int32) (code nc na : Nat → Int32) (s L1 L2 : Nat) : Prop := (¬ lw = 0 → ∃ f : Sem, CR code s L1 16 f ∧ RR nc na s L1 f) ∧ ∃ g : Sem, isBoo g ∧ CR code (s + L1) L2 16 g ∧ RR nc na (s + L1) L2 g
/-- what a clause leaves, on both sides -/
def clOK (e : Nat) (lw : Int32) (code0 mid0 sta0 na nc nf ns nt : Nat → Int32) (i u p a : Nat) (us : Int32) (code' mid' sta' : Nat → Int32) (z : Int32 × Int32 × Int32 × Int32 × Int32 × Int32 × Int32 × Int32 × (Nat → Int32) × (Nat → Int32) × (Nat → Int32) × (Nat → Int32) × (Nat → Int32) × (Nat → Int32)) : Prop :=
  ∃ (L1 L2 : Nat) (iso' ib' : Int32) (na' nc' st' : Nat → Int32), p < a ∧ a ≤ e ∧ L1 + L2 + p ≤ a ∧ us = nI (u + L1 + L2) ∧ (∀ i, i < u → code' i = code0 i) ∧ (∀ i, i < u → nc' i = nc i ∧ na' i = na i) ∧ mid' = upd mid0 i (nI (u + L1)) ∧ sta' = upd sta0 (i + 1) (nI (u + L1 + L2)) ∧ z = (nI a, 0, nI (i + 1), nI (u + L1 + L2), nI 0, nI 0, iso', ib', na', nc', upd nf i (nI (u + L1)), upd ns i (nI u), upd nt i (nI (u + L1 + L2)), st') ∧ txS lw code' nc' na' u L1 L2
def clPost (e : Nat) (lw : Int32) (code0 mid0 sta0 na nc nf ns nt : Nat → Int32) (i u p : Nat) (R : Option (Int32 × Int32 × Int32 × Int32 × Int32 × Int32 × Int32 × Int32 × (Nat → Int32) × (Nat → Int32) × (Nat → Int32) × (Nat → Int32) × (Nat → Int32) × (Nat → Int32))) (y : Int32 × Int32 × Int32 × Int32 × (Nat → Int32) × (Nat → Int32) × (Nat → Int32)) : Prop :=
  (y.1 = 0 ∧ ∃ a : Nat, y.2.1 = nI a ∧ a ≤ e ∧ (1 ≤ y.2.2.2.1.toInt ∧ y.2.2.2.1.toInt ≤ 9) ∧ ∃ z, R = some z ∧ z.2.1 = badC y.2.2.2.1 a) ∨
  (y.1 = 1 ∧ ∃ (a : Nat) (z : _), y.2.1 = nI a ∧ R = some z ∧ clOK e lw code0 mid0 sta0 na nc nf ns nt i u p a y.2.2.1 y.2.2.2.2.1 y.2.2.2.2.2.1 y.2.2.2.2.2.2 z)
section S10
variable {e : Nat} {b t : Nat → Int32}
/-- from the bracket of a clause's C on -/
theorem clause_C {p1 u i L1 p : Nat} {lw f0 iso ib : Int32} {code0 code mid sta na0 nc0 na nc nf ns nt st : Nat → Int32} (he : e ≤ 120) (hb : TBy b t) (hi : i < 12) (hp1 : p1 ≤ e) (hpp : p < p1) (hL : L1 + p + 1 ≤ p1) (hup : u ≤ p) (hcode : ∀ i, i < u → code i = code0 i) (hnc : ∀ i, i < u → nc i = nc0 i ∧ na i = na0 i)
    (hE : ¬ lw = 0 → ∃ f : Sem, CR code u L1 16 f ∧ RR nc na u L1 f) (hE0 : lw = 0 → L1 = 0) :
    Sf (f_X6_clauseStands_J25 (nI e) 200 b mid sta (nI i) (nI p1) f0 (nI (u + L1)) code) (clPost e lw code0 mid sta na0 nc0 nf ns nt i u p (f_X12_clause_J97 (nI e) (nI i) iso nf nt t (upd ns i (nI u)) 0 (nI (u + L1)) ib (nI 0) (nI p1) (nI 0) na nc st)) := by
  have ji : jin (nI i) 12 = true := jin_n hi (by omega)
  have f1 : 1 ≤ (1 : Int32).toInt ∧ (1 : Int32).toInt ≤ 9 := by decide
  rw [f_X6_clauseStands_J25, wrI_o ji, nI_clamp (by omega), sign_n he hp1 hb (by decide)]
  have hJ97 : ∀ R, f_X12_condition (nI p1) (nI e) 0 (nI (u + L1)) (nI 0) (nI 0) iso ib na nc st t = some R → f_X12_clause_J97 (nI e) (nI i) iso nf nt t (upd ns i (nI u)) 0 (nI (u + L1)) ib (nI 0) (nI p1) (nI 0) na nc st = some (R.1, R.2.1, nI (i + 1), R.2.2.1, R.2.2.2.1, R.2.2.2.2.1, R.2.2.2.2.2.1, R.2.2.2.2.2.2.1, R.2.2.2.2.2.2.2.1, R.2.2.2.2.2.2.2.2.1, upd nf i (nI (u + L1)), upd ns i (nI u), upd nt i R.2.2.1, R.2.2.2.2.2.2.2.2.2) := by
    intro R hR
    obtain ⟨r1, r2, r3, r4, r5, r6, r7, r8, r9, r10⟩ := R
    rw [f_X12_clause_J97, wrI_o ji, nI_clamp (by omega), isGood_0, cb1_o, if_neg (by decide), hR, cb10_o, f_X12_clause_J121, wrI_o ji, nI_clamp (by omega), nmI_o, nI_1]
  by_cases c : hN t e p1 = 40
  · have hpl : p1 < e := hN_lt (t := t) (by rw [c]; decide)
    rw [if_pos c, cb3_o, if_neg (by decide)]
    have htc : tpN (upd st 0 40) 1 = 40 := by unfold tpN; rw [if_neg (by omega)]; exact upd_s _ _ _
    have hC := (simC (b := b) he hb 100 1 (by omega)).2.2.2.2 (by omega) (u + L1) (u + L1) (p1 + 1) 1 f0 code na nc (upd st 0 40) (by omega) (by omega) (by omega) htc
    have hC : Sf (f_X6_rowStands 200 (nI e) (nI (p1 + 1)) (nI (u + L1)) f0 b code 0 1) (cPost e t 0 code (u + L1) (u + L1) 1 (p1 + 1) 1 na nc (upd st 0 40)) := hC
    refine Sf_cb5 hC (fun r a' u' f' code' hp => ?_)
    rcases hp with ⟨r0, a, ea, hae, hf, hv⟩ | ⟨r1, a, u2, ea, hae, eu, hu2, h93, hv⟩ | ⟨r1, a, k', j, na', nc', st', ea, q1, q2, q3, q4, q5, q6, q7, q8, q9, q10, ⟨g, gb, gC, gR⟩, q12⟩
    · have r0 : r = 0 := r0
      have ea : a' = nI a := ea
      rw [if_pos r0]
      obtain ⟨x1, x2, x3, x4, x5, x6, x7, x8, x9, hx⟩ := cond_bad iso ib he hpl c hv
      exact Sf_some (Or.inl ⟨rfl, a, ea, hae, hf, _, hJ97 _ hx, rfl⟩)
    · have r1 : r = 1 := r1
      have ea : a' = nI a := ea
      rw [if_neg (by rw [r1]; decide), ea, sign_n he hae hb (by decide), if_neg (by rw [h93]; decide), cb3_o, if_pos rfl]
      obtain ⟨x1, x2, x3, x4, x5, x6, x7, x8, x9, hx⟩ := cond_bad iso ib he hpl c hv
      exact Sf_some (Or.inl ⟨rfl, a, rfl, hae, f1, _, hJ97 _ hx, rfl⟩)
    · have r1 : r = 1 := r1
      have ea : a' = nI a := ea
      have q8 : u' = nI (u + L1 + (k' + j - (u + L1))) := q8
      have q9 : ∀ i, i < u + L1 → code' i = code i := q9
      rw [if_neg (by rw [r1]; decide), ea, sign_n he q2 hb (by decide)]
      by_cases d : hN t e a = 41
      · have hal : a < e := hN_lt (t := t) (by rw [d]; decide)
        have hpj : j ≤ 2 ∧ ∀ i, i < j → jq 1 (st' (1 + i)) := by
          rcases q7 with h | h | h
          · exact absurd h.1 (by omega)
          · exact absurd h.1 (by omega)
          · refine ⟨h.2.1, fun i hi => ?_⟩
            rcases h.2.2 i hi with g | g
            · exact Or.inl g
            · exact Or.inr ⟨by decide, g⟩
        obtain ⟨ib', hx⟩ := cond_run iso ib he hpl c q5 hal d (by rw [q6 0 (by omega), upd_s]) hpj.2 (by omega) (by omega)
        have ji1 : jin (nI i + 1) 13 = true := by rw [nI_1]; exact jin_n (by omega) (by omega)
        rw [if_pos d, cb3_o, if_neg (by decide), wrI_o ji1, nI_1, nI_clamp (by omega)]
        have hlen : k' + j = u + L1 + (k' + j - (u + L1)) := by omega
        refine Sf_some (Or.inr ⟨rfl, a + 1, _, rfl, hJ97 _ hx, L1, k' + j - (u + L1), 1, ib', emC z0 1 j na' k', emC st' 1 j nc' k', st', by omega, by omega, by omega, q8, fun i hi => ?_, fun i hi => ?_, rfl, ?_, ?_, ?_, ?_⟩)
        · show code' i = code0 i
          rw [q9 i (by omega)]; exact hcode i hi
        · obtain ⟨w1, w2⟩ := q10 i (by omega)
          rw [emC_lo (by omega), emC_lo (by omega), w1, w2]; exact hnc i hi
        · show upd sta (i + 1) u' = _
          rw [q8]
        · show (nI (a + 1), (0 : Int32), nI (i + 1), nI (k' + j), nI 0, nI 0, (1 : Int32), ib', emC z0 1 j na' k', emC st' 1 j nc' k', upd nf i (nI (u + L1)), upd ns i (nI u), upd nt i (nI (k' + j)), st') = _
          rw [← hlen]
        · intro h
          obtain ⟨f, fC, fR⟩ := hE h
          refine ⟨f, CR_congr fC (fun i hi => q9 _ (by omega)), RR_congr fR (fun i hi => ?_)⟩
          obtain ⟨w1, w2⟩ := q10 (u + i) (by omega)
          rw [emC_lo (by omega), emC_lo (by omega)]
          exact ⟨w1, w2⟩
        · exact ⟨g, gb, CR_mono gC (by unfold bc; omega), gR⟩
      · rw [if_neg d, cb3_o, if_pos rfl]
        have hst := q12.2 rfl
        obtain ⟨x1, x2, x3, x4, x5, x6, x7, x8, x9, hx⟩ := cond_bad iso ib he hpl c (dbad_wrong q2 he q5 hst.1 hst.2 d)
        exact Sf_some (Or.inl ⟨rfl, a, rfl, q2, f1, _, hJ97 _ hx, rfl⟩)
  · rw [if_neg c, cb3_o, if_pos rfl]
    exact Sf_some (Or.inl ⟨rfl, p1, rfl, hp1, f1, _, hJ97 _ (cond_no iso ib he hp1 c), rfl⟩)
set_option maxHeartbeats 4000000 in
theorem clause_sim {p u i : Nat} {lw lt f0 o0 m0 iso ib : Int32} {code mid sta na nc nf ns nt st : Nat → Int32} (he : e ≤ 120) (hb : TBy b t) (hi : i < 12) (hp : p ≤ e) (hup : u ≤ p) (hlw : (lw = 0 ∧ lt = 107) ∨ (lw = 1 ∧ lt = 104)) :
    Sf (f_X6_clauseStands 200 (nI e) (nI p) (nI u) f0 b code mid sta lt (nI i)) (clPost e lw code mid sta na nc nf ns nt i u p (f_X12_clause (nI p) (nI e) 0 (nI i) (nI u) o0 m0 iso ib na nc nf ns nt st t lw)) := by
  have ji : jin (nI i) 12 = true := jin_n hi (by omega)
  have f1 : 1 ≤ (1 : Int32).toInt ∧ (1 : Int32).toInt ≤ 9 := by decide
  have hlt : 0 < lt.toInt := by rcases hlw with h | h <;> rw [h.2] <;> decide
  have hne12 : ¬ nI i = 12 := fun w => by have := (nI_eq (b := 12) (by omega) (by omega)).mp w; omega
  rw [f_X6_clauseStands, sign_n he hp hb hlt]
  have hR : f_X12_clause (nI p) (nI e) 0 (nI i) (nI u) o0 m0 iso ib na nc nf ns nt st t lw = f_X12_clause_J15 (nI p) (nI e) 0 (nI i) (nI u) o0 m0 iso ib na nc nf ns nt st t lw (hN t e p) lt := by
    rw [f_X12_clause, here_n he hp, cb1_o]
    rcases hlw with h | h
    · rw [if_pos h.1, h.2]
    · rw [if_neg (by rw [h.1]; decide), h.2]
  by_cases c : hN t e p = lt
  · have hpl : p < e := hN_lt (t := t) (by rw [c]; intro w; have := eqI w; have z : (0 : Int32).toInt = 0 := (by decide); omega)
    rw [if_pos c, cb3_o, if_neg (by decide)]
    have hR2 : f_X12_clause (nI p) (nI e) 0 (nI i) (nI u) o0 m0 iso ib na nc nf ns nt st t lw = if lw = 0 then f_X12_clause_J97 (nI e) (nI i) iso nf nt t (upd ns i (nI u)) 0 (nI u) ib 0 (nI (p + 1)) 0 na nc st else cb9 (f_X12_value (nI (p + 1)) (nI e) 0 (nI u) 0 0 ib na nc st t) (fun p1 d1 k1 o1 m1 ib1 na1 nc1 st1 => f_X12_clause_J97 (nI e) (nI i) iso nf nt t (upd ns i (nI u)) d1 k1 ib1 o1 p1 m1 na1 nc1 st1) := by
      rw [hR, f_X12_clause_J15, if_pos c, if_neg hne12, f_X12_clause_J48, isGood_0, cb1_o, if_neg (by decide), wrI_o ji, nI_clamp (by omega), nmI_o, nI_1]
    rcases hlw with ⟨h0, h1⟩ | ⟨h0, h1⟩
    · rw [if_neg (by rw [h1]; decide), hR2, if_pos h0]
      have h := clause_C (lw := lw) (L1 := 0) (u := u) (p := p) (p1 := p + 1) (code0 := code) (na0 := na) (nc0 := nc) (mid := mid) (sta := sta) (nf := nf) (ns := ns) (nt := nt) (iso := iso) (ib := ib) (st := st) (f0 := f0) he hb hi (by omega) (by omega) (by omega) hup (fun _ _ => rfl) (fun _ _ => ⟨rfl, rfl⟩) (fun w => absurd h0 w) (fun _ => rfl)
      rw [nI_0] at h
      exact h
    · rw [if_pos h1, hR2, if_neg (by rw [h0]; decide)]
      have hE := (simE (b := b) he hb 100 0 (by omega)).2.2.2.2 (by omega) u u (p + 1) 0 f0 code na nc st (by omega) (by omega) (by omega) (by show ¬ isA (tpN st 0); rw [tpN_0]; unfold isA; decide)
      have hE : Sf (f_X6_rowStands 200 (nI e) (nI (p + 1)) (nI u) f0 b code 2 0) (ePost e t 2 code u u 0 (p + 1) 0 na nc st) := hE
      refine Sf_cb5 hE (fun r a' u' f' code' hp => ?_)
      have hbd : ∀ d : Int32, ¬ d = 0 → ∀ (p1 k1 o1 m1 ib1 : Int32) (na1 nc1 st1 : Nat → Int32), f_X12_value (nI (p + 1)) (nI e) 0 (nI u) 0 0 ib na nc st t = some (p1, d, k1, o1, m1, ib1, na1, nc1, st1) → ∃ z, cb9 (f_X12_value (nI (p + 1)) (nI e) 0 (nI u) 0 0 ib na nc st t) (fun p1 d1 k1 o1 m1 ib1 na1 nc1 st1 => f_X12_clause_J97 (nI e) (nI i) iso nf nt t (upd ns i (nI u)) d1 k1 ib1 o1 p1 m1 na1 nc1 st1) = some z ∧ z.2.1 = d := by
        intro d hd p1 k1 o1 m1 ib1 na1 nc1 st1 h
        refine ⟨(p1, d, nI (i + 1), k1, o1, m1, iso, ib1, na1, nc1, upd nf i k1, upd ns i (nI u), upd nt i k1, st1), ?_, rfl⟩
        rw [h, cb9_o, f_X12_clause_J97, wrI_o ji, nI_clamp (by omega), isGood_n hd, cb1_o, if_pos rfl, f_X12_clause_J121, wrI_o ji, nI_clamp (by omega), nmI_o, nI_1]
      rcases hp with ⟨r0, a, ea, hae, hf, hv⟩ | ⟨r1, a, k1, j1, na1, nc1, st1, ea, q1, q2, q3, q4, q5, q6, q7, q8, q9, q10, ⟨f, fC, fR⟩, q12⟩
      · have r0 : r = 0 := r0
        have ea : a' = nI a := ea
        rw [if_pos r0]
        obtain ⟨x1, x2, x3, x4, x5, x6, x7, x8, hx⟩ := val_bad ib he hv
        exact Sf_some (Or.inl ⟨rfl, a, ea, hae, hf, hbd _ (badC_ne hf.1 hf.2 (by omega)) _ _ _ _ _ _ _ _ hx⟩)
      · have r1 : r = 1 := r1
        have ea : a' = nI a := ea
        have q8 : u' = nI (u + (k1 + j1 - u)) := q8
        have hpd : j1 ≤ 2 ∧ ∀ i, i < j1 → isA (st1 (0 + i)) := by
          rcases q7 with h | h | h
          · exact absurd h.1 (by omega)
          · exact absurd h.1 (by omega)
          · exact h.2
        have hV := val_run ib he q2 q5 (q12.2 rfl) (by rw [tpN_0]; unfold isA; decide) (by rw [tpN_0]; decide) hpd.2 (by omega) (by omega)
        rw [if_neg (by rw [r1]; decide), ea, q8]
        by_cases d93 : hN t e a = 93
        · have hx := hV.2 d93
          rw [f_X6_clauseStands_J25, wrI_o ji, sign_n he q2 hb (by decide), if_neg (by rw [d93]; decide), cb3_o, if_pos rfl]
          exact Sf_some (Or.inl ⟨rfl, a, rfl, q2, f1, hbd _ (badC_ne (f := 1) (by decide) (by decide) (by omega)) _ _ _ _ _ _ _ _ hx⟩)
        · have hx : f_X12_value (nI (p + 1)) (nI e) 0 (nI u) 0 0 ib na nc st t = some (nI a, 0, nI (u + (k1 + j1 - u)), nI 0, nI 0, 0, emC z0 0 j1 na1 k1, emC st1 0 j1 nc1 k1, st1) := by rw [show u + (k1 + j1 - u) = k1 + j1 by omega]; exact hV.1 d93
          rw [hx, cb9_o]
          refine clause_C (lw := lw) (L1 := k1 + j1 - u) (u := u) (p := p) (p1 := a) (code0 := code) (na0 := na) (nc0 := nc) he hb hi q2 (by omega) (by omega) hup q9 (fun i hi => ?_) (fun _ => ⟨f, CR_mono fC (by unfold bd; omega), fR⟩) (fun w => absurd (w.symm.trans h0) (by decide))
          rw [emC_lo (by omega), emC_lo (by omega)]; exact q10 i hi
  · rw [if_neg c, cb3_o, if_pos rfl]
    refine Sf_some (Or.inl ⟨rfl, p, rfl, hp, f1, ?_⟩)
    rw [hR, f_X12_clause_J15, if_neg c, wrongs_n, cb1_o, f_X12_clause_J48, isGood_n (badC_ne (by decide) (by decide) (by omega)), cb1_o, if_pos rfl]
    exact ⟨_, rfl, rfl⟩
end S10
end
section
/-! a whole text of clauses -/
abbrev R23 : Type := Int32 × Int32 × Int32 × Int32 × Int32 × Int32 × Int32 × Int32 × Int32 × Int32 × Int32 × (Nat → Int32) × (Nat → Int32) × (Nat → Int32) × (Nat → Int32) × (Nat → Int32) × (Nat → Int32) × (Nat → Int32) × (Nat → Int32) × (Nat → Int32) × (Nat → Int32) × (Nat → Int32) × (Nat → Int32)
abbrev KT86 : Type := Int32 → Int32 → Int32 → Int32 → Int32 → Int32 → Int32 → Int32 → (Nat → Int32) → (Nat → Int32) → (Nat → Int32) → (Nat → Int32) → (Nat → Int32) → (Nat → Int32) → Option R23
def txC (lw : Int32) (code nc na mid sta nf ns nt : Nat → Int32) (c u : Nat) : Prop := ∃ s L1 L2 : Nat, sta c = nI s ∧ mid c = nI (s + L1) ∧ sta (c + 1) = nI (s + L1 + L2) ∧ ns c = nI s ∧ nf c = nI (s + L1) ∧ nt c = nI (s + L1 + L2) ∧ s + L1 + L2 ≤ u ∧ txS lw code nc na s L1 L2
def tPost (e : Nat) (lw : Int32) (K : KT86) (R : Option R23) (y : Int32 × Int32 × Int32 × Int32 × (Nat → Int32) × (Nat → Int32) × (Nat → Int32) × Option kTv) : Prop :=
  (y.2.2.2.2.2.2.2 = none ∧ ∃ a : Nat, y.2.1 = nI a ∧ a ≤ e ∧ (1 ≤ y.2.2.2.1.toInt ∧ y.2.2.2.1.toInt ≤ 9) ∧ ∃ (cl k ib iso o p m : Int32) (na nc nf ns nt st : Nat → Int32), R = K (badC y.2.2.2.1 a) cl k ib iso o p m na nc nf ns nt st) ∨
  (∃ (c u' : Nat) (code' mid' sta' : Nat → Int32) (ib iso o p m : Int32) (na nc nf ns nt st : Nat → Int32), 1 ≤ c ∧ c ≤ 12 ∧ u' ≤ 120 ∧ y.2.2.2.2.2.2.2 = some (nI c, (u', code'), (c + 1, sta'), (c, mid')) ∧ R = K 0 (nI c) (nI u') ib iso o p m na nc nf ns nt st ∧ ∀ x, x < c → txC lw code' nc na mid' sta' nf ns nt x u')
theorem txC_add {lw : Int32} {code nc na mid sta nf ns nt code' nc' na' : Nat → Int32} {c u i u' : Nat} {x y z v w : Int32} (h : txC lw code nc na mid sta nf ns nt c u) (hc : c < i) (hcode : ∀ j, j < u → code' j = code j) (hnc : ∀ j, j < u → nc' j = nc j ∧ na' j = na j) (huu : u ≤ u') : txC lw code' nc' na' (upd mid i x) (upd sta (i + 1) y) (upd nf i z) (upd ns i v) (upd nt i w) c u' := by
  obtain ⟨s, L1, L2, h1, h2, h3, h4, h5, h6, h7, h8, g, gb, gC, gR⟩ := h
  refine ⟨s, L1, L2, by rw [upd_n (by omega)]; exact h1, by rw [upd_n (by omega)]; exact h2, by rw [upd_n (by omega)]; exact h3, by rw [upd_n (by omega)]; exact h4, by rw [upd_n (by omega)]; exact h5, by rw [upd_n (by omega)]; exact h6, by omega, fun hl => ?_, g, gb, CR_congr gC (fun j hj => hcode _ (by omega)), RR_congr gR (fun j hj => hnc _ (by omega))⟩
  obtain ⟨f, fC, fR⟩ := h8 hl
  exact ⟨f, CR_congr fC (fun j hj => hcode _ (by omega)), RR_congr fR (fun j hj => hnc _ (by omega))⟩
theorem written_n {code mid sta : Nat → Int32} {u i : Nat} (hu : u ≤ 120) (hi : i < 12) : f_X6_written (nI u) code mid sta (nI i + 1) = some (some (nI (i + 1), (u, code), (i + 1 + 1, sta), (i + 1, mid))) := by
  have h1 : (nI u).toInt = (u : Int) := nI_toInt (by omega)
  have h2 : (nI (i + 1)).toInt = ((i + 1 : Nat) : Int) := nI_toInt (by omega)
  unfold f_X6_written
  rw [nI_1, if_pos ⟨by omega, by omega, by omega, by omega⟩, nI_clamp (by omega), nI_1, nI_clamp (by omega), nI_clamp (by omega)]
set_option maxHeartbeats 4000000 in
theorem text_L {e : Nat} {b t : Nat → Int32} {lw lt : Int32} {K : KT86} (he : e ≤ 120) (hb : TBy b t) (hlw : (lw = 0 ∧ lt = 107) ∨ (lw = 1 ∧ lt = 104)) : ∀ (r i n n' p u : Nat) (fault o0 m0 iso ib : Int32) (code mid sta na nc nf ns nt st : Nat → Int32), i + r = 12 → p ≤ e → u ≤ p → sta i = nI u → (∀ c, c < i → txC lw code nc na mid sta nf ns nt c u) →
    Sf (f_X6_writeClauses_L9 200 b lt (nI e) (f_X6_writeClauses_J39 (nI e)) (f_X6_writeClauses_J65 200 b lt (nI e)) (n + r + 1) (nI i) (nI p) fault (nI u) code mid sta) (tPost e lw K (f_X12_readsText_L8 t lw (nI e) K (n' + r + 2) 1 0 (nI i) (nI u) ib iso o0 (nI p) m0 na nc nf ns nt st)) := by
  have hlt : 0 < lt.toInt := by rcases hlw with h | h <;> rw [h.2] <;> decide
  intro r
  induction r with
  | zero =>
    intro i n n' p u fault o0 m0 iso ib code mid sta na nc nf ns nt st h1 h2 h3 h4 h5
    have hi : i = 12 := by omega
    subst hi
    rw [Nat.add_zero, f_X6_writeClauses_L9, if_pos (by decide), f_X6_writeClauses_J65, next_n he h2, cb1_o]
    have hR : ∀ f : Int32, 1 ≤ f.toInt → f.toInt ≤ 9 → ((hN t e p = lt ∧ f = 4) ∨ (¬ hN t e p = lt ∧ f = 1)) → f_X12_readsText_L8 t lw (nI e) K (n' + 0 + 2) 1 0 (nI 12) (nI u) ib iso o0 (nI p) m0 na nc nf ns nt st = K (badC f p) (nI 12) (nI u) ib iso o0 (nI p) m0 na nc nf ns nt st := by
      intro f hf1 hf2 hf
      have hg := isGood_n (badC_ne (f := f) (a := p) hf1 hf2 (by omega))
      have hc : f_X12_clause (nI p) (nI e) 0 (nI 12) (nI u) o0 m0 iso ib na nc nf ns nt st t lw = some (nI p, badC f p, nI 12, nI u, o0, m0, iso, ib, na, nc, nf, ns, nt, st) := by
        have hJ : f_X12_clause (nI p) (nI e) 0 (nI 12) (nI u) o0 m0 iso ib na nc nf ns nt st t lw = f_X12_clause_J15 (nI p) (nI e) 0 (nI 12) (nI u) o0 m0 iso ib na nc nf ns nt st t lw (hN t e p) lt := by
          rw [f_X12_clause, here_n he h2, cb1_o]
          rcases hlw with h | h
          · rw [if_pos h.1, h.2]
          · rw [if_neg (by rw [h.1]; decide), h.2]
        rw [hJ, f_X12_clause_J15]
        rcases hf with ⟨d1, d2⟩ | ⟨d1, d2⟩
        · rw [if_pos d1, if_pos (by decide), wrongs_n, cb1_o, ← d2, f_X12_clause_J48, hg, cb1_o, if_pos rfl]
        · rw [if_neg d1, wrongs_n, cb1_o, ← d2, f_X12_clause_J48, hg, cb1_o, if_pos rfl]
      rw [f_X12_readsText_L8, if_neg (by decide), isGood_0, cb1_o, if_neg (by decide), hc, cb14_o, hg, cb1_o, if_pos rfl, f_X12_readsText_J48, if_pos rfl, f_X12_readsText_L8, if_pos rfl]
    refine Sf_ite (fun c => ?_) (fun c => ?_)
    · have hh := (nh_iff hb lt hlt).mp c
      rw [f_X6_writeClauses_J79, f_X6_fail, cb2_o]
      exact Sf_some (Or.inl ⟨rfl, p, rfl, h2, (show 1 ≤ (4 : Int32).toInt ∧ (4 : Int32).toInt ≤ 9 by decide), _, _, _, _, _, _, _, _, _, _, _, _, _, hR 4 (by decide) (by decide) (Or.inl ⟨hh, rfl⟩)⟩)
    · have hh : ¬ hN t e p = lt := fun w => c ((nh_iff hb lt hlt).mpr w)
      rw [f_X6_writeClauses_J79, f_X6_fail, cb2_o]
      exact Sf_some (Or.inl ⟨rfl, p, rfl, h2, (show 1 ≤ (1 : Int32).toInt ∧ (1 : Int32).toInt ≤ 9 by decide), _, _, _, _, _, _, _, _, _, _, _, _, _, hR 1 (by decide) (by decide) (Or.inr ⟨hh, rfl⟩)⟩)
  | succ r ih =>
    intro i n n' p u fault o0 m0 iso ib code mid sta na nc nf ns nt st h1 h2 h3 h4 h5
    have hi : i < 12 := by omega
    rw [show n + (r + 1) + 1 = (n + r + 1) + 1 by omega, f_X6_writeClauses_L9, if_neg (show ¬ (12 : Int32) ≤ nI i from nI_ge (a := i) (b := 12) hi (by omega))]
    refine Sf_cb7 (clause_sim (lw := lw) (na := na) (nc := nc) (nf := nf) (ns := ns) (nt := nt) (st := st) (o0 := o0) (m0 := m0) (iso := iso) (ib := ib) he hb hi h2 h3 hlw) (fun rr a' u' f' code' mid' sta' hp => ?_)
    have hL : f_X12_readsText_L8 t lw (nI e) K (n' + (r + 1) + 2) 1 0 (nI i) (nI u) ib iso o0 (nI p) m0 na nc nf ns nt st = cb14 (f_X12_clause (nI p) (nI e) 0 (nI i) (nI u) o0 m0 iso ib na nc nf ns nt st t lw) (fun z1 z2 z3 z4 z5 z6 z7 z8 z9 z10 z11 z12 z13 z14 => cb1 (f_X12_isGood z2) fun g => if g = 0 then f_X12_readsText_J48 t (nI e) z1 z2 z3 z4 z5 z6 z7 z8 z9 z10 z11 z12 z13 z14 (f_X12_readsText_L8 t lw (nI e) K (n' + r + 2)) 0 else if nI e ≤ z1 then f_X12_readsText_J48 t (nI e) z1 z2 z3 z4 z5 z6 z7 z8 z9 z10 z11 z12 z13 z14 (f_X12_readsText_L8 t lw (nI e) K (n' + r + 2)) 0 else f_X12_readsText_J48 t (nI e) z1 z2 z3 z4 z5 z6 z7 z8 z9 z10 z11 z12 z13 z14 (f_X12_readsText_L8 t lw (nI e) K (n' + r + 2)) 1) := by
      rw [show n' + (r + 1) + 2 = (n' + r + 2) + 1 by omega, f_X12_readsText_L8, if_neg (by decide), isGood_0, cb1_o, if_neg (by decide)]
    rcases hp with ⟨r0, a, ea, hae, hf, z, hz, hz2⟩ | ⟨r1, a, z, ea, hz, L1, L2, iso', ib', na', nc', st', q1, q2, q3, q4, q5, q6, q7, q8, q9, q10⟩
    · have r0 : rr = 0 := r0
      have ea : a' = nI a := ea
      rw [if_pos r0]
      obtain ⟨z1, z2, z3, z4, z5, z6, z7, z8, z9, z10, z11, z12, z13, z14⟩ := z
      have hz2 : z2 = badC f' a := hz2
      have hg : f_X12_isGood z2 = some 0 := by rw [hz2]; exact isGood_n (badC_ne hf.1 hf.2 (by omega))
      refine Sf_some (Or.inl ⟨rfl, a, ea, hae, hf, z3, z4, z8, z7, z5, z1, z6, z9, z10, z11, z12, z13, z14, ?_⟩)
      rw [hL, hz, cb14_o, hg, cb1_o, if_pos rfl, f_X12_readsText_J48, if_pos rfl, show n' + r + 2 = (n' + r + 1) + 1 by omega, f_X12_readsText_L8, if_pos rfl, hz2]
    · have r1' : rr = 1 := r1
      have ea' : a' = nI a := ea
      have q4' : u' = nI (u + L1 + L2) := q4
      have q5 : ∀ i, i < u → code' i = code i := q5
      have q7 : mid' = upd mid i (nI (u + L1)) := q7
      have q8 : sta' = upd sta (i + 1) (nI (u + L1 + L2)) := q8
      have q10 : txS lw code' nc' na' u L1 L2 := q10
      subst q7; subst q8; subst q9
      rw [if_neg (by rw [r1']; decide), ea', q4']
      have htx : ∀ c, c < i + 1 → txC lw code' nc' na' (upd mid i (nI (u + L1))) (upd sta (i + 1) (nI (u + L1 + L2))) (upd nf i (nI (u + L1))) (upd ns i (nI u)) (upd nt i (nI (u + L1 + L2))) c (u + L1 + L2) := by
        intro c hc
        by_cases d : c = i
        · subst d
          exact ⟨u, L1, L2, by rw [upd_n (by omega)]; exact h4, upd_s _ _ _, upd_s _ _ _, upd_s _ _ _, upd_s _ _ _, upd_s _ _ _, Nat.le_refl _, q10⟩
        · exact txC_add (h5 c (by omega)) (by omega) q5 q6 (by omega)
      rw [hL, hz, cb14_o, isGood_0, cb1_o, if_neg (show ¬ (1 : Int32) = 0 by decide)]
      refine Sf_ite (fun c => ?_) (fun c => ?_)
      · have hae : a = e := (nI_eq (by omega) (by omega)).mp c
        subst hae
        rw [f_X6_writeClauses_J39, written_n (by omega) hi, cb1_o]
        refine Sf_some (Or.inr ⟨i + 1, u + L1 + L2, code', upd mid i (nI (u + L1)), upd sta (i + 1) (nI (u + L1 + L2)), ib', iso', nI 0, nI a, nI 0, na', nc', upd nf i (nI (u + L1)), upd ns i (nI u), upd nt i (nI (u + L1 + L2)), st', by omega, by omega, by omega, rfl, ?_, htx⟩)
        rw [if_pos (nI_le (Nat.le_refl _) (by omega)), f_X12_readsText_J48, if_pos rfl, show n' + r + 2 = (n' + r + 1) + 1 by omega, f_X12_readsText_L8, if_pos rfl]
      · have hal : a < e := by
          by_cases w : a = e
          · subst w; exact absurd rfl c
          · omega
        rw [if_neg (nI_ge hal (by omega)), f_X12_readsText_J48, if_neg (show ¬ (1 : Int32) = 0 by decide), here_n he q2, cb1_o, sign_n he q2 hb (by decide)]
        by_cases d : hN t e a = 59
        · rw [if_pos d, if_pos d, cb3_o, if_neg (by decide), nmI_o, nI_1, f_X12_readsText_J73, nmI_o, nI_1]
          exact ih (i + 1) n n' (a + 1) (u + L1 + L2) _ _ _ _ _ code' _ _ na' nc' _ _ _ st' (by omega) (by omega) (by omega) (upd_s _ _ _) htx
        · rw [if_neg d, if_neg d, cb3_o, if_pos rfl, wrongs_n, cb1_o, f_X12_readsText_J73, nmI_o, show n' + r + 2 = (n' + r + 1) + 1 by omega, f_X12_readsText_L8, if_neg (by decide), isGood_n (badC_ne (by decide) (by decide) (by omega)), cb1_o, if_pos rfl]
          exact Sf_some (Or.inl ⟨rfl, a, rfl, q2, (show 1 ≤ (1 : Int32).toInt ∧ (1 : Int32).toInt ≤ 9 by decide), _, _, _, _, _, _, _, _, _, _, _, _, _, rfl⟩)
end
