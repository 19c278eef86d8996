/-! the two readers of texts, side by side: the reference's small steps, in numbers -/
theorem upd_s (f : Nat → Int32) (i : Nat) (v : Int32) : upd f i v i = v := if_pos rfl
theorem upd_n {f : Nat → Int32} {i j : Nat} {v : Int32} (h : ¬ j = i) : upd f i v j = f j := if_neg h
def hN (t : Nat → Int32) (e p : Nat) : Int32 := if p < e then t p &&& 255 else 0
def nN (b : Nat → Int32) (e p : Nat) : Int32 := if p < e then b p else -1
def tpN (st : Nat → Int32) (m : Nat) : Int32 := if m = 0 then 0 else st (m - 1)
def isT (x : Int32) : Prop := x = 42 ∨ x = 47 ∨ x = 37
def isP (x : Int32) : Prop := x = 43 ∨ x = 45
theorem here_n {t : Nat → Int32} {e p : Nat} (h : e ≤ 120) (hp : p ≤ e) : f_X12_here (nI p) (nI e) t = some (hN t e p) := by
  rw [f_X12_here]
  unfold hN
  by_cases c : p < e
  · rw [if_neg (nI_ge c (by omega)), if_pos c, rdI_o (jin_n (by omega) (by omega)), nI_clamp (by omega)]
  · rw [if_pos (nI_le (by omega) (by omega)), if_neg c]
theorem next_n {b : Nat → Int32} {e p : Nat} (h : e ≤ 120) (hp : p ≤ e) : f_X6_next 200 (nI e) (nI p) b = some (nN b e p) := by
  rw [f_X6_next]
  unfold nN
  by_cases c : p < e
  · rw [if_neg (nI_ge c (by omega)), if_pos c, rdI_o (jin_n (by omega) (by omega)), nI_clamp (by omega)]
  · rw [if_pos (nI_le (by omega) (by omega)), if_neg c]
theorem nh {b t : Nat → Int32} {e p : Nat} (h : TBy b t) : nN b e p = if p < e then hN t e p else -1 := by
  unfold nN hN
  by_cases c : p < e
  · rw [if_pos c, if_pos c, if_pos c]; exact h p
  · rw [if_neg c, if_neg c]
theorem hN_lt {t : Nat → Int32} {e p : Nat} (h : ¬ hN t e p = 0) : p < e := by
  unfold hN at h
  by_cases c : p < e
  · exact c
  · rw [if_neg c] at h; exact absurd rfl h
theorem hN_b (t : Nat → Int32) (e p : Nat) : 0 ≤ (hN t e p).toInt ∧ (hN t e p).toInt ≤ 255 := by
  unfold hN
  have z : (0 : Int32).toInt = 0 := by decide
  have z2 : (255 : Int32).toInt = 255 := by decide
  by_cases c : p < e
  · rw [if_pos c]
    have := an_ (t p) 255 (by omega)
    omega
  · rw [if_neg c]; omega
/-- a sign that is neither 0 nor -1 is seen by both -/
theorem nh_iff {b t : Nat → Int32} {e p : Nat} (h : TBy b t) (c : Int32) (hc : 0 < c.toInt) : nN b e p = c ↔ hN t e p = c := by
  have z : (0 : Int32).toInt = 0 := by decide
  have zm : (-1 : Int32).toInt = -1 := by decide
  rw [nh h]
  by_cases d : p < e
  · rw [if_pos d]
  · rw [if_neg d]
    have e0 : hN t e p = 0 := by unfold hN; rw [if_neg d]
    rw [e0]
    constructor
    · intro w; have := eqI w; omega
    · intro w; have := eqI w; omega
theorem top_n {st : Nat → Int32} {m : Nat} (h : m ≤ 160) : f_X12_top (nI m) st = some (tpN st m) := by
  rw [f_X12_top]
  unfold tpN
  cases m with
  | zero => rw [if_pos (by decide), if_pos rfl]
  | succ m =>
    rw [if_neg (nI_nle (by omega) (by omega)), if_neg (by omega), nI_pred, rdI_o (jin_n (by omega) (by omega)), nI_clamp (by omega)]
    rfl
theorem puts_n {st : Nat → Int32} {p m : Nat} {c : Int32} (h : m < 160) : f_X12_puts (nI p) (nI m) st c = some (nI (p + 1), nI (m + 1), upd st m c) := by
  rw [f_X12_puts, wrI_o (jin_n h (by omega)), nmI_o, nmI_o, nI_1, nI_1, nI_clamp (by omega)]
theorem emit_n {na nc : Nat → Int32} {k : Nat} {c a : Int32} (h : k < 120) : f_X12_emit 0 (nI k) na nc c a = some (nI (k + 1), upd na k a, upd nc k c) := by
  rw [f_X12_emit, isGood_0, cb1_o, if_neg (by decide), wrI_o (jin_n h (by omega)), wrI_o (jin_n h (by omega)), nmI_o, nI_1, nI_clamp (by omega)]
/-- j signs are emitted, the last one first -/
def emC (st : Nat → Int32) (m : Nat) : Nat → (Nat → Int32) → Nat → (Nat → Int32)
  | 0, nc, _ => nc
  | j + 1, nc, k => emC st m j (upd nc k (st (m + j))) (k + 1)
def z0 : Nat → Int32 := fun _ => 0
theorem emC_lo {st : Nat → Int32} {m : Nat} : ∀ {j : Nat} {nc : Nat → Int32} {k i : Nat}, i < k → emC st m j nc k i = nc i := by
  intro j
  induction j with
  | zero => intro nc k i h; rfl
  | succ j ih =>
    intro nc k i h
    rw [emC, ih (by omega)]
    unfold upd
    rw [if_neg (by omega)]
theorem emC_snoc {st : Nat → Int32} {m : Nat} : ∀ {j : Nat} {nc : Nat → Int32} {k : Nat}, emC st m (j + 1) nc k = upd (emC st (m + 1) j nc k) (k + j) (st m) := by
  intro j
  induction j with
  | zero => intro nc k; rfl
  | succ j ih =>
    intro nc k
    rw [emC, ih]
    have e1 : emC st (m + 1) (j + 1) nc k = emC st (m + 1) j (upd nc k (st (m + 1 + j))) (k + 1) := rfl
    rw [e1, show m + (j + 1) = m + 1 + j by omega, show k + 1 + j = k + (j + 1) by omega]
theorem emC_congr {st st' : Nat → Int32} {m : Nat} : ∀ {j : Nat} {nc : Nat → Int32} {k : Nat}, (∀ i, i < j → st (m + i) = st' (m + i)) → emC st m j nc k = emC st' m j nc k := by
  intro j
  induction j with
  | zero => intro nc k h; rfl
  | succ j ih =>
    intro nc k h
    rw [emC, emC, h j (by omega)]
    exact ih (fun i hi => h i (by omega))
def opq (fl : Int32) (x : Int32) : Prop := isT x ∨ (¬ fl = 0 ∧ isP x)
theorem isA_opq {x : Int32} (h : isA x) : opq 1 x := by
  rcases h with h | h | h | h | h
  · exact Or.inl (Or.inl h)
  · exact Or.inl (Or.inr (Or.inl h))
  · exact Or.inl (Or.inr (Or.inr h))
  · exact Or.inr ⟨by decide, Or.inl h⟩
  · exact Or.inr ⟨by decide, Or.inr h⟩
theorem sums_n {st : Nat → Int32} {fl : Int32} {m : Nat} (hm : ¬ opq fl (tpN st m)) : ∀ (j n k : Nat) (na nc : Nat → Int32), (∀ i, i < j → opq fl (st (m + i))) → k + j ≤ 120 → m + j ≤ 160 → f_X12_sums_L0 0 st fl (n + j + 1) (nI k) (nI (m + j)) na nc = some (nI (k + j), nI m, emC z0 m j na k, emC st m j nc k) := by
  intro j
  induction j with
  | zero =>
    intro n k na nc h1 h2 h3
    rw [f_X12_sums_L0, Nat.add_zero, top_n (by omega), cb1_o, isTimes_e, cb1_o, cb1_o, isPlus_e, cb1_o]
    have hT : ¬ (tpN st m = 42 ∨ tpN st m = 47 ∨ tpN st m = 37) := fun w => hm (Or.inl w)
    rw [if_pos (by rw [bI_0]; exact hT)]
    by_cases c : fl = 0
    · rw [if_pos c]; rfl
    · rw [if_neg c, if_pos (by rw [bI_0]; exact fun w => hm (Or.inr ⟨c, w⟩))]; rfl
  | succ j ih =>
    intro n k na nc h1 h2 h3
    have ht : tpN st (m + (j + 1)) = st (m + j) := by unfold tpN; rw [if_neg (by omega)]; rfl
    have J : f_X12_sums_J24 0 st (nI k) (nI (m + (j + 1))) na nc (f_X12_sums_L0 0 st fl (n + j + 1)) = some (nI (k + (j + 1)), nI m, emC z0 m (j + 1) na k, emC st m (j + 1) nc k) := by
      rw [f_X12_sums_J24, top_n (by omega), cb1_o, ht, emit_n (by omega), cb3_o, nmI_o, show m + (j + 1) = (m + j) + 1 by omega, nI_pred, ih n (k + 1) _ _ (fun i hi => h1 i (by omega)) (by omega) (by omega)]
      rw [show k + 1 + j = k + (j + 1) by omega]
      rfl
    rw [show n + (j + 1) + 1 = (n + j + 1) + 1 by omega, f_X12_sums_L0, top_n (by omega), cb1_o, isTimes_e, cb1_o, cb1_o, isPlus_e, cb1_o, ht]
    have h4 := h1 j (by omega)
    by_cases c : st (m + j) = 42 ∨ st (m + j) = 47 ∨ st (m + j) = 37
    · rw [if_neg (by rw [bI_0]; exact fun w => w c)]
      exact J
    · rw [if_pos (by rw [bI_0]; exact c)]
      rcases h4 with h4 | h4
      · exact absurd h4 c
      · rw [if_neg h4.1, if_neg (by rw [bI_0]; exact fun w => w h4.2)]
        exact J
theorem FU_n (j : Nat) (h : j ≤ 1000) : ∃ n, FU = n + j + 1 := ⟨FU - j - 1, by have := FU_ge; omega⟩
theorem sums_e {st : Nat → Int32} {fl : Int32} {m j k : Nat} {na nc : Nat → Int32} (hm : ¬ opq fl (tpN st m)) (h1 : ∀ i, i < j → opq fl (st (m + i))) (h2 : k + j ≤ 120) (h3 : m + j ≤ 160) : f_X12_sums 0 (nI k) (nI (m + j)) na nc st fl = some (nI (k + j), nI m, emC z0 m j na k, emC st m j nc k) := by
  obtain ⟨n, hn⟩ := FU_n j (by omega)
  rw [f_X12_sums, hn]
  exact sums_n hm j n k na nc h1 h2 h3
/-- the loop of an E of the reference -/
noncomputable def vL (e : Nat) (t : Nat → Int32) (n : Nat) (ib : Int32) (k o p m : Nat) (na nc st : Nat → Int32) : Option (Int32 × Int32 × Int32 × Int32 × Int32 × Int32 × (Nat → Int32) × (Nat → Int32) × (Nat → Int32)) := f_X12_value_L7 (nI e) t f_X12_value_J57 n 1 0 (nI k) ib (nI o) (nI p) (nI m) na nc st
/-- from an operand's place to behind an operand -/
def vrun (e : Nat) (t : Nat → Int32) (k o p m : Nat) (na nc st : Nat → Int32) (k' o' p' m' : Nat) (na' nc' st' : Nat → Int32) : Prop := ∃ J : Nat, J + p ≤ p' ∧ ∀ n : Nat, vL e t (n + 1 + J) 0 k o p m na nc st = vL e t (n + 1) 1 k' o' p' m' na' nc' st'
def vbad (e : Nat) (t : Nat → Int32) (k o p m : Nat) (na nc st : Nat → Int32) (d : Int32) : Prop := ∃ (J : Nat) (p' k' o' m' ib' : Int32) (na' nc' st' : Nat → Int32), J + p ≤ e + 1 ∧ ∀ n : Nat, vL e t (n + 1 + J) 0 k o p m na nc st = some (p', d, k', o', m', ib', na', nc', st')
section SI
variable {e k o p m k' o' p' m' k2 o2 p2 m2 : Nat} {t na nc st na' nc' st' na2 nc2 st2 : Nat → Int32} {d : Int32}
/-- behind an operand: what the next sign does -/
theorem vL_1 (n : Nat) : vL e t (n + 1) 1 k o p m na nc st = f_X12_value_J29 (nI e) t (f_X12_value_L7 (nI e) t f_X12_value_J57 n) 0 (nI k) (nI o) (nI p) (nI m) na nc st := by
  unfold vL
  rw [f_X12_value_L7, if_neg (by decide), isGood_0, cb1_o, if_neg (by decide), if_neg (by decide)]
theorem stay_op {c : Int32} {fl : Int32} {j : Nat} (he : e ≤ 120) (hp : p < e) (hc : hN t e p = c) (hco : isA c) (hfl : fl = bI (c = 43 ∨ c = 45)) (hm : ¬ opq fl (tpN st m)) (h1 : ∀ i, i < j → opq fl (st (m + i))) (h2 : k + j ≤ 120) (h3 : m + j < 160) (n : Nat) :
    vL e t (n + 1) 1 k o p (m + j) na nc st = vL e t n 0 (k + j) o (p + 1) (m + 1) (emC z0 m j na k) (emC st m j nc k) (upd st m c) := by
  have hJ : f_X12_stays_J19 st c 0 (nI k) 0 (nI o) (nI p) (nI (m + j)) na nc = some (1, nI (p + 1), 0, nI (k + j), nI o, nI (m + 1), 0, emC z0 m j na k, emC st m j nc k, upd st m c) := by
    rw [f_X12_stays_J19, isPlus_e, cb1_o, ← hfl, sums_e hm h1 h2 (by omega), cb4_o, puts_n (by omega), cb3_o]
  have hs : f_X12_stays (nI p) (nI e) 0 (nI k) (nI o) (nI (m + j)) 0 na nc st t = some (1, nI (p + 1), 0, nI (k + j), nI o, nI (m + 1), 0, emC z0 m j na k, emC st m j nc k, upd st m c) := by
    rw [f_X12_stays, here_n he (by omega), cb1_o, hc, isTimes_e, cb1_o]
    by_cases d : c = 42 ∨ c = 47 ∨ c = 37
    · rw [if_neg (by rw [bI_0]; exact fun w => w d)]
      exact hJ
    · have d2 : c = 43 ∨ c = 45 := by
        rcases hco with h | h | h | h | h
        · exact absurd (Or.inl h) d
        · exact absurd (Or.inr (Or.inl h)) d
        · exact absurd (Or.inr (Or.inr h)) d
        · exact Or.inl h
        · exact Or.inr h
      rw [if_pos (by rw [bI_0]; exact d), isPlus_e, cb1_o, if_neg (by rw [bI_0]; exact fun w => w d2)]
      exact hJ
  rw [vL_1, f_X12_value_J29, isGood_0, cb1_o, if_neg (by decide), hs, cb10_o, if_neg (by decide)]
  rfl
theorem stay_close {j : Nat} (he : e ≤ 120) (hp : p < e) (hc : hN t e p = 93) (hm : st m = 91) (h1 : ∀ i, i < j → isA (st (m + 1 + i))) (h2 : k + j ≤ 120) (h3 : m + 1 + j < 160) (ho : 0 < o) (n : Nat) :
    vL e t (n + 1) 1 k o p (m + 1 + j) na nc st = vL e t n 1 (k + j) (o - 1) (p + 1) m (emC z0 (m + 1) j na k) (emC st (m + 1) j nc k) st := by
  have ht : tpN st (m + 1) = 91 := by unfold tpN; rw [if_neg (by omega)]; exact hm
  have hq : ¬ opq 1 (tpN st (m + 1)) := by
    rw [ht]
    rintro (h | h)
    · exact absurd h (by unfold isT; decide)
    · exact absurd h.2 (by unfold isP; decide)
  have hs : f_X12_stays (nI p) (nI e) 0 (nI k) (nI o) (nI (m + 1 + j)) 0 na nc st t = some (1, nI (p + 1), 0, nI (k + j), nI (o - 1), nI m, 1, emC z0 (m + 1) j na k, emC st (m + 1) j nc k, st) := by
    rw [f_X12_stays, here_n he (by omega), cb1_o, hc, isTimes_e, cb1_o, if_pos (by decide), isPlus_e, cb1_o, if_pos (by decide), sums_e hq (fun i hi => isA_opq (h1 i hi)) h2 (by omega), cb4_o, if_pos rfl, top_n (by omega), cb1_o, ht, if_pos rfl, nmI_o, nmI_o, nmI_o, nI_pred, nI_1]
    obtain ⟨o1, rfl⟩ : ∃ o1, o = o1 + 1 := ⟨o - 1, by omega⟩
    rw [nI_pred, Nat.add_sub_cancel]
  rw [vL_1, f_X12_value_J29, isGood_0, cb1_o, if_neg (by decide), hs, cb10_o, if_neg (by decide)]
  rfl
end SI
