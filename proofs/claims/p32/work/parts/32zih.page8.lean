/-! bits of a reader; marks as a row; the greatest of a range -/
def tb (v : Int32) (k : Nat) : Bool := v.toBitVec.getLsbD k
def mI (b : Bool) : Int32 := if b then 1 else 0
theorem mI_0 {b : Bool} : mI b = 0 ↔ b = false := by cases b <;> decide
theorem nI_nm1 {a : Nat} (h : a < 2147483648) : ¬ nI a = -1 := fun q => by
  have e := eqI q
  rw [nI_toInt (by omega), show (-1 : Int32).toInt = -1 by decide] at e
  omega
theorem tb_or_ (x y : Int32) (i : Nat) : tb (x ||| y) i = (tb x i || tb y i) := by unfold tb; rw [Int32.toBitVec_or, BitVec.getLsbD_or]
theorem tb_and_ (x y : Int32) (i : Nat) : tb (x &&& y) i = (tb x i && tb y i) := by unfold tb; rw [Int32.toBitVec_and, BitVec.getLsbD_and]
theorem tb_ext {x y : Int32} (h : ∀ i, i < 32 → tb x i = tb y i) : x = y := Int32.toBitVec_inj.mp (BitVec.eq_of_getLsbD_eq (fun i hi => h i hi))
theorem tb_zero (k : Nat) : tb 0 k = false := BitVec.getLsbD_zero
theorem tb_bit : ∀ k, k < 4 → ∀ i, i < 32 → tb (jshl 1 (nI k)) i = decide (i = k) := by decide +kernel
theorem tb_msk : ∀ k, k < 4 → ∀ i, i < 32 → tb (jshl 1 (nI k) ^^^ (-1)) i = !decide (i = k) := by decide +kernel
theorem tb_or {v : Int32} {j k : Nat} (hk : k < 4) (hj : j < 4) : tb (v ||| jshl 1 (nI k)) j = (tb v j || decide (j = k)) := by rw [tb_or_, tb_bit k hk j (by omega)]
theorem tb_cl {v : Int32} {j k : Nat} (hk : k < 4) (hj : j < 4) : tb (v &&& (jshl 1 (nI k) ^^^ (-1))) j = (tb v j && !decide (j = k)) := by rw [tb_and_, tb_msk k hk j (by omega)]
theorem tb_0 {v : Int32} {k : Nat} (hk : k < 4) : v &&& jshl 1 (nI k) = 0 ↔ tb v k = false := by
  constructor
  · intro h
    have e := tb_and_ v (jshl 1 (nI k)) k
    rw [h, tb_zero, tb_bit k hk k (by omega), decide_eq_true rfl, Bool.and_true] at e
    exact e.symm
  · intro h
    refine tb_ext (fun i hi => ?_)
    rw [tb_and_, tb_zero, tb_bit k hk i hi]
    by_cases c : i = k
    · rw [c, h, Bool.false_and]
    · rw [decide_eq_false c, Bool.and_false]
theorem tb_amt : ∀ k, k < 4 → ((nI k &&& 31).toBitVec.smod 32).toNat = k := by decide +kernel
theorem tb_sh {v : Int32} {k : Nat} (hk : k < 4) : (jshr v (nI k) &&& 1 = 1) ↔ tb v k = true := by
  have e : tb (jshr v (nI k)) 0 = tb v k := by
    unfold tb jshr
    rw [Int32.toBitVec_shiftRight]
    show (v.toBitVec.sshiftRight ((nI k &&& 31).toBitVec.smod 32).toNat).getLsbD 0 = _
    rw [tb_amt k hk, BitVec.getLsbD_sshiftRight, Nat.add_zero, if_pos (by omega), show (!decide (32 ≤ 0)) = true by decide, Bool.true_and]
  have o : ∀ i, i < 32 → tb 1 i = decide (i = 0) := by decide +kernel
  constructor
  · intro h
    have e2 := tb_and_ (jshr v (nI k)) 1 0
    rw [h, e, o 0 (by omega), decide_eq_true rfl, Bool.and_true] at e2
    exact e2.symm
  · intro h
    refine tb_ext (fun i hi => ?_)
    rw [tb_and_, o i hi]
    by_cases c : i = 0
    · rw [c, e, h, decide_eq_true rfl]; rfl
    · rw [decide_eq_false c, Bool.and_false]
/-- a row of marks: the mark before, a beginning, how many began before -/
def mPr (M : Nat → Bool) : Nat → Bool
  | 0 => false
  | m + 1 => M m
def mBg (M : Nat → Bool) (m : Nat) : Bool := M m && !mPr M m
def mCn (M : Nat → Bool) : Nat → Nat
  | 0 => 0
  | m + 1 => mCn M m + (mBg M m).toNat
theorem mCn_s (M : Nat → Bool) (m : Nat) : mCn M (m + 1) = mCn M m + (mBg M m).toNat := rfl
theorem mBg_t {M : Nat → Bool} {m : Nat} : mBg M m = true ↔ M m = true ∧ mPr M m = false := by unfold mBg; cases M m <;> cases mPr M m <;> decide
theorem mBg_f {M : Nat → Bool} {m : Nat} : mBg M m = false ↔ M m = false ∨ mPr M m = true := by unfold mBg; cases M m <;> cases mPr M m <;> decide
theorem mCn_le {M : Nat → Bool} {a b : Nat} (h : a ≤ b) : mCn M a ≤ mCn M b := by
  induction h with
  | refl => exact Nat.le_refl _
  | step _ ih => rw [mCn_s]; omega
theorem mCn_lt {M : Nat → Bool} {a b : Nat} (h : a < b) (hb : mBg M a = true) : mCn M a < mCn M b := by
  have h1 := mCn_le (M := M) (show a + 1 ≤ b from h)
  rw [mCn_s, hb, show true.toNat = 1 from rfl] at h1
  omega
theorem mCn_inj {M : Nat → Bool} {a b : Nat} (ha : mBg M a = true) (hb : mBg M b = true) (h : mCn M a = mCn M b) : a = b := by
  rcases Nat.lt_trichotomy a b with w | w | w
  · have := mCn_lt w ha; omega
  · exact w
  · have := mCn_lt w hb; omega
theorem mCn_bd (M : Nat → Bool) : ∀ m, 2 * mCn M m ≤ m + (mPr M m).toNat := by
  intro m
  induction m with
  | zero => exact Nat.zero_le _
  | succ m ih =>
    have e2 : mPr M (m + 1) = M m := rfl
    rw [mCn_s, e2]
    unfold mBg
    cases hM : M m <;> cases hP : mPr M m <;> rw [hP] at ih
    · show 2 * (mCn M m + 0) ≤ m + 1 + 0
      have ih : 2 * mCn M m ≤ m + 0 := ih
      omega
    · show 2 * (mCn M m + 0) ≤ m + 1 + 0
      have ih : 2 * mCn M m ≤ m + 1 := ih
      omega
    · show 2 * (mCn M m + 1) ≤ m + 1 + 1
      have ih : 2 * mCn M m ≤ m + 0 := ih
      omega
    · show 2 * (mCn M m + 0) ≤ m + 1 + 1
      have ih : 2 * mCn M m ≤ m + 1 := ih
      omega
/-- the run that a mark stands in -/
theorem mRun {M : Nat → Bool} : ∀ m, mPr M m = true → ∃ a, a < m ∧ mBg M a = true ∧ mCn M m = mCn M a + 1 ∧ ∀ i, a ≤ i → i < m → M i = true := by
  intro m
  induction m with
  | zero => intro h; cases h
  | succ m ih =>
    intro h
    have hM : M m = true := h
    cases hP : mPr M m with
    | false =>
      have hb : mBg M m = true := mBg_t.mpr ⟨hM, hP⟩
      refine ⟨m, by omega, hb, by rw [mCn_s, hb]; rfl, fun i h1 h2 => ?_⟩
      have e : i = m := by omega
      rw [e]; exact hM
    | true =>
      obtain ⟨a, h1, h2, h3, h4⟩ := ih hP
      have hb : mBg M m = false := mBg_f.mpr (Or.inr hP)
      refine ⟨a, by omega, h2, by rw [mCn_s, hb, h3]; rfl, fun i i1 i2 => ?_⟩
      by_cases c : i = m
      · rw [c]; exact hM
      · exact h4 i i1 (by omega)
/-- the beginning with a number -/
theorem mNth {M : Nat → Bool} {j : Nat} : ∀ n, j < mCn M n → ∃ a, a < n ∧ mBg M a = true ∧ mCn M a = j := by
  intro n
  induction n with
  | zero => intro h; exact absurd h (Nat.not_lt_zero _)
  | succ n ih =>
    intro h
    rw [mCn_s] at h
    by_cases c : j < mCn M n
    · obtain ⟨a, h1, h2⟩ := ih c
      exact ⟨a, by omega, h2⟩
    · cases hb : mBg M n with
      | false => rw [hb, show false.toNat = 0 from rfl] at h; omega
      | true => rw [hb, show true.toNat = 1 from rfl] at h; exact ⟨n, by omega, hb, by omega⟩
/-- from a to e all is marked, and behind e not (below n) -/
def isRn (M : Nat → Bool) (a e n : Nat) : Prop := a ≤ e ∧ e < n ∧ (∀ i, a ≤ i → i ≤ e → M i = true) ∧ (e + 1 < n → M (e + 1) = false)
theorem isRn_uni {M : Nat → Bool} {a e e' n : Nat} (h : isRn M a e n) (h' : isRn M a e' n) : e = e' := by
  obtain ⟨h1, h2, h3, h4⟩ := h
  obtain ⟨g1, g2, g3, g4⟩ := h'
  rcases Nat.lt_trichotomy e e' with w | w | w
  · have := h4 (by omega); rw [g3 (e + 1) (by omega) (by omega)] at this; cases this
  · exact w
  · have := g4 (by omega); rw [h3 (e' + 1) (by omega) (by omega)] at this; cases this
/-- v is the greatest of 0 and the row from lo to below hi -/
def isMx (h : Nat → Int32) (lo hi : Nat) (v : Int32) : Prop := (∀ i, lo ≤ i → i < hi → (h i).toInt ≤ v.toInt) ∧ 0 ≤ v.toInt ∧ (v.toInt = 0 ∨ ∃ i, lo ≤ i ∧ i < hi ∧ v.toInt = (h i).toInt)
theorem isMx_uni {h : Nat → Int32} {lo hi : Nat} {v w : Int32} (a : isMx h lo hi v) (b : isMx h lo hi w) : v = w := by
  obtain ⟨a1, a2, a3⟩ := a
  obtain ⟨b1, b2, b3⟩ := b
  refine i32_eq ?_
  have h1 : v.toInt ≤ w.toInt := by
    rcases a3 with e | ⟨i, i1, i2, e⟩
    · omega
    · have := b1 i i1 i2; omega
  have h2 : w.toInt ≤ v.toInt := by
    rcases b3 with e | ⟨i, i1, i2, e⟩
    · omega
    · have := a1 i i1 i2; omega
  omega
theorem isMx_nil {h : Nat → Int32} {lo hi : Nat} (e : hi ≤ lo) : isMx h lo hi 0 := by
  have l0 : (0 : Int32).toInt = 0 := by decide
  exact ⟨fun i h1 h2 => absurd h1 (by omega), by omega, Or.inl l0⟩
theorem isMx_add {h : Nat → Int32} {lo hi : Nat} {v : Int32} (a : isMx h lo hi v) (e : lo ≤ hi) : isMx h lo (hi + 1) (jmax v (h hi)) := by
  obtain ⟨a1, a2, a3⟩ := a
  obtain ⟨b1, b2, b3⟩ := jmax_ v (h hi)
  refine ⟨fun i i1 i2 => ?_, by omega, ?_⟩
  · by_cases c : i = hi
    · rw [c]; omega
    · have := a1 i i1 (by omega); omega
  · rcases b1 with b | b
    · rcases a3 with w | ⟨i, i1, i2, w⟩
      · exact Or.inl (by omega)
      · exact Or.inr ⟨i, i1, by omega, by omega⟩
    · exact Or.inr ⟨hi, e, by omega, b⟩
theorem isMx_congr {h h' : Nat → Int32} {lo hi : Nat} {v : Int32} (a : isMx h lo hi v) (e : ∀ i, i < hi → h i = h' i) : isMx h' lo hi v := by
  obtain ⟨a1, a2, a3⟩ := a
  refine ⟨fun i i1 i2 => by rw [← e i i2]; exact a1 i i1 i2, a2, ?_⟩
  rcases a3 with w | ⟨i, i1, i2, w⟩
  · exact Or.inl w
  · exact Or.inr ⟨i, i1, i2, by rw [← e i i2]; exact w⟩
theorem isMx_ex (h : Nat → Int32) (lo : Nat) : ∀ n, ∃ v, isMx h lo (lo + n) v := by
  intro n
  induction n with
  | zero => exact ⟨0, isMx_nil (by omega)⟩
  | succ n ih =>
    obtain ⟨v, hv⟩ := ih
    exact ⟨_, isMx_add (hi := lo + n) hv (Nat.le_add_right _ _)⟩
