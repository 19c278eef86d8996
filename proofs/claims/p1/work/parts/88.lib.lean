/-! pure facts, of a new object -/
def bI (P : Prop) [Decidable P] : Int32 := if P then 1 else 0
theorem bI_0 {P : Prop} {_ : Decidable P} : (bI P = 0) = ¬ P := by
  unfold bI
  by_cases h : P <;> simp [h]
theorem bo_bI {β : Type} {P : Prop} {_ : Decidable P} {k : Option β} : bo (bI P) k = k := by
  unfold bo bI
  by_cases h : P <;> simp [h]
theorem W_iff (x a b : Int32) : f_X11_isWithin x a b = some (bI (a.toInt ≤ x.toInt ∧ x.toInt ≤ b.toInt)) := by
  unfold f_X11_isWithin bI
  by_cases h1 : x < a
  · rw [if_pos h1, if_neg]
    rw [Int32.lt_iff_toInt_lt] at h1
    omega
  · rw [if_neg h1]
    by_cases h2 : b < x
    · rw [if_pos h2, if_neg]
      rw [Int32.lt_iff_toInt_lt] at h2
      omega
    · rw [if_neg h2, if_pos]
      rw [Int32.lt_iff_toInt_lt] at h1 h2
      omega
theorem lg_lt (x y : Int64) : (lg_cmp x y < 0) = (x.toInt < y.toInt) := by
  unfold lg_cmp
  simp only [gt_iff_lt, Int64.lt_iff_toInt_lt, ← Int64.toInt_inj]
  by_cases h1 : y.toInt < x.toInt
  · rw [if_pos h1]; simp only [eq_iff_iff]; constructor
    · intro h; exact absurd h (by decide)
    · intro h; omega
  · rw [if_neg h1]
    by_cases h2 : x.toInt = y.toInt
    · rw [if_pos h2]; simp only [eq_iff_iff]; constructor
      · intro h; exact absurd h (by decide)
      · intro h; omega
    · rw [if_neg h2]; simp only [eq_iff_iff]; constructor
      · intro h; omega
      · intro h; decide
theorem lg_gt (x y : Int64) : (0 < lg_cmp x y) = (y.toInt < x.toInt) := by
  unfold lg_cmp
  simp only [gt_iff_lt, Int64.lt_iff_toInt_lt, ← Int64.toInt_inj]
  by_cases h1 : y.toInt < x.toInt
  · rw [if_pos h1]; simp only [eq_iff_iff]; constructor
    · intro h; exact h1
    · intro h; decide
  · rw [if_neg h1]
    by_cases h2 : x.toInt = y.toInt
    · rw [if_pos h2]; simp only [eq_iff_iff]; constructor
      · intro h; exact absurd h (by decide)
      · intro h; omega
    · rw [if_neg h2]; simp only [eq_iff_iff]; constructor
      · intro h; exact absurd h (by decide)
      · intro h; omega
theorem L_iff (x a b : Int64) : f_X12_lies x a b = some (bI (a.toInt ≤ x.toInt ∧ x.toInt ≤ b.toInt)) := by
  unfold f_X12_lies bI
  simp only [lg_lt, lg_gt]
  by_cases h1 : x.toInt < a.toInt
  · rw [if_pos h1, if_neg]; omega
  · rw [if_neg h1]
    by_cases h2 : b.toInt < x.toInt
    · rw [if_pos h2, if_neg]; omega
    · rw [if_neg h2, if_pos]; omega
theorem t64 (x : Int32) : (Int32.toInt64 x).toInt = x.toInt := Int32.toInt_toInt64 x
theorem i32_0 : (0 : Int32).toInt = 0 := by decide
theorem i64_0 : (0 : Int64).toInt = 0 := by decide
theorem i32_1 : (1 : Int32).toInt = 1 := by decide
theorem i64_1 : (1 : Int64).toInt = 1 := by decide
theorem i32_2 : (2 : Int32).toInt = 2 := by decide
theorem i64_2 : (2 : Int64).toInt = 2 := by decide
theorem i32_3 : (3 : Int32).toInt = 3 := by decide
theorem i64_3 : (3 : Int64).toInt = 3 := by decide
theorem i32_4 : (4 : Int32).toInt = 4 := by decide
theorem i64_4 : (4 : Int64).toInt = 4 := by decide
theorem i32_5 : (5 : Int32).toInt = 5 := by decide
theorem i64_5 : (5 : Int64).toInt = 5 := by decide
theorem i32_6 : (6 : Int32).toInt = 6 := by decide
theorem i64_6 : (6 : Int64).toInt = 6 := by decide
theorem i32_9 : (9 : Int32).toInt = 9 := by decide
theorem i64_9 : (9 : Int64).toInt = 9 := by decide
theorem i32_10 : (10 : Int32).toInt = 10 := by decide
theorem i64_10 : (10 : Int64).toInt = 10 := by decide
theorem i32_20 : (20 : Int32).toInt = 20 := by decide
theorem i64_20 : (20 : Int64).toInt = 20 := by decide
theorem i32_23 : (23 : Int32).toInt = 23 := by decide
theorem i64_23 : (23 : Int64).toInt = 23 := by decide
theorem i32_30 : (30 : Int32).toInt = 30 := by decide
theorem i64_30 : (30 : Int64).toInt = 30 := by decide
theorem i32_35 : (35 : Int32).toInt = 35 := by decide
theorem i64_35 : (35 : Int64).toInt = 35 := by decide
theorem i32_39 : (39 : Int32).toInt = 39 := by decide
theorem i64_39 : (39 : Int64).toInt = 39 := by decide
theorem i32_40 : (40 : Int32).toInt = 40 := by decide
theorem i64_40 : (40 : Int64).toInt = 40 := by decide
theorem i32_60 : (60 : Int32).toInt = 60 := by decide
theorem i64_60 : (60 : Int64).toInt = 60 := by decide
theorem i32_120 : (120 : Int32).toInt = 120 := by decide
theorem i64_120 : (120 : Int64).toInt = 120 := by decide
theorem i32_127 : (127 : Int32).toInt = 127 := by decide
theorem i64_127 : (127 : Int64).toInt = 127 := by decide
theorem i32_180 : (180 : Int32).toInt = 180 := by decide
theorem i64_180 : (180 : Int64).toInt = 180 := by decide
theorem i32_399 : (399 : Int32).toInt = 399 := by decide
theorem i64_399 : (399 : Int64).toInt = 399 := by decide
theorem i32_400 : (400 : Int32).toInt = 400 := by decide
theorem i64_400 : (400 : Int64).toInt = 400 := by decide
theorem i32_700 : (700 : Int32).toInt = 700 := by decide
theorem i64_700 : (700 : Int64).toInt = 700 := by decide
theorem i32_999 : (999 : Int32).toInt = 999 := by decide
theorem i64_999 : (999 : Int64).toInt = 999 := by decide
theorem i32_1000 : (1000 : Int32).toInt = 1000 := by decide
theorem i64_1000 : (1000 : Int64).toInt = 1000 := by decide
theorem i32_1439 : (1439 : Int32).toInt = 1439 := by decide
theorem i64_1439 : (1439 : Int64).toInt = 1439 := by decide
theorem i32_1440 : (1440 : Int32).toInt = 1440 := by decide
theorem i64_1440 : (1440 : Int64).toInt = 1440 := by decide
theorem i32_2000 : (2000 : Int32).toInt = 2000 := by decide
theorem i64_2000 : (2000 : Int64).toInt = 2000 := by decide
theorem i32_1000000 : (1000000 : Int32).toInt = 1000000 := by decide
theorem i64_1000000 : (1000000 : Int64).toInt = 1000000 := by decide
theorem i32_1000000000 : (1000000000 : Int32).toInt = 1000000000 := by decide
theorem i64_1000000000 : (1000000000 : Int64).toInt = 1000000000 := by decide
theorem i32_100000 : (100000 : Int32).toInt = 100000 := by decide
theorem i64_100000 : (100000 : Int64).toInt = 100000 := by decide
theorem i32_n1 : (-1 : Int32).toInt = -1 := by decide
theorem i64_n1 : (-1 : Int64).toInt = -1 := by decide
theorem i32_n100000 : (-100000 : Int32).toInt = -100000 := by decide
theorem i64_n100000 : (-100000 : Int64).toInt = -100000 := by decide
theorem s01 : (0 : Int32) - 1 = -1 := by decide
theorem cb1_o {T1 β : Type} {v1 : T1} {k : T1 → Option β} : cb1 (some (v1)) k = k v1 := rfl
theorem cb2_o {T1 T2 β : Type} {v1 : T1} {v2 : T2} {k : T1 → T2 → Option β} : cb2 (some (v1, v2)) k = k v1 v2 := rfl
theorem cb3_o {T1 T2 T3 β : Type} {v1 : T1} {v2 : T2} {v3 : T3} {k : T1 → T2 → T3 → Option β} : cb3 (some (v1, v2, v3)) k = k v1 v2 v3 := rfl
theorem cb4_o {T1 T2 T3 T4 β : Type} {v1 : T1} {v2 : T2} {v3 : T3} {v4 : T4} {k : T1 → T2 → T3 → T4 → Option β} : cb4 (some (v1, v2, v3, v4)) k = k v1 v2 v3 v4 := rfl
theorem cb5_o {T1 T2 T3 T4 T5 β : Type} {v1 : T1} {v2 : T2} {v3 : T3} {v4 : T4} {v5 : T5} {k : T1 → T2 → T3 → T4 → T5 → Option β} : cb5 (some (v1, v2, v3, v4, v5)) k = k v1 v2 v3 v4 v5 := rfl
theorem cb6_o {T1 T2 T3 T4 T5 T6 β : Type} {v1 : T1} {v2 : T2} {v3 : T3} {v4 : T4} {v5 : T5} {v6 : T6} {k : T1 → T2 → T3 → T4 → T5 → T6 → Option β} : cb6 (some (v1, v2, v3, v4, v5, v6)) k = k v1 v2 v3 v4 v5 v6 := rfl
theorem cb7_o {T1 T2 T3 T4 T5 T6 T7 β : Type} {v1 : T1} {v2 : T2} {v3 : T3} {v4 : T4} {v5 : T5} {v6 : T6} {v7 : T7} {k : T1 → T2 → T3 → T4 → T5 → T6 → T7 → Option β} : cb7 (some (v1, v2, v3, v4, v5, v6, v7)) k = k v1 v2 v3 v4 v5 v6 v7 := rfl
theorem cb8_o {T1 T2 T3 T4 T5 T6 T7 T8 β : Type} {v1 : T1} {v2 : T2} {v3 : T3} {v4 : T4} {v5 : T5} {v6 : T6} {v7 : T7} {v8 : T8} {k : T1 → T2 → T3 → T4 → T5 → T6 → T7 → T8 → Option β} : cb8 (some (v1, v2, v3, v4, v5, v6, v7, v8)) k = k v1 v2 v3 v4 v5 v6 v7 v8 := rfl
theorem cb9_o {T1 T2 T3 T4 T5 T6 T7 T8 T9 β : Type} {v1 : T1} {v2 : T2} {v3 : T3} {v4 : T4} {v5 : T5} {v6 : T6} {v7 : T7} {v8 : T8} {v9 : T9} {k : T1 → T2 → T3 → T4 → T5 → T6 → T7 → T8 → T9 → Option β} : cb9 (some (v1, v2, v3, v4, v5, v6, v7, v8, v9)) k = k v1 v2 v3 v4 v5 v6 v7 v8 v9 := rfl
theorem cb10_o {T1 T2 T3 T4 T5 T6 T7 T8 T9 T10 β : Type} {v1 : T1} {v2 : T2} {v3 : T3} {v4 : T4} {v5 : T5} {v6 : T6} {v7 : T7} {v8 : T8} {v9 : T9} {v10 : T10} {k : T1 → T2 → T3 → T4 → T5 → T6 → T7 → T8 → T9 → T10 → Option β} : cb10 (some (v1, v2, v3, v4, v5, v6, v7, v8, v9, v10)) k = k v1 v2 v3 v4 v5 v6 v7 v8 v9 v10 := rfl
theorem cb11_o {T1 T2 T3 T4 T5 T6 T7 T8 T9 T10 T11 β : Type} {v1 : T1} {v2 : T2} {v3 : T3} {v4 : T4} {v5 : T5} {v6 : T6} {v7 : T7} {v8 : T8} {v9 : T9} {v10 : T10} {v11 : T11} {k : T1 → T2 → T3 → T4 → T5 → T6 → T7 → T8 → T9 → T10 → T11 → Option β} : cb11 (some (v1, v2, v3, v4, v5, v6, v7, v8, v9, v10, v11)) k = k v1 v2 v3 v4 v5 v6 v7 v8 v9 v10 v11 := rfl
theorem cb12_o {T1 T2 T3 T4 T5 T6 T7 T8 T9 T10 T11 T12 β : Type} {v1 : T1} {v2 : T2} {v3 : T3} {v4 : T4} {v5 : T5} {v6 : T6} {v7 : T7} {v8 : T8} {v9 : T9} {v10 : T10} {v11 : T11} {v12 : T12} {k : T1 → T2 → T3 → T4 → T5 → T6 → T7 → T8 → T9 → T10 → T11 → T12 → Option β} : cb12 (some (v1, v2, v3, v4, v5, v6, v7, v8, v9, v10, v11, v12)) k = k v1 v2 v3 v4 v5 v6 v7 v8 v9 v10 v11 v12 := rfl
theorem cb13_o {T1 T2 T3 T4 T5 T6 T7 T8 T9 T10 T11 T12 T13 β : Type} {v1 : T1} {v2 : T2} {v3 : T3} {v4 : T4} {v5 : T5} {v6 : T6} {v7 : T7} {v8 : T8} {v9 : T9} {v10 : T10} {v11 : T11} {v12 : T12} {v13 : T13} {k : T1 → T2 → T3 → T4 → T5 → T6 → T7 → T8 → T9 → T10 → T11 → T12 → T13 → Option β} : cb13 (some (v1, v2, v3, v4, v5, v6, v7, v8, v9, v10, v11, v12, v13)) k = k v1 v2 v3 v4 v5 v6 v7 v8 v9 v10 v11 v12 v13 := rfl
theorem cb14_o {T1 T2 T3 T4 T5 T6 T7 T8 T9 T10 T11 T12 T13 T14 β : Type} {v1 : T1} {v2 : T2} {v3 : T3} {v4 : T4} {v5 : T5} {v6 : T6} {v7 : T7} {v8 : T8} {v9 : T9} {v10 : T10} {v11 : T11} {v12 : T12} {v13 : T13} {v14 : T14} {k : T1 → T2 → T3 → T4 → T5 → T6 → T7 → T8 → T9 → T10 → T11 → T12 → T13 → T14 → Option β} : cb14 (some (v1, v2, v3, v4, v5, v6, v7, v8, v9, v10, v11, v12, v13, v14)) k = k v1 v2 v3 v4 v5 v6 v7 v8 v9 v10 v11 v12 v13 v14 := rfl
theorem cb15_o {T1 T2 T3 T4 T5 T6 T7 T8 T9 T10 T11 T12 T13 T14 T15 β : Type} {v1 : T1} {v2 : T2} {v3 : T3} {v4 : T4} {v5 : T5} {v6 : T6} {v7 : T7} {v8 : T8} {v9 : T9} {v10 : T10} {v11 : T11} {v12 : T12} {v13 : T13} {v14 : T14} {v15 : T15} {k : T1 → T2 → T3 → T4 → T5 → T6 → T7 → T8 → T9 → T10 → T11 → T12 → T13 → T14 → T15 → Option β} : cb15 (some (v1, v2, v3, v4, v5, v6, v7, v8, v9, v10, v11, v12, v13, v14, v15)) k = k v1 v2 v3 v4 v5 v6 v7 v8 v9 v10 v11 v12 v13 v14 v15 := rfl
theorem cb16_o {T1 T2 T3 T4 T5 T6 T7 T8 T9 T10 T11 T12 T13 T14 T15 T16 β : Type} {v1 : T1} {v2 : T2} {v3 : T3} {v4 : T4} {v5 : T5} {v6 : T6} {v7 : T7} {v8 : T8} {v9 : T9} {v10 : T10} {v11 : T11} {v12 : T12} {v13 : T13} {v14 : T14} {v15 : T15} {v16 : T16} {k : T1 → T2 → T3 → T4 → T5 → T6 → T7 → T8 → T9 → T10 → T11 → T12 → T13 → T14 → T15 → T16 → Option β} : cb16 (some (v1, v2, v3, v4, v5, v6, v7, v8, v9, v10, v11, v12, v13, v14, v15, v16)) k = k v1 v2 v3 v4 v5 v6 v7 v8 v9 v10 v11 v12 v13 v14 v15 v16 := rfl
theorem cb17_o {T1 T2 T3 T4 T5 T6 T7 T8 T9 T10 T11 T12 T13 T14 T15 T16 T17 β : Type} {v1 : T1} {v2 : T2} {v3 : T3} {v4 : T4} {v5 : T5} {v6 : T6} {v7 : T7} {v8 : T8} {v9 : T9} {v10 : T10} {v11 : T11} {v12 : T12} {v13 : T13} {v14 : T14} {v15 : T15} {v16 : T16} {v17 : T17} {k : T1 → T2 → T3 → T4 → T5 → T6 → T7 → T8 → T9 → T10 → T11 → T12 → T13 → T14 → T15 → T16 → T17 → Option β} : cb17 (some (v1, v2, v3, v4, v5, v6, v7, v8, v9, v10, v11, v12, v13, v14, v15, v16, v17)) k = k v1 v2 v3 v4 v5 v6 v7 v8 v9 v10 v11 v12 v13 v14 v15 v16 v17 := rfl
theorem nmI_o {β : Type} {e : Int32} {k : Int32 → Option β} : nmI e k = k e := rfl
theorem nmL_o {β : Type} {e : Int64} {k : Int64 → Option β} : nmL e k = k e := rfl
theorem jin_o {i : Int32} {n : Nat} (h : 0 ≤ i.toInt) (h2 : i.toInt < n) : jin i n = true := by
  unfold jin
  rw [Bool.and_eq_true, decide_eq_true_iff, decide_eq_true_iff]
  exact ⟨h, h2⟩
theorem rdI_o {β : Type} {f : Nat → Int32} {n : Nat} {i : Int32} {k : Int32 → Option β} (h : jin i n = true) : rdI f n i k = k (f i.toNatClampNeg) := if_pos h
theorem wrI_o {β : Type} {f : Nat → Int32} {n : Nat} {i x : Int32} {k : (Nat → Int32) → Option β} (h : jin i n = true) : wrI f n i x k = k (upd f i.toNatClampNeg x) := if_pos h
theorem wrB_o {β : Type} {f : Nat → Int32} {n : Nat} {i x : Int32} {k : (Nat → Int32) → Option β} (h : jin i n = true) : wrB f n i x k = k (upd f i.toNatClampNeg (vp_nar .byte x)) := if_pos h
theorem wrZ_o {β : Type} {f : Nat → Int32} {n : Nat} {i x : Int32} {k : (Nat → Int32) → Option β} (h : jin i n = true) : wrZ f n i x k = k (upd f i.toNatClampNeg (vp_nar .boolean x)) := if_pos h
theorem rdN_o {β : Type} {n : Nat} {i : Int32} {k : Option β} (h : jin i n = true) : rdN (fun _ => none) n i k = k := if_pos ⟨h, rfl⟩
theorem gdN_o {β : Type} {n : Nat} {i : Int32} {k : Option β} (h : jin i n = true) : gdN n i k = k := if_pos h
theorem FU_s (n : Nat) (h : n ≤ 100000) : ∃ m, FU = m + n := ⟨FU - n, by unfold FU; omega⟩
theorem isDay_e (x : Int32) : f_X11_isDay x = some (bI (0 ≤ x.toInt ∧ x.toInt ≤ 399)) := by simp only [f_X11_isDay, W_iff, cb1_o, bo_bI, i32_0, i64_0, i32_1, i64_1, i32_2, i64_2, i32_3, i64_3, i32_4, i64_4, i32_5, i64_5, i32_6, i64_6, i32_9, i64_9, i32_10, i64_10, i32_20, i64_20, i32_23, i64_23, i32_30, i64_30, i32_35, i64_35, i32_39, i64_39, i32_40, i64_40, i32_60, i64_60, i32_120, i64_120, i32_127, i64_127, i32_180, i64_180, i32_399, i64_399, i32_400, i64_400, i32_700, i64_700, i32_999, i64_999, i32_1000, i64_1000, i32_1439, i64_1439, i32_1440, i64_1440, i32_2000, i64_2000, i32_1000000, i64_1000000, i32_1000000000, i64_1000000000, i32_100000, i64_100000, i32_n1, i64_n1, i32_n100000, i64_n100000]
theorem isMinute_e (x : Int32) : f_X11_isMinute x = some (bI (0 ≤ x.toInt ∧ x.toInt ≤ 1439)) := by simp only [f_X11_isMinute, W_iff, cb1_o, bo_bI, i32_0, i64_0, i32_1, i64_1, i32_2, i64_2, i32_3, i64_3, i32_4, i64_4, i32_5, i64_5, i32_6, i64_6, i32_9, i64_9, i32_10, i64_10, i32_20, i64_20, i32_23, i64_23, i32_30, i64_30, i32_35, i64_35, i32_39, i64_39, i32_40, i64_40, i32_60, i64_60, i32_120, i64_120, i32_127, i64_127, i32_180, i64_180, i32_399, i64_399, i32_400, i64_400, i32_700, i64_700, i32_999, i64_999, i32_1000, i64_1000, i32_1439, i64_1439, i32_1440, i64_1440, i32_2000, i64_2000, i32_1000000, i64_1000000, i32_1000000000, i64_1000000000, i32_100000, i64_100000, i32_n1, i64_n1, i32_n100000, i64_n100000]
theorem isShape_e (x : Int32) : f_X11_isShape x = some (bI (0 ≤ x.toInt ∧ x.toInt ≤ 3)) := by simp only [f_X11_isShape, W_iff, cb1_o, bo_bI, i32_0, i64_0, i32_1, i64_1, i32_2, i64_2, i32_3, i64_3, i32_4, i64_4, i32_5, i64_5, i32_6, i64_6, i32_9, i64_9, i32_10, i64_10, i32_20, i64_20, i32_23, i64_23, i32_30, i64_30, i32_35, i64_35, i32_39, i64_39, i32_40, i64_40, i32_60, i64_60, i32_120, i64_120, i32_127, i64_127, i32_180, i64_180, i32_399, i64_399, i32_400, i64_400, i32_700, i64_700, i32_999, i64_999, i32_1000, i64_1000, i32_1439, i64_1439, i32_1440, i64_1440, i32_2000, i64_2000, i32_1000000, i64_1000000, i32_1000000000, i64_1000000000, i32_100000, i64_100000, i32_n1, i64_n1, i32_n100000, i64_n100000]
theorem isReader_e (x : Int32) : f_X11_isReader x = some (bI (0 ≤ x.toInt ∧ x.toInt ≤ 3)) := by simp only [f_X11_isReader, W_iff, cb1_o, bo_bI, i32_0, i64_0, i32_1, i64_1, i32_2, i64_2, i32_3, i64_3, i32_4, i64_4, i32_5, i64_5, i32_6, i64_6, i32_9, i64_9, i32_10, i64_10, i32_20, i64_20, i32_23, i64_23, i32_30, i64_30, i32_35, i64_35, i32_39, i64_39, i32_40, i64_40, i32_60, i64_60, i32_120, i64_120, i32_127, i64_127, i32_180, i64_180, i32_399, i64_399, i32_400, i64_400, i32_700, i64_700, i32_999, i64_999, i32_1000, i64_1000, i32_1439, i64_1439, i32_1440, i64_1440, i32_2000, i64_2000, i32_1000000, i64_1000000, i32_1000000000, i64_1000000000, i32_100000, i64_100000, i32_n1, i64_n1, i32_n100000, i64_n100000]
theorem isStory_e (x : Int32) : f_X11_isStory x = some (bI (0 ≤ x.toInt ∧ x.toInt ≤ 5)) := by simp only [f_X11_isStory, W_iff, cb1_o, bo_bI, i32_0, i64_0, i32_1, i64_1, i32_2, i64_2, i32_3, i64_3, i32_4, i64_4, i32_5, i64_5, i32_6, i64_6, i32_9, i64_9, i32_10, i64_10, i32_20, i64_20, i32_23, i64_23, i32_30, i64_30, i32_35, i64_35, i32_39, i64_39, i32_40, i64_40, i32_60, i64_60, i32_120, i64_120, i32_127, i64_127, i32_180, i64_180, i32_399, i64_399, i32_400, i64_400, i32_700, i64_700, i32_999, i64_999, i32_1000, i64_1000, i32_1439, i64_1439, i32_1440, i64_1440, i32_2000, i64_2000, i32_1000000, i64_1000000, i32_1000000000, i64_1000000000, i32_100000, i64_100000, i32_n1, i64_n1, i32_n100000, i64_n100000]
theorem isBeat_e (x : Int32) : f_X11_isBeat x = some (bI (1 ≤ x.toInt ∧ x.toInt ≤ 1000000)) := by simp only [f_X11_isBeat, W_iff, cb1_o, bo_bI, i32_0, i64_0, i32_1, i64_1, i32_2, i64_2, i32_3, i64_3, i32_4, i64_4, i32_5, i64_5, i32_6, i64_6, i32_9, i64_9, i32_10, i64_10, i32_20, i64_20, i32_23, i64_23, i32_30, i64_30, i32_35, i64_35, i32_39, i64_39, i32_40, i64_40, i32_60, i64_60, i32_120, i64_120, i32_127, i64_127, i32_180, i64_180, i32_399, i64_399, i32_400, i64_400, i32_700, i64_700, i32_999, i64_999, i32_1000, i64_1000, i32_1439, i64_1439, i32_1440, i64_1440, i32_2000, i64_2000, i32_1000000, i64_1000000, i32_1000000000, i64_1000000000, i32_100000, i64_100000, i32_n1, i64_n1, i32_n100000, i64_n100000]
theorem isNightError_e (x : Int32) : f_X11_isNightError x = some (bI (0 ≤ x.toInt ∧ x.toInt ≤ 100000)) := by simp only [f_X11_isNightError, W_iff, cb1_o, bo_bI, i32_0, i64_0, i32_1, i64_1, i32_2, i64_2, i32_3, i64_3, i32_4, i64_4, i32_5, i64_5, i32_6, i64_6, i32_9, i64_9, i32_10, i64_10, i32_20, i64_20, i32_23, i64_23, i32_30, i64_30, i32_35, i64_35, i32_39, i64_39, i32_40, i64_40, i32_60, i64_60, i32_120, i64_120, i32_127, i64_127, i32_180, i64_180, i32_399, i64_399, i32_400, i64_400, i32_700, i64_700, i32_999, i64_999, i32_1000, i64_1000, i32_1439, i64_1439, i32_1440, i64_1440, i32_2000, i64_2000, i32_1000000, i64_1000000, i32_1000000000, i64_1000000000, i32_100000, i64_100000, i32_n1, i64_n1, i32_n100000, i64_n100000]
theorem misDay_e (x : Int32) : f_X12_isDay x = some (bI (0 ≤ x.toInt ∧ x.toInt ≤ 399)) := by simp only [f_X12_isDay, L_iff, t64, cb1_o, bo_bI, i32_0, i64_0, i32_1, i64_1, i32_2, i64_2, i32_3, i64_3, i32_4, i64_4, i32_5, i64_5, i32_6, i64_6, i32_9, i64_9, i32_10, i64_10, i32_20, i64_20, i32_23, i64_23, i32_30, i64_30, i32_35, i64_35, i32_39, i64_39, i32_40, i64_40, i32_60, i64_60, i32_120, i64_120, i32_127, i64_127, i32_180, i64_180, i32_399, i64_399, i32_400, i64_400, i32_700, i64_700, i32_999, i64_999, i32_1000, i64_1000, i32_1439, i64_1439, i32_1440, i64_1440, i32_2000, i64_2000, i32_1000000, i64_1000000, i32_1000000000, i64_1000000000, i32_100000, i64_100000, i32_n1, i64_n1, i32_n100000, i64_n100000]
theorem misMinute_e (x : Int32) : f_X12_isMinute x = some (bI (0 ≤ x.toInt ∧ x.toInt ≤ 1439)) := by simp only [f_X12_isMinute, L_iff, t64, cb1_o, bo_bI, i32_0, i64_0, i32_1, i64_1, i32_2, i64_2, i32_3, i64_3, i32_4, i64_4, i32_5, i64_5, i32_6, i64_6, i32_9, i64_9, i32_10, i64_10, i32_20, i64_20, i32_23, i64_23, i32_30, i64_30, i32_35, i64_35, i32_39, i64_39, i32_40, i64_40, i32_60, i64_60, i32_120, i64_120, i32_127, i64_127, i32_180, i64_180, i32_399, i64_399, i32_400, i64_400, i32_700, i64_700, i32_999, i64_999, i32_1000, i64_1000, i32_1439, i64_1439, i32_1440, i64_1440, i32_2000, i64_2000, i32_1000000, i64_1000000, i32_1000000000, i64_1000000000, i32_100000, i64_100000, i32_n1, i64_n1, i32_n100000, i64_n100000]
theorem misShape_e (x : Int32) : f_X12_isShape x = some (bI (0 ≤ x.toInt ∧ x.toInt ≤ 3)) := by simp only [f_X12_isShape, L_iff, t64, cb1_o, bo_bI, i32_0, i64_0, i32_1, i64_1, i32_2, i64_2, i32_3, i64_3, i32_4, i64_4, i32_5, i64_5, i32_6, i64_6, i32_9, i64_9, i32_10, i64_10, i32_20, i64_20, i32_23, i64_23, i32_30, i64_30, i32_35, i64_35, i32_39, i64_39, i32_40, i64_40, i32_60, i64_60, i32_120, i64_120, i32_127, i64_127, i32_180, i64_180, i32_399, i64_399, i32_400, i64_400, i32_700, i64_700, i32_999, i64_999, i32_1000, i64_1000, i32_1439, i64_1439, i32_1440, i64_1440, i32_2000, i64_2000, i32_1000000, i64_1000000, i32_1000000000, i64_1000000000, i32_100000, i64_100000, i32_n1, i64_n1, i32_n100000, i64_n100000]
theorem misReader_e (x : Int32) : f_X12_isReader x = some (bI (0 ≤ x.toInt ∧ x.toInt ≤ 3)) := by simp only [f_X12_isReader, L_iff, t64, cb1_o, bo_bI, i32_0, i64_0, i32_1, i64_1, i32_2, i64_2, i32_3, i64_3, i32_4, i64_4, i32_5, i64_5, i32_6, i64_6, i32_9, i64_9, i32_10, i64_10, i32_20, i64_20, i32_23, i64_23, i32_30, i64_30, i32_35, i64_35, i32_39, i64_39, i32_40, i64_40, i32_60, i64_60, i32_120, i64_120, i32_127, i64_127, i32_180, i64_180, i32_399, i64_399, i32_400, i64_400, i32_700, i64_700, i32_999, i64_999, i32_1000, i64_1000, i32_1439, i64_1439, i32_1440, i64_1440, i32_2000, i64_2000, i32_1000000, i64_1000000, i32_1000000000, i64_1000000000, i32_100000, i64_100000, i32_n1, i64_n1, i32_n100000, i64_n100000]
theorem misTale_e (x : Int32) : f_X12_isTale x = some (bI (0 ≤ x.toInt ∧ x.toInt ≤ 5)) := by simp only [f_X12_isTale, L_iff, t64, cb1_o, bo_bI, i32_0, i64_0, i32_1, i64_1, i32_2, i64_2, i32_3, i64_3, i32_4, i64_4, i32_5, i64_5, i32_6, i64_6, i32_9, i64_9, i32_10, i64_10, i32_20, i64_20, i32_23, i64_23, i32_30, i64_30, i32_35, i64_35, i32_39, i64_39, i32_40, i64_40, i32_60, i64_60, i32_120, i64_120, i32_127, i64_127, i32_180, i64_180, i32_399, i64_399, i32_400, i64_400, i32_700, i64_700, i32_999, i64_999, i32_1000, i64_1000, i32_1439, i64_1439, i32_1440, i64_1440, i32_2000, i64_2000, i32_1000000, i64_1000000, i32_1000000000, i64_1000000000, i32_100000, i64_100000, i32_n1, i64_n1, i32_n100000, i64_n100000]
theorem misBeat_e (x : Int32) : f_X12_isBeat x = some (bI (1 ≤ x.toInt ∧ x.toInt ≤ 1000000)) := by simp only [f_X12_isBeat, L_iff, t64, cb1_o, bo_bI, i32_0, i64_0, i32_1, i64_1, i32_2, i64_2, i32_3, i64_3, i32_4, i64_4, i32_5, i64_5, i32_6, i64_6, i32_9, i64_9, i32_10, i64_10, i32_20, i64_20, i32_23, i64_23, i32_30, i64_30, i32_35, i64_35, i32_39, i64_39, i32_40, i64_40, i32_60, i64_60, i32_120, i64_120, i32_127, i64_127, i32_180, i64_180, i32_399, i64_399, i32_400, i64_400, i32_700, i64_700, i32_999, i64_999, i32_1000, i64_1000, i32_1439, i64_1439, i32_1440, i64_1440, i32_2000, i64_2000, i32_1000000, i64_1000000, i32_1000000000, i64_1000000000, i32_100000, i64_100000, i32_n1, i64_n1, i32_n100000, i64_n100000]
theorem misError_e (x : Int32) : f_X12_isError x = some (bI (0 ≤ x.toInt ∧ x.toInt ≤ 100000)) := by simp only [f_X12_isError, L_iff, t64, cb1_o, bo_bI, i32_0, i64_0, i32_1, i64_1, i32_2, i64_2, i32_3, i64_3, i32_4, i64_4, i32_5, i64_5, i32_6, i64_6, i32_9, i64_9, i32_10, i64_10, i32_20, i64_20, i32_23, i64_23, i32_30, i64_30, i32_35, i64_35, i32_39, i64_39, i32_40, i64_40, i32_60, i64_60, i32_120, i64_120, i32_127, i64_127, i32_180, i64_180, i32_399, i64_399, i32_400, i64_400, i32_700, i64_700, i32_999, i64_999, i32_1000, i64_1000, i32_1439, i64_1439, i32_1440, i64_1440, i32_2000, i64_2000, i32_1000000, i64_1000000, i32_1000000000, i64_1000000000, i32_100000, i64_100000, i32_n1, i64_n1, i32_n100000, i64_n100000]
theorem misWithin_e (x : Int32) : f_X12_isWithin x = some (bI (0 ≤ x.toInt ∧ x.toInt ≤ 700)) := by simp only [f_X12_isWithin, L_iff, t64, cb1_o, bo_bI, i32_0, i64_0, i32_1, i64_1, i32_2, i64_2, i32_3, i64_3, i32_4, i64_4, i32_5, i64_5, i32_6, i64_6, i32_9, i64_9, i32_10, i64_10, i32_20, i64_20, i32_23, i64_23, i32_30, i64_30, i32_35, i64_35, i32_39, i64_39, i32_40, i64_40, i32_60, i64_60, i32_120, i64_120, i32_127, i64_127, i32_180, i64_180, i32_399, i64_399, i32_400, i64_400, i32_700, i64_700, i32_999, i64_999, i32_1000, i64_1000, i32_1439, i64_1439, i32_1440, i64_1440, i32_2000, i64_2000, i32_1000000, i64_1000000, i32_1000000000, i64_1000000000, i32_100000, i64_100000, i32_n1, i64_n1, i32_n100000, i64_n100000]
theorem isSource_e (x : Int32) : f_X12_isSource 0 x = some 0 := by
  simp only [f_X12_isSource, L_iff, t64, cb1_o, bo_bI, s01, i32_n1, i64_0]
  rw [show bI (0 ≤ x.toInt ∧ x.toInt ≤ -1) = 0 from by rw [bI_0]; omega]
theorem isNight_e (x : Int32) : f_X12_isNight 0 x = some 0 := by
  simp only [f_X12_isNight, L_iff, t64, cb1_o, bo_bI, s01, i32_n1, i64_0]
  rw [show bI (0 ≤ x.toInt ∧ x.toInt ≤ -1) = 0 from by rw [bI_0]; omega]
theorem sourceAt_e (x : Int32) : f_X7_sourceAt 0 (fun _ => none) x = some () := by
  simp only [f_X7_sourceAt, W_iff, cb1_o, s01, i32_n1, i32_0]
  rw [show bI (0 ≤ x.toInt ∧ x.toInt ≤ -1) = 0 from by rw [bI_0]; omega, if_pos rfl]
theorem storyAt_e (x : Int32) : f_X2_storyAt (fun _ => none) x = some () := by
  simp only [f_X2_storyAt, isStory_e, cb1_o, bI_0]
  by_cases h : 0 ≤ x.toInt ∧ x.toInt ≤ 5
  · rw [if_neg (not_not_intro h), rdN_o (jin_o h.1 (by omega))]
  · rw [if_pos h]
theorem isTold_e (x : Int32) : f_X12_isTold (fun _ => 0) x = some 0 := by
  simp only [f_X12_isTold, misTale_e, cb1_o, bI_0]
  by_cases h : 0 ≤ x.toInt ∧ x.toInt ≤ 5
  · rw [if_neg (not_not_intro h), rdI_o, if_pos (by decide)]
    refine jin_o ?_ ?_
    · rw [Int32.toInt_add]; rw [show (14 : Int32).toInt = 14 from by decide, Int.bmod_eq_of_le] <;> omega
    · rw [Int32.toInt_add]; rw [show (14 : Int32).toInt = 14 from by decide, Int.bmod_eq_of_le] <;> omega
  · rw [if_pos h]
theorem pf_3 (y1 : Int32) (y2 : Int32) : ∃ (r : Int32), f_X11_law 0 (fun _ => none) y1 y2 = some (r) ∧ f_X12_law 0 0 y1 y2 = some (r) :=
  ⟨-1, by simp only [f_X11_law, sourceAt_e, cb1_o], by simp only [f_X12_law, isSource_e, cb1_o, if_true]⟩
theorem pf_7 (y1 : Int32) (y2 : Int32) (y3 : Int32) : ∃ (r : Int32), f_X11_height 0 (fun _ => none) y1 y2 y3 = some (r) ∧ f_X12_height 0 y1 y2 y3 = some (r) :=
  ⟨-1, by simp only [f_X11_height, sourceAt_e, cb1_o], by simp only [f_X12_height, isSource_e, cb1_o, if_true]⟩
theorem pf_22 (y1 : Int32) (y2 : Int32) : ∃ (r : Int32), f_X11_says (fun _ => none) y1 y2 = some (r) ∧ f_X12_says 0 (fun _ => 0) y1 y2 = some (r) :=
  ⟨-1000000, by simp only [f_X11_says, storyAt_e, cb1_o], by simp only [f_X12_says, isTold_e, cb1_o, if_true]⟩
theorem pf_23 (y1 : Int32) (y2 : Int32) : ∃ (r : Int32), f_X11_falls (fun _ => none) y1 y2 = some (r) ∧ f_X12_falls (fun _ => 0) y1 y2 = some (r) :=
  ⟨-1, by simp only [f_X11_falls, storyAt_e, cb1_o], by simp only [f_X12_falls, isTold_e, cb1_o, if_true]⟩
theorem pf_6 (y1 : Int32) (y2 : Int32) : ∃ (r : Int32), f_X11_star y1 y2 = some (r) ∧ f_X12_star y1 y2 = some (r) := by
  simp only [f_X11_star, f_X12_star, isDay_e, isMinute_e, misDay_e, misMinute_e, cb1_o, bI_0, f_X11_starMinute, f_X12_starAt]
  by_cases h1 : 0 ≤ y1.toInt ∧ y1.toInt ≤ 399 <;> by_cases h2 : 0 ≤ y2.toInt ∧ y2.toInt ≤ 1439 <;> simp [h1, h2]
theorem pf_1 (y1 : Int32) : ∃ (r : Int32) (x_o_page_day : Int32) (x_o_sky_seed : Int32) (m_o_seed : Int32), f_X11_seed (-1) 0 y1 = some (r, x_o_page_day, x_o_sky_seed) ∧ f_X12_seed 0 y1 = some (r, m_o_seed) := by
  simp only [f_X11_seed, f_X12_seed, W_iff, L_iff, t64, cb1_o, bI_0, f_X4_forget, i32_0, i64_0, i32_1, i64_1, i32_2, i64_2, i32_3, i64_3, i32_4, i64_4, i32_5, i64_5, i32_6, i64_6, i32_9, i64_9, i32_10, i64_10, i32_20, i64_20, i32_23, i64_23, i32_30, i64_30, i32_35, i64_35, i32_39, i64_39, i32_40, i64_40, i32_60, i64_60, i32_120, i64_120, i32_127, i64_127, i32_180, i64_180, i32_399, i64_399, i32_400, i64_400, i32_700, i64_700, i32_999, i64_999, i32_1000, i64_1000, i32_1439, i64_1439, i32_1440, i64_1440, i32_2000, i64_2000, i32_1000000, i64_1000000, i32_1000000000, i64_1000000000, i32_100000, i64_100000, i32_n1, i64_n1, i32_n100000, i64_n100000]
  by_cases h : 0 ≤ y1.toInt ∧ y1.toInt ≤ 999
  · simp only [h, and_self, not_true, if_false]; exact ⟨_, _, _, _, rfl, rfl⟩
  · simp only [h, not_false_eq_true, if_true]; exact ⟨_, _, _, _, rfl, rfl⟩
