/-! pure facts, of a new object -/
def bI (P : Prop) [Decidable P] : Int32 := if P then 1 else 0
theorem bI_0 {P : Prop} {_ : Decidable P} : (bI P = 0) = ¬ P := by
  unfold bI
  by_cases h : P <;> simp [h]
theorem bo_bI {β : Type} {P : Prop} {_ : Decidable P} {k : Option β} : bo (bI P) k = k := by
  unfold bo bI
  by_cases h : P <;> simp [h]
theorem W_iff (x a b : Int32) : f_X11_isWithin x a b = some (bI (a.toInt ≤ x.toInt ∧ x.toInt ≤ b.toInt)) := by
  unfold f_X11_isWithin bI
  by_cases h1 : x < a
  · rw [if_pos h1, if_neg]
    rw [Int32.lt_iff_toInt_lt] at h1
    omega
  · rw [if_neg h1]
    by_cases h2 : b < x
    · rw [if_pos h2, if_neg]
      rw [Int32.lt_iff_toInt_lt] at h2
      omega
    · rw [if_neg h2, if_pos]
      rw [Int32.lt_iff_toInt_lt] at h1 h2
      omega
theorem L_iff (x a b : Int64) : f_X12_lies x a b = some (bI (a.toInt ≤ x.toInt ∧ x.toInt ≤ b.toInt)) := by
  unfold f_X12_lies bI
  simp only [lg_lt, lg_gt]
  by_cases h1 : x.toInt < a.toInt
  · rw [if_pos h1, if_neg]; omega
  · rw [if_neg h1]
    by_cases h2 : b.toInt < x.toInt
    · rw [if_pos h2, if_neg]; omega
    · rw [if_neg h2, if_pos]; omega
theorem i32_0 : (0 : Int32).toInt = 0 := by decide
theorem i64_0 : (0 : Int64).toInt = 0 := by decide
theorem i32_1 : (1 : Int32).toInt = 1 := by decide
theorem i64_1 : (1 : Int64).toInt = 1 := by decide
theorem i32_2 : (2 : Int32).toInt = 2 := by decide
theorem i64_2 : (2 : Int64).toInt = 2 := by decide
theorem i32_3 : (3 : Int32).toInt = 3 := by decide
theorem i64_3 : (3 : Int64).toInt = 3 := by decide
theorem i32_4 : (4 : Int32).toInt = 4 := by decide
theorem i64_4 : (4 : Int64).toInt = 4 := by decide
theorem i32_5 : (5 : Int32).toInt = 5 := by decide
theorem i64_5 : (5 : Int64).toInt = 5 := by decide
theorem i32_6 : (6 : Int32).toInt = 6 := by decide
theorem i64_6 : (6 : Int64).toInt = 6 := by decide
theorem i32_9 : (9 : Int32).toInt = 9 := by decide
theorem i64_9 : (9 : Int64).toInt = 9 := by decide
theorem i32_10 : (10 : Int32).toInt = 10 := by decide
theorem i64_10 : (10 : Int64).toInt = 10 := by decide
theorem i32_20 : (20 : Int32).toInt = 20 := by decide
theorem i64_20 : (20 : Int64).toInt = 20 := by decide
theorem i32_23 : (23 : Int32).toInt = 23 := by decide
theorem i64_23 : (23 : Int64).toInt = 23 := by decide
theorem i32_30 : (30 : Int32).toInt = 30 := by decide
theorem i64_30 : (30 : Int64).toInt = 30 := by decide
theorem i32_35 : (35 : Int32).toInt = 35 := by decide
theorem i64_35 : (35 : Int64).toInt = 35 := by decide
theorem i32_39 : (39 : Int32).toInt = 39 := by decide
theorem i64_39 : (39 : Int64).toInt = 39 := by decide
theorem i32_40 : (40 : Int32).toInt = 40 := by decide
theorem i64_40 : (40 : Int64).toInt = 40 := by decide
theorem i32_60 : (60 : Int32).toInt = 60 := by decide
theorem i64_60 : (60 : Int64).toInt = 60 := by decide
theorem i32_120 : (120 : Int32).toInt = 120 := by decide
theorem i64_120 : (120 : Int64).toInt = 120 := by decide
theorem i32_127 : (127 : Int32).toInt = 127 := by decide
theorem i64_127 : (127 : Int64).toInt = 127 := by decide
theorem i32_180 : (180 : Int32).toInt = 180 := by decide
theorem i64_180 : (180 : Int64).toInt = 180 := by decide
theorem i32_399 : (399 : Int32).toInt = 399 := by decide
theorem i64_399 : (399 : Int64).toInt = 399 := by decide
theorem i32_400 : (400 : Int32).toInt = 400 := by decide
theorem i64_400 : (400 : Int64).toInt = 400 := by decide
theorem i32_700 : (700 : Int32).toInt = 700 := by decide
theorem i64_700 : (700 : Int64).toInt = 700 := by decide
theorem i32_999 : (999 : Int32).toInt = 999 := by decide
theorem i64_999 : (999 : Int64).toInt = 999 := by decide
theorem i32_1000 : (1000 : Int32).toInt = 1000 := by decide
theorem i64_1000 : (1000 : Int64).toInt = 1000 := by decide
theorem i32_1439 : (1439 : Int32).toInt = 1439 := by decide
theorem i64_1439 : (1439 : Int64).toInt = 1439 := by decide
theorem i32_1440 : (1440 : Int32).toInt = 1440 := by decide
theorem i64_1440 : (1440 : Int64).toInt = 1440 := by decide
theorem i32_2000 : (2000 : Int32).toInt = 2000 := by decide
theorem i64_2000 : (2000 : Int64).toInt = 2000 := by decide
theorem i32_1000000 : (1000000 : Int32).toInt = 1000000 := by decide
theorem i64_1000000 : (1000000 : Int64).toInt = 1000000 := by decide
theorem i32_1000000000 : (1000000000 : Int32).toInt = 1000000000 := by decide
theorem i64_1000000000 : (1000000000 : Int64).toInt = 1000000000 := by decide
theorem i32_100000 : (100000 : Int32).toInt = 100000 := by decide
theorem i64_100000 : (100000 : Int64).toInt = 100000 := by decide
theorem i32_n1 : (-1 : Int32).toInt = -1 := by decide
theorem i64_n1 : (-1 : Int64).toInt = -1 := by decide
theorem i32_n100000 : (-100000 : Int32).toInt = -100000 := by decide
theorem i64_n100000 : (-100000 : Int64).toInt = -100000 := by decide
theorem s01 : (0 : Int32) - 1 = -1 := by decide
theorem cb1_o {T1 β : Type} {v1 : T1} {k : T1 → Option β} : cb1 (some (v1)) k = k v1 := rfl
theorem cb2_o {T1 T2 β : Type} {v1 : T1} {v2 : T2} {k : T1 → T2 → Option β} : cb2 (some (v1, v2)) k = k v1 v2 := rfl
theorem cb3_o {T1 T2 T3 β : Type} {v1 : T1} {v2 : T2} {v3 : T3} {k : T1 → T2 → T3 → Option β} : cb3 (some (v1, v2, v3)) k = k v1 v2 v3 := rfl
theorem cb4_o {T1 T2 T3 T4 β : Type} {v1 : T1} {v2 : T2} {v3 : T3} {v4 : T4} {k : T1 → T2 → T3 → T4 → Option β} : cb4 (some (v1, v2, v3, v4)) k = k v1 v2 v3 v4 := rfl
theorem cb5_o {T1 T2 T3 T4 T5 β : Type} {v1 : T1} {v2 : T2} {v3 : T3} {v4 : T4} {v5 : T5} {k : T1 → T2 → T3 → T4 → T5 → Option β} : cb5 (some (v1, v2, v3, v4, v5)) k = k v1 v2 v3 v4 v5 := rfl
theorem cb6_o {T1 T2 T3 T4 T5 T6 β : Type} {v1 : T1} {v2 : T2} {v3 : T3} {v4 : T4} {v5 : T5} {v6 : T6} {k : T1 → T2 → T3 → T4 → T5 → T6 → Option β} : cb6 (some (v1, v2, v3, v4, v5, v6)) k = k v1 v2 v3 v4 v5 v6 := rfl
theorem cb7_o {T1 T2 T3 T4 T5 T6 T7 β : Type} {v1 : T1} {v2 : T2} {v3 : T3} {v4 : T4} {v5 : T5} {v6 : T6} {v7 : T7} {k : T1 → T2 → T3 → T4 → T5 → T6 → T7 → Option β} : cb7 (some (v1, v2, v3, v4, v5, v6, v7)) k = k v1 v2 v3 v4 v5 v6 v7 := rfl
theorem cb8_o {T1 T2 T3 T4 T5 T6 T7 T8 β : Type} {v1 : T1} {v2 : T2} {v3 : T3} {v4 : T4} {v5 : T5} {v6 : T6} {v7 : T7} {v8 : T8} {k : T1 → T2 → T3 → T4 → T5 → T6 → T7 → T8 → Option β} : cb8 (some (v1, v2, v3, v4, v5, v6, v7, v8)) k = k v1 v2 v3 v4 v5 v6 v7 v8 := rfl
theorem cb9_o {T1 T2 T3 T4 T5 T6 T7 T8 T9 β : Type} {v1 : T1} {v2 : T2} {v3 : T3} {v4 : T4} {v5 : T5} {v6 : T6} {v7 : T7} {v8 : T8} {v9 : T9} {k : T1 → T2 → T3 → T4 → T5 → T6 → T7 → T8 → T9 → Option β} : cb9 (some (v1, v2, v3, v4, v5, v6, v7, v8, v9)) k = k v1 v2 v3 v4 v5 v6 v7 v8 v9 := rfl
theorem cb10_o {T1 T2 T3 T4 T5 T6 T7 T8 T9 T10 β : Type} {v1 : T1} {v2 : T2} {v3 : T3} {v4 : T4} {v5 : T5} {v6 : T6} {v7 : T7} {v8 : T8} {v9 : T9} {v10 : T10} {k : T1 → T2 → T3 → T4 → T5 → T6 → T7 → T8 → T9 → T10 → Option β} : cb10 (some (v1, v2, v3, v4, v5, v6, v7, v8, v9, v10)) k = k v1 v2 v3 v4 v5 v6 v7 v8 v9 v10 := rfl
theorem cb11_o {T1 T2 T3 T4 T5 T6 T7 T8 T9 T10 T11 β : Type} {v1 : T1} {v2 : T2} {v3 : T3} {v4 : T4} {v5 : T5} {v6 : T6} {v7 : T7} {v8 : T8} {v9 : T9} {v10 : T10} {v11 : T11} {k : T1 → T2 → T3 → T4 → T5 → T6 → T7 → T8 → T9 → T10 → T11 → Option β} : cb11 (some (v1, v2, v3, v4, v5, v6, v7, v8, v9, v10, v11)) k = k v1 v2 v3 v4 v5 v6 v7 v8 v9 v10 v11 := rfl
theorem cb12_o {T1 T2 T3 T4 T5 T6 T7 T8 T9 T10 T11 T12 β : Type} {v1 : T1} {v2 : T2} {v3 : T3} {v4 : T4} {v5 : T5} {v6 : T6} {v7 : T7} {v8 : T8} {v9 : T9} {v10 : T10} {v11 : T11} {v12 : T12} {k : T1 → T2 → T3 → T4 → T5 → T6 → T7 → T8 → T9 → T10 → T11 → T12 → Option β} : cb12 (some (v1, v2, v3, v4, v5, v6, v7, v8, v9, v10, v11, v12)) k = k v1 v2 v3 v4 v5 v6 v7 v8 v9 v10 v11 v12 := rfl
theorem cb13_o {T1 T2 T3 T4 T5 T6 T7 T8 T9 T10 T11 T12 T13 β : Type} {v1 : T1} {v2 : T2} {v3 : T3} {v4 : T4} {v5 : T5} {v6 : T6} {v7 : T7} {v8 : T8} {v9 : T9} {v10 : T10} {v11 : T11} {v12 : T12} {v13 : T13} {k : T1 → T2 → T3 → T4 → T5 → T6 → T7 → T8 → T9 → T10 → T11 → T12 → T13 → Option β} : cb13 (some (v1, v2, v3, v4, v5, v6, v7, v8, v9, v10, v11, v12, v13)) k = k v1 v2 v3 v4 v5 v6 v7 v8 v9 v10 v11 v12 v13 := rfl
theorem cb14_o {T1 T2 T3 T4 T5 T6 T7 T8 T9 T10 T11 T12 T13 T14 β : Type} {v1 : T1} {v2 : T2} {v3 : T3} {v4 : T4} {v5 : T5} {v6 : T6} {v7 : T7} {v8 : T8} {v9 : T9} {v10 : T10} {v11 : T11} {v12 : T12} {v13 : T13} {v14 : T14} {k : T1 → T2 → T3 → T4 → T5 → T6 → T7 → T8 → T9 → T10 → T11 → T12 → T13 → T14 → Option β} : cb14 (some (v1, v2, v3, v4, v5, v6, v7, v8, v9, v10, v11, v12, v13, v14)) k = k v1 v2 v3 v4 v5 v6 v7 v8 v9 v10 v11 v12 v13 v14 := rfl
theorem cb15_o {T1 T2 T3 T4 T5 T6 T7 T8 T9 T10 T11 T12 T13 T14 T15 β : Type} {v1 : T1} {v2 : T2} {v3 : T3} {v4 : T4} {v5 : T5} {v6 : T6} {v7 : T7} {v8 : T8} {v9 : T9} {v10 : T10} {v11 : T11} {v12 : T12} {v13 : T13} {v14 : T14} {v15 : T15} {k : T1 → T2 → T3 → T4 → T5 → T6 → T7 → T8 → T9 → T10 → T11 → T12 → T13 → T14 → T15 → Option β} : cb15 (some (v1, v2, v3, v4, v5, v6, v7, v8, v9, v10, v11, v12, v13, v14, v15)) k = k v1 v2 v3 v4 v5 v6 v7 v8 v9 v10 v11 v12 v13 v14 v15 := rfl
theorem cb16_o {T1 T2 T3 T4 T5 T6 T7 T8 T9 T10 T11 T12 T13 T14 T15 T16 β : Type} {v1 : T1} {v2 : T2} {v3 : T3} {v4 : T4} {v5 : T5} {v6 : T6} {v7 : T7} {v8 : T8} {v9 : T9} {v10 : T10} {v11 : T11} {v12 : T12} {v13 : T13} {v14 : T14} {v15 : T15} {v16 : T16} {k : T1 → T2 → T3 → T4 → T5 → T6 → T7 → T8 → T9 → T10 → T11 → T12 → T13 → T14 → T15 → T16 → Option β} : cb16 (some (v1, v2, v3, v4, v5, v6, v7, v8, v9, v10, v11, v12, v13, v14, v15, v16)) k = k v1 v2 v3 v4 v5 v6 v7 v8 v9 v10 v11 v12 v13 v14 v15 v16 := rfl
theorem cb17_o {T1 T2 T3 T4 T5 T6 T7 T8 T9 T10 T11 T12 T13 T14 T15 T16 T17 β : Type} {v1 : T1} {v2 : T2} {v3 : T3} {v4 : T4} {v5 : T5} {v6 : T6} {v7 : T7} {v8 : T8} {v9 : T9} {v10 : T10} {v11 : T11} {v12 : T12} {v13 : T13} {v14 : T14} {v15 : T15} {v16 : T16} {v17 : T17} {k : T1 → T2 → T3 → T4 → T5 → T6 → T7 → T8 → T9 → T10 → T11 → T12 → T13 → T14 → T15 → T16 → T17 → Option β} : cb17 (some (v1, v2, v3, v4, v5, v6, v7, v8, v9, v10, v11, v12, v13, v14, v15, v16, v17)) k = k v1 v2 v3 v4 v5 v6 v7 v8 v9 v10 v11 v12 v13 v14 v15 v16 v17 := rfl
theorem nmI_o {β : Type} {e : Int32} {k : Int32 → Option β} : nmI e k = k e := rfl
theorem nmL_o {β : Type} {e : Int64} {k : Int64 → Option β} : nmL e k = k e := rfl
theorem rdI_o {β : Type} {f : Nat → Int32} {n : Nat} {i : Int32} {k : Int32 → Option β} (h : jin i n = true) : rdI f n i k = k (f i.toNatClampNeg) := if_pos h
theorem wrI_o {β : Type} {f : Nat → Int32} {n : Nat} {i x : Int32} {k : (Nat → Int32) → Option β} (h : jin i n = true) : wrI f n i x k = k (upd f i.toNatClampNeg x) := if_pos h
theorem wrB_o {β : Type} {f : Nat → Int32} {n : Nat} {i x : Int32} {k : (Nat → Int32) → Option β} (h : jin i n = true) : wrB f n i x k = k (upd f i.toNatClampNeg (vp_nar .byte x)) := if_pos h
theorem wrZ_o {β : Type} {f : Nat → Int32} {n : Nat} {i x : Int32} {k : (Nat → Int32) → Option β} (h : jin i n = true) : wrZ f n i x k = k (upd f i.toNatClampNeg (vp_nar .boolean x)) := if_pos h
theorem gdN_o {β : Type} {n : Nat} {i : Int32} {k : Option β} (h : jin i n = true) : gdN n i k = k := if_pos h
theorem isDay_e (x : Int32) : f_X11_isDay x = some (bI (0 ≤ x.toInt ∧ x.toInt ≤ 399)) := by simp only [f_X11_isDay, W_iff, cb1_o, bo_bI, i32_0, i64_0, i32_1, i64_1, i32_2, i64_2, i32_3, i64_3, i32_4, i64_4, i32_5, i64_5, i32_6, i64_6, i32_9, i64_9, i32_10, i64_10, i32_20, i64_20, i32_23, i64_23, i32_30, i64_30, i32_35, i64_35, i32_39, i64_39, i32_40, i64_40, i32_60, i64_60, i32_120, i64_120, i32_127, i64_127, i32_180, i64_180, i32_399, i64_399, i32_400, i64_400, i32_700, i64_700, i32_999, i64_999, i32_1000, i64_1000, i32_1439, i64_1439, i32_1440, i64_1440, i32_2000, i64_2000, i32_1000000, i64_1000000, i32_1000000000, i64_1000000000, i32_100000, i64_100000, i32_n1, i64_n1, i32_n100000, i64_n100000]
theorem isMinute_e (x : Int32) : f_X11_isMinute x = some (bI (0 ≤ x.toInt ∧ x.toInt ≤ 1439)) := by simp only [f_X11_isMinute, W_iff, cb1_o, bo_bI, i32_0, i64_0, i32_1, i64_1, i32_2, i64_2, i32_3, i64_3, i32_4, i64_4, i32_5, i64_5, i32_6, i64_6, i32_9, i64_9, i32_10, i64_10, i32_20, i64_20, i32_23, i64_23, i32_30, i64_30, i32_35, i64_35, i32_39, i64_39, i32_40, i64_40, i32_60, i64_60, i32_120, i64_120, i32_127, i64_127, i32_180, i64_180, i32_399, i64_399, i32_400, i64_400, i32_700, i64_700, i32_999, i64_999, i32_1000, i64_1000, i32_1439, i64_1439, i32_1440, i64_1440, i32_2000, i64_2000, i32_1000000, i64_1000000, i32_1000000000, i64_1000000000, i32_100000, i64_100000, i32_n1, i64_n1, i32_n100000, i64_n100000]
theorem isShape_e (x : Int32) : f_X11_isShape x = some (bI (0 ≤ x.toInt ∧ x.toInt ≤ 3)) := by simp only [f_X11_isShape, W_iff, cb1_o, bo_bI, i32_0, i64_0, i32_1, i64_1, i32_2, i64_2, i32_3, i64_3, i32_4, i64_4, i32_5, i64_5, i32_6, i64_6, i32_9, i64_9, i32_10, i64_10, i32_20, i64_20, i32_23, i64_23, i32_30, i64_30, i32_35, i64_35, i32_39, i64_39, i32_40, i64_40, i32_60, i64_60, i32_120, i64_120, i32_127, i64_127, i32_180, i64_180, i32_399, i64_399, i32_400, i64_400, i32_700, i64_700, i32_999, i64_999, i32_1000, i64_1000, i32_1439, i64_1439, i32_1440, i64_1440, i32_2000, i64_2000, i32_1000000, i64_1000000, i32_1000000000, i64_1000000000, i32_100000, i64_100000, i32_n1, i64_n1, i32_n100000, i64_n100000]
theorem isReader_e (x : Int32) : f_X11_isReader x = some (bI (0 ≤ x.toInt ∧ x.toInt ≤ 3)) := by simp only [f_X11_isReader, W_iff, cb1_o, bo_bI, i32_0, i64_0, i32_1, i64_1, i32_2, i64_2, i32_3, i64_3, i32_4, i64_4, i32_5, i64_5, i32_6, i64_6, i32_9, i64_9, i32_10, i64_10, i32_20, i64_20, i32_23, i64_23, i32_30, i64_30, i32_35, i64_35, i32_39, i64_39, i32_40, i64_40, i32_60, i64_60, i32_120, i64_120, i32_127, i64_127, i32_180, i64_180, i32_399, i64_399, i32_400, i64_400, i32_700, i64_700, i32_999, i64_999, i32_1000, i64_1000, i32_1439, i64_1439, i32_1440, i64_1440, i32_2000, i64_2000, i32_1000000, i64_1000000, i32_1000000000, i64_1000000000, i32_100000, i64_100000, i32_n1, i64_n1, i32_n100000, i64_n100000]
theorem isStory_e (x : Int32) : f_X11_isStory x = some (bI (0 ≤ x.toInt ∧ x.toInt ≤ 5)) := by simp only [f_X11_isStory, W_iff, cb1_o, bo_bI, i32_0, i64_0, i32_1, i64_1, i32_2, i64_2, i32_3, i64_3, i32_4, i64_4, i32_5, i64_5, i32_6, i64_6, i32_9, i64_9, i32_10, i64_10, i32_20, i64_20, i32_23, i64_23, i32_30, i64_30, i32_35, i64_35, i32_39, i64_39, i32_40, i64_40, i32_60, i64_60, i32_120, i64_120, i32_127, i64_127, i32_180, i64_180, i32_399, i64_399, i32_400, i64_400, i32_700, i64_700, i32_999, i64_999, i32_1000, i64_1000, i32_1439, i64_1439, i32_1440, i64_1440, i32_2000, i64_2000, i32_1000000, i64_1000000, i32_1000000000, i64_1000000000, i32_100000, i64_100000, i32_n1, i64_n1, i32_n100000, i64_n100000]
theorem isBeat_e (x : Int32) : f_X11_isBeat x = some (bI (1 ≤ x.toInt ∧ x.toInt ≤ 1000000)) := by simp only [f_X11_isBeat, W_iff, cb1_o, bo_bI, i32_0, i64_0, i32_1, i64_1, i32_2, i64_2, i32_3, i64_3, i32_4, i64_4, i32_5, i64_5, i32_6, i64_6, i32_9, i64_9, i32_10, i64_10, i32_20, i64_20, i32_23, i64_23, i32_30, i64_30, i32_35, i64_35, i32_39, i64_39, i32_40, i64_40, i32_60, i64_60, i32_120, i64_120, i32_127, i64_127, i32_180, i64_180, i32_399, i64_399, i32_400, i64_400, i32_700, i64_700, i32_999, i64_999, i32_1000, i64_1000, i32_1439, i64_1439, i32_1440, i64_1440, i32_2000, i64_2000, i32_1000000, i64_1000000, i32_1000000000, i64_1000000000, i32_100000, i64_100000, i32_n1, i64_n1, i32_n100000, i64_n100000]
theorem isNightError_e (x : Int32) : f_X11_isNightError x = some (bI (0 ≤ x.toInt ∧ x.toInt ≤ 100000)) := by simp only [f_X11_isNightError, W_iff, cb1_o, bo_bI, i32_0, i64_0, i32_1, i64_1, i32_2, i64_2, i32_3, i64_3, i32_4, i64_4, i32_5, i64_5, i32_6, i64_6, i32_9, i64_9, i32_10, i64_10, i32_20, i64_20, i32_23, i64_23, i32_30, i64_30, i32_35, i64_35, i32_39, i64_39, i32_40, i64_40, i32_60, i64_60, i32_120, i64_120, i32_127, i64_127, i32_180, i64_180, i32_399, i64_399, i32_400, i64_400, i32_700, i64_700, i32_999, i64_999, i32_1000, i64_1000, i32_1439, i64_1439, i32_1440, i64_1440, i32_2000, i64_2000, i32_1000000, i64_1000000, i32_1000000000, i64_1000000000, i32_100000, i64_100000, i32_n1, i64_n1, i32_n100000, i64_n100000]
theorem misDay_e (x : Int32) : f_X12_isDay x = some (bI (0 ≤ x.toInt ∧ x.toInt ≤ 399)) := by simp only [f_X12_isDay, L_iff, t64, cb1_o, bo_bI, i32_0, i64_0, i32_1, i64_1, i32_2, i64_2, i32_3, i64_3, i32_4, i64_4, i32_5, i64_5, i32_6, i64_6, i32_9, i64_9, i32_10, i64_10, i32_20, i64_20, i32_23, i64_23, i32_30, i64_30, i32_35, i64_35, i32_39, i64_39, i32_40, i64_40, i32_60, i64_60, i32_120, i64_120, i32_127, i64_127, i32_180, i64_180, i32_399, i64_399, i32_400, i64_400, i32_700, i64_700, i32_999, i64_999, i32_1000, i64_1000, i32_1439, i64_1439, i32_1440, i64_1440, i32_2000, i64_2000, i32_1000000, i64_1000000, i32_1000000000, i64_1000000000, i32_100000, i64_100000, i32_n1, i64_n1, i32_n100000, i64_n100000]
theorem misMinute_e (x : Int32) : f_X12_isMinute x = some (bI (0 ≤ x.toInt ∧ x.toInt ≤ 1439)) := by simp only [f_X12_isMinute, L_iff, t64, cb1_o, bo_bI, i32_0, i64_0, i32_1, i64_1, i32_2, i64_2, i32_3, i64_3, i32_4, i64_4, i32_5, i64_5, i32_6, i64_6, i32_9, i64_9, i32_10, i64_10, i32_20, i64_20, i32_23, i64_23, i32_30, i64_30, i32_35, i64_35, i32_39, i64_39, i32_40, i64_40, i32_60, i64_60, i32_120, i64_120, i32_127, i64_127, i32_180, i64_180, i32_399, i64_399, i32_400, i64_400, i32_700, i64_700, i32_999, i64_999, i32_1000, i64_1000, i32_1439, i64_1439, i32_1440, i64_1440, i32_2000, i64_2000, i32_1000000, i64_1000000, i32_1000000000, i64_1000000000, i32_100000, i64_100000, i32_n1, i64_n1, i32_n100000, i64_n100000]
theorem misShape_e (x : Int32) : f_X12_isShape x = some (bI (0 ≤ x.toInt ∧ x.toInt ≤ 3)) := by simp only [f_X12_isShape, L_iff, t64, cb1_o, bo_bI, i32_0, i64_0, i32_1, i64_1, i32_2, i64_2, i32_3, i64_3, i32_4, i64_4, i32_5, i64_5, i32_6, i64_6, i32_9, i64_9, i32_10, i64_10, i32_20, i64_20, i32_23, i64_23, i32_30, i64_30, i32_35, i64_35, i32_39, i64_39, i32_40, i64_40, i32_60, i64_60, i32_120, i64_120, i32_127, i64_127, i32_180, i64_180, i32_399, i64_399, i32_400, i64_400, i32_700, i64_700, i32_999, i64_999, i32_1000, i64_1000, i32_1439, i64_1439, i32_1440, i64_1440, i32_2000, i64_2000, i32_1000000, i64_1000000, i32_1000000000, i64_1000000000, i32_100000, i64_100000, i32_n1, i64_n1, i32_n100000, i64_n100000]
theorem misReader_e (x : Int32) : f_X12_isReader x = some (bI (0 ≤ x.toInt ∧ x.toInt ≤ 3)) := by simp only [f_X12_isReader, L_iff, t64, cb1_o, bo_bI, i32_0, i64_0, i32_1, i64_1, i32_2, i64_2, i32_3, i64_3, i32_4, i64_4, i32_5, i64_5, i32_6, i64_6, i32_9, i64_9, i32_10, i64_10, i32_20, i64_20, i32_23, i64_23, i32_30, i64_30, i32_35, i64_35, i32_39, i64_39, i32_40, i64_40, i32_60, i64_60, i32_120, i64_120, i32_127, i64_127, i32_180, i64_180, i32_399, i64_399, i32_400, i64_400, i32_700, i64_700, i32_999, i64_999, i32_1000, i64_1000, i32_1439, i64_1439, i32_1440, i64_1440, i32_2000, i64_2000, i32_1000000, i64_1000000, i32_1000000000, i64_1000000000, i32_100000, i64_100000, i32_n1, i64_n1, i32_n100000, i64_n100000]
theorem misTale_e (x : Int32) : f_X12_isTale x = some (bI (0 ≤ x.toInt ∧ x.toInt ≤ 5)) := by simp only [f_X12_isTale, L_iff, t64, cb1_o, bo_bI, i32_0, i64_0, i32_1, i64_1, i32_2, i64_2, i32_3, i64_3, i32_4, i64_4, i32_5, i64_5, i32_6, i64_6, i32_9, i64_9, i32_10, i64_10, i32_20, i64_20, i32_23, i64_23, i32_30, i64_30, i32_35, i64_35, i32_39, i64_39, i32_40, i64_40, i32_60, i64_60, i32_120, i64_120, i32_127, i64_127, i32_180, i64_180, i32_399, i64_399, i32_400, i64_400, i32_700, i64_700, i32_999, i64_999, i32_1000, i64_1000, i32_1439, i64_1439, i32_1440, i64_1440, i32_2000, i64_2000, i32_1000000, i64_1000000, i32_1000000000, i64_1000000000, i32_100000, i64_100000, i32_n1, i64_n1, i32_n100000, i64_n100000]
theorem misBeat_e (x : Int32) : f_X12_isBeat x = some (bI (1 ≤ x.toInt ∧ x.toInt ≤ 1000000)) := by simp only [f_X12_isBeat, L_iff, t64, cb1_o, bo_bI, i32_0, i64_0, i32_1, i64_1, i32_2, i64_2, i32_3, i64_3, i32_4, i64_4, i32_5, i64_5, i32_6, i64_6, i32_9, i64_9, i32_10, i64_10, i32_20, i64_20, i32_23, i64_23, i32_30, i64_30, i32_35, i64_35, i32_39, i64_39, i32_40, i64_40, i32_60, i64_60, i32_120, i64_120, i32_127, i64_127, i32_180, i64_180, i32_399, i64_399, i32_400, i64_400, i32_700, i64_700, i32_999, i64_999, i32_1000, i64_1000, i32_1439, i64_1439, i32_1440, i64_1440, i32_2000, i64_2000, i32_1000000, i64_1000000, i32_1000000000, i64_1000000000, i32_100000, i64_100000, i32_n1, i64_n1, i32_n100000, i64_n100000]
theorem misError_e (x : Int32) : f_X12_isError x = some (bI (0 ≤ x.toInt ∧ x.toInt ≤ 100000)) := by simp only [f_X12_isError, L_iff, t64, cb1_o, bo_bI, i32_0, i64_0, i32_1, i64_1, i32_2, i64_2, i32_3, i64_3, i32_4, i64_4, i32_5, i64_5, i32_6, i64_6, i32_9, i64_9, i32_10, i64_10, i32_20, i64_20, i32_23, i64_23, i32_30, i64_30, i32_35, i64_35, i32_39, i64_39, i32_40, i64_40, i32_60, i64_60, i32_120, i64_120, i32_127, i64_127, i32_180, i64_180, i32_399, i64_399, i32_400, i64_400, i32_700, i64_700, i32_999, i64_999, i32_1000, i64_1000, i32_1439, i64_1439, i32_1440, i64_1440, i32_2000, i64_2000, i32_1000000, i64_1000000, i32_1000000000, i64_1000000000, i32_100000, i64_100000, i32_n1, i64_n1, i32_n100000, i64_n100000]
theorem misWithin_e (x : Int32) : f_X12_isWithin x = some (bI (0 ≤ x.toInt ∧ x.toInt ≤ 700)) := by simp only [f_X12_isWithin, L_iff, t64, cb1_o, bo_bI, i32_0, i64_0, i32_1, i64_1, i32_2, i64_2, i32_3, i64_3, i32_4, i64_4, i32_5, i64_5, i32_6, i64_6, i32_9, i64_9, i32_10, i64_10, i32_20, i64_20, i32_23, i64_23, i32_30, i64_30, i32_35, i64_35, i32_39, i64_39, i32_40, i64_40, i32_60, i64_60, i32_120, i64_120, i32_127, i64_127, i32_180, i64_180, i32_399, i64_399, i32_400, i64_400, i32_700, i64_700, i32_999, i64_999, i32_1000, i64_1000, i32_1439, i64_1439, i32_1440, i64_1440, i32_2000, i64_2000, i32_1000000, i64_1000000, i32_1000000000, i64_1000000000, i32_100000, i64_100000, i32_n1, i64_n1, i32_n100000, i64_n100000]
theorem FU_s (n : Nat) (h : n ≤ 100000) : ∃ m, FU = m + n := ⟨FU - n, by have := FU_ge; omega⟩
theorem jin_o {i : Int32} {n : Nat} (h : 0 ≤ i.toInt) (h2 : i.toInt < n) : jin i n = true := jin_of h h2
theorem jin_n {k N : Nat} (h : k < N) (hN : N < 2147483648) : jin (nI k) N = true := jin_o (by rw [nI_toInt (by omega)]; omega) (by rw [nI_toInt (by omega)]; omega)
theorem nI_1440 : (1440 : Int32) = nI 1440 := rfl
def chN (m : Nat) : Nat → Nat
  | 0 => 1
  | i + 1 => chN m i * (m + (i + 1)) / (i + 1)
theorem chB : ∀ m, m < 41 → ∀ i, i < 21 → m + i ≤ 40 → 1 ≤ chN m i ∧ chN m i < 1099511627776 := by decide +kernel
theorem chS : ∀ m, m < 21 → ∀ i, i < 21 → m + i ≤ 20 → chN m i < 262144 := by decide +kernel
theorem dvL_o {β : Type} {y : Int64} {k : Option β} (h : ¬ y = 0) : dvL y k = k := if_neg h
theorem lN_ne {n : Nat} (h : 0 < n) (h2 : n < 9223372036854775808) : ¬ lN n = 0 := fun q => by
  have := (pk_lEQ (a := n) (b := 0) h2 (by decide)).mp q
  omega
theorem ch_L (n k : Nat) (hk : k ≤ n) (hn : n ≤ 40) (hk2 : k ≤ 20) : ∀ (f i : Nat), i ≤ k → k - i < f → f_X1_choices_L5 (nI n) (nI k) f (lN (chN (n - k) i)) (nI (i + 1)) = some (lN (chN (n - k) k)) := by
  intro f
  induction f with
  | zero => intro i h1 h2; exact absurd h2 (by omega)
  | succ f ih =>
    intro i h1 h2
    rw [f_X1_choices_L5]
    by_cases he : i = k
    · subst he
      rw [if_pos (nI_lt (by omega) (by omega))]
    · have hb := chB (n - k) (by omega) i (by omega) (by omega)
      rw [if_neg (nI_nlt (by omega) (by omega)), pk_sub hk, nI_add, nI_l (by omega), nI_l (by omega), dvL_o (lN_ne (by omega) (by omega)), nmL_o, nmI_o, nI_1, lN_mul]
      have hlt : chN (n - k) i * (n - k + (i + 1)) < 9223372036854775808 := by
        have h5 : chN (n - k) i * (n - k + (i + 1)) ≤ 1099511627776 * 100 := Nat.mul_le_mul (by omega) (by omega)
        omega
      rw [pk_lDiv hlt (by omega) (by omega)]
      exact ih (i + 1) (by omega) (by omega)
theorem choices_e (n k : Nat) (hk : k ≤ n) (hn : n ≤ 40) (hk2 : k ≤ 20) : f_X1_choices (nI n) (nI k) = some (lN (chN (n - k) k)) := by
  rw [f_X1_choices]
  exact ch_L n k hk hn hk2 FU 0 (by omega) (by have := FU_ge; omega)
theorem L16_e (p q : Int32) : ∀ (f : Nat) (x : Int64) (y : Int32), f_X12_choices_L16 p q f x y = f_X1_choices_L5 p q f x y := by
  intro f
  induction f with
  | zero => intro x y; rw [f_X12_choices_L16, f_X1_choices_L5]
  | succ f ih =>
    intro x y
    rw [f_X12_choices_L16, f_X1_choices_L5]
    simp only [ih]
theorem mchoices_e (n k : Nat) (hk : k ≤ n) (hn : n ≤ 40) (hk2 : k ≤ 20) : f_X12_choices (nI n) (nI k) = some (lN (chN (n - k) k)) := by
  rw [f_X12_choices, if_neg (nI_pos (by omega)), if_pos (nI_le hk (by omega)), L16_e]
  exact ch_L n k hk hn hk2 FU 0 (by omega) (by have := FU_ge; omega)
theorem draws_e (a b c n : Nat) (ha : a ≤ 20) (hb : b ≤ 20) (hca : c ≤ a) (hcb : c ≤ b) (hn : a + b ≤ n + c) (hn2 : n ≤ 40) : f_X1_drawsWith (nI a) (nI b) (nI c) (nI n) = some (lN (chN (a - c) c * chN (n - a - (b - c)) (b - c))) ∧ f_X12_waysOf (nI a) (nI b) (nI c) (nI n) = some (lN (chN (a - c) c * chN (n - a - (b - c)) (b - c))) := by
  constructor
  · rw [f_X1_drawsWith, choices_e a c hca (by omega) (by omega), cb1_o, pk_sub (show a ≤ n by omega), pk_sub hcb, choices_e (n - a) (b - c) (by omega) (by omega) (by omega), cb1_o, lN_mul]
  · rw [f_X12_waysOf, mchoices_e a c hca (by omega) (by omega), cb1_o, pk_sub (show a ≤ n by omega), pk_sub hcb, mchoices_e (n - a) (b - c) (by omega) (by omega) (by omega), cb1_o, lN_mul]
theorem lgc_0 (x : Int64) : (lg_cmp x 0 = 0) = (x = 0) := by
  by_cases h : x = 0
  · rw [h, lgc_self]
    simp
  · unfold lg_cmp
    by_cases h1 : x > 0
    · rw [if_pos h1]
      exact propext ⟨fun q => absurd q (by decide), fun q => absurd q h⟩
    · rw [if_neg h1, if_neg h]
      exact propext ⟨fun q => absurd q (by decide), fun q => absurd q h⟩
theorem gstep (x y : Nat) : Nat.gcd x y = Nat.gcd y (x % y) := by
  rw [Nat.gcd_comm x y, Nat.gcd_rec y x, Nat.gcd_comm]
theorem ghalf {y z t : Nat} (hz : 0 < z) (hzy : z < y) (hy : y < 2 ^ (t + 1)) : y % z < 2 ^ t := by
  have h1 := Nat.div_add_mod y z
  have h2 : 1 ≤ y / z := Nat.div_pos (by omega) hz
  have h3 : z * 1 ≤ z * (y / z) := Nat.mul_le_mul_left z h2
  have h4 := Nat.mod_lt y hz
  rw [Nat.pow_succ] at hy
  omega
theorem lrem_e {a b : Nat} (ha : a < 9223372036854775808) (h0 : 0 < b) (hb : b < 9223372036854775808) : jremL (lN a) (lN b) = lN (a % b) := pk_lRem ha h0 hb
theorem gcd_L : ∀ (t x y f : Nat), x < 9223372036854775808 → y < 9223372036854775808 → y < 2 ^ t → 2 * t + 1 ≤ f → f_X12_divisor_L6 f (lN x) (lN y) = some (lN (Nat.gcd x y)) := by
  intro t
  induction t with
  | zero =>
    intro x y f hx hy ht hf
    obtain ⟨g, rfl⟩ : ∃ g, f = g + 1 := ⟨f - 1, by omega⟩
    have : y = 0 := by omega
    subst this
    rw [f_X12_divisor_L6, if_pos (by rw [lgc_0]; rfl), Nat.gcd_zero_right]
  | succ t ih =>
    intro x y f hx hy ht hf
    obtain ⟨g, rfl⟩ : ∃ g, f = g + 1 + 1 := ⟨f - 2, by omega⟩
    rw [f_X12_divisor_L6]
    by_cases h0 : y = 0
    · subst h0
      rw [if_pos (by rw [lgc_0]; rfl), Nat.gcd_zero_right]
    · have hp : 0 < y := by omega
      rw [if_neg (by rw [lgc_0]; exact lN_ne hp hy), dvL_o (lN_ne hp hy), nmL_o, lrem_e hx hp hy, f_X12_divisor_L6, gstep x y]
      have hz := Nat.mod_lt x hp
      by_cases h1 : x % y = 0
      · rw [h1, if_pos (by rw [lgc_0]; rfl), Nat.gcd_zero_right]
      · have hq : 0 < x % y := by omega
        rw [if_neg (by rw [lgc_0]; exact lN_ne hq (by omega)), dvL_o (lN_ne hq (by omega)), nmL_o, lrem_e hy hq (by omega), gstep y (x % y)]
        have hw := Nat.mod_lt y hq
        exact ih _ _ _ (by omega) (by omega) (ghalf hq hz ht) (by omega)
theorem xgcd_L (K : Int64 → Option Int64) : ∀ (t x y f c : Nat), x < 9223372036854775808 → y < 9223372036854775808 → y < 2 ^ t → 2 * t + 1 ≤ f → c + 2 * t + 1 ≤ 100 → f_X1_commonDivisor_L9 K f (lN x) (lN y) (nI c) = K (lN (Nat.gcd x y)) := by
  intro t
  induction t with
  | zero =>
    intro x y f c hx hy ht hf hc
    obtain ⟨g, rfl⟩ : ∃ g, f = g + 1 := ⟨f - 1, by omega⟩
    have : y = 0 := by omega
    subst this
    rw [f_X1_commonDivisor_L9, if_neg (show ¬ (100 : Int32) ≤ nI c from nI_ge (a := c) (b := 100) (by omega) (by decide)), if_pos (by rw [lgc_0]; rfl), Nat.gcd_zero_right]
  | succ t ih =>
    intro x y f c hx hy ht hf hc
    obtain ⟨g, rfl⟩ : ∃ g, f = g + 1 + 1 := ⟨f - 2, by omega⟩
    rw [f_X1_commonDivisor_L9, if_neg (show ¬ (100 : Int32) ≤ nI c from nI_ge (a := c) (b := 100) (by omega) (by decide))]
    by_cases h0 : y = 0
    · subst h0
      rw [if_pos (by rw [lgc_0]; rfl), Nat.gcd_zero_right]
    · have hp : 0 < y := by omega
      rw [if_neg (by rw [lgc_0]; exact lN_ne hp hy), dvL_o (lN_ne hp hy), nmL_o, nmI_o, nI_1, lrem_e hx hp hy, f_X1_commonDivisor_L9, if_neg (show ¬ (100 : Int32) ≤ nI (c + 1) from nI_ge (a := c + 1) (b := 100) (by omega) (by decide)), gstep x y]
      have hz := Nat.mod_lt x hp
      by_cases h1 : x % y = 0
      · rw [h1, if_pos (by rw [lgc_0]; rfl), Nat.gcd_zero_right]
      · have hq : 0 < x % y := by omega
        rw [if_neg (by rw [lgc_0]; exact lN_ne hq (by omega)), dvL_o (lN_ne hq (by omega)), nmL_o, nmI_o, nI_1, lrem_e hy hq (by omega), gstep y (x % y)]
        have hw := Nat.mod_lt y hq
        exact ih _ _ _ _ (by omega) (by omega) (ghalf hq hz ht) (by omega) (by omega)
theorem xdiv_e {x y : Nat} (hx : x < 9223372036854775808) (hy0 : 0 < y) (hy : y < 1099511627776) : f_X1_commonDivisor (lN x) (lN y) = some (lN (Nat.gcd x y)) := by
  rw [f_X1_commonDivisor]
  refine Eq.trans (xgcd_L f_X1_commonDivisor_J44 40 x y FU 0 hx (by omega) hy (by have := FU_ge; omega) (by omega)) ?_
  have hg : 0 < Nat.gcd x y := Nat.gcd_pos_of_pos_right x hy0
  have hg2 : Nat.gcd x y ≤ y := Nat.le_of_dvd hy0 (Nat.gcd_dvd_right x y)
  rw [f_X1_commonDivisor_J44, jmaxL, if_neg]
  intro q
  have := (pk_lLT (a := Nat.gcd x y) (b := 1) (by omega) (by decide)).mp q
  omega
theorem mdiv_e {x y : Nat} (hx : x < 9223372036854775808) (hy : y < 1099511627776) : f_X12_divisor (lN x) (lN y) = some (lN (Nat.gcd x y)) := by
  rw [f_X12_divisor]
  exact gcd_L 40 x y FU hx (by omega) hy (by have := FU_ge; omega)
def lookP (a b c : Int32) : Prop := (0 ≤ a.toInt ∧ a.toInt ≤ 20) ∧ (0 ≤ b.toInt ∧ b.toInt ≤ 20) ∧ 0 ≤ c.toInt ∧ c.toInt ≤ a.toInt ∧ c.toInt ≤ b.toInt
theorem look_t {a b c : Int32} (h : lookP a b c) : f_X11_isLook a b c = some 1 ∧ f_X12_canLook a b c = some 1 := by
  obtain ⟨h1, h2, h3, h4, h5⟩ := h
  have hm : (jmin a b).toInt = if b.toInt < a.toInt then b.toInt else a.toInt := by
    unfold jmin
    by_cases q : b < a
    · rw [if_pos q, if_pos (Int32.lt_iff_toInt_lt.mp q)]
    · rw [if_neg q, if_neg (fun z => q (Int32.lt_iff_toInt_lt.mpr z))]
  have hc : 0 ≤ c.toInt ∧ c.toInt ≤ (jmin a b).toInt := by rw [hm]; split <;> omega
  have hc2 : 0 ≤ c.toInt ∧ c.toInt ≤ a.toInt := ⟨h3, h4⟩
  have hlt : ¬ b < c := by rw [Int32.lt_iff_toInt_lt]; omega
  constructor
  · simp only [f_X11_isLook, W_iff, cb1_o, bI_0, i32_0, i32_20, h1, h2, hc, and_self, not_true, if_false]
  · simp only [f_X12_canLook, L_iff, t64, cb1_o, bI_0, i64_0, i64_20, h1, h2, hc2, hlt, and_self, not_true, if_false]
theorem look_f {a b c : Int32} (h : ¬ lookP a b c) : f_X11_isLook a b c = some 0 ∧ f_X12_canLook a b c = some 0 := by
  unfold lookP at h
  have hm : (jmin a b).toInt = if b.toInt < a.toInt then b.toInt else a.toInt := by
    unfold jmin
    by_cases q : b < a
    · rw [if_pos q, if_pos (Int32.lt_iff_toInt_lt.mp q)]
    · rw [if_neg q, if_neg (fun z => q (Int32.lt_iff_toInt_lt.mpr z))]
  simp only [f_X11_isLook, f_X12_canLook, W_iff, L_iff, t64, cb1_o, bI_0, i32_0, i32_20, i64_0, i64_20, hm, Int32.lt_iff_toInt_lt]
  by_cases h1 : 0 ≤ a.toInt ∧ a.toInt ≤ 20
  · by_cases h2 : 0 ≤ b.toInt ∧ b.toInt ≤ 20
    · have h3 : ¬ (0 ≤ c.toInt ∧ c.toInt ≤ if b.toInt < a.toInt then b.toInt else a.toInt) := by split <;> omega
      simp only [h1, h2, h3, and_self, not_true, not_false_eq_true, if_false, if_true, true_and]
      by_cases h4 : 0 ≤ c.toInt ∧ c.toInt ≤ a.toInt
      · rw [if_neg (not_not_intro h4), if_pos (show b.toInt < c.toInt by omega)]
      · rw [if_pos h4]
    · simp only [h1, h2, and_self, not_true, not_false_eq_true, if_false, if_true]
  · simp only [h1, not_false_eq_true, if_true, and_self]
theorem look_n {a b c : Int32} (h : lookP a b c) : ∃ i j k : Nat, a = nI i ∧ b = nI j ∧ c = nI k ∧ i ≤ 20 ∧ j ≤ 20 ∧ k ≤ i ∧ k ≤ j := by
  obtain ⟨h1, h2, h3, h4, h5⟩ := h
  obtain ⟨i, hi, ei⟩ := nI_of (show ¬ a < 0 by rw [Int32.lt_iff_toInt_lt, i32_0]; omega)
  obtain ⟨j, hj, ej⟩ := nI_of (show ¬ b < 0 by rw [Int32.lt_iff_toInt_lt, i32_0]; omega)
  obtain ⟨k, hk, ek⟩ := nI_of (show ¬ c < 0 by rw [Int32.lt_iff_toInt_lt, i32_0]; omega)
  rw [ei, nI_toInt hi] at h1 h4
  rw [ej, nI_toInt hj] at h2 h5
  rw [ek, nI_toInt hk] at h3 h4 h5
  exact ⟨i, j, k, ei, ej, ek, by omega, by omega, by omega, by omega⟩
theorem pf_28 (y1 : Int32) (y2 : Int32) (y3 : Int32) (y4 : Int32) (y5 : Int32) : ∃ (r : Int64), f_X11_odds y1 y2 y3 y4 y5 = some (r) ∧ f_X12_odds y1 y2 y3 y4 y5 = some (r) := by
  by_cases hlk : lookP y1 y2 y3
  · obtain ⟨i, j, k, rfl, rfl, rfl, hi, hj, hki, hkj⟩ := look_n hlk
    have es : nI i + nI j - nI k = nI (i + j - k) := by rw [nI_add, pk_sub (by omega)]
    simp only [f_X11_odds, f_X12_odds, (look_t hlk).1, (look_t hlk).2, W_iff, L_iff, t64, cb1_o, bI_0, es, nI_toInt (show i + j - k < 2 ^ 31 by omega), i32_0, i32_1, i32_40, i64_0, i64_1, i64_40, show ¬ ((1 : Int32) = 0) from by decide, if_false]
    by_cases h1 : ((i + j - k : Nat) : Int) ≤ y4.toInt ∧ y4.toInt ≤ 40
    · obtain ⟨n, hn, rfl⟩ := nI_of (show ¬ y4 < 0 by rw [Int32.lt_iff_toInt_lt, i32_0]; omega)
      rw [nI_toInt hn] at h1
      have hb := chB (n - j) (by omega) j (by omega) (by omega)
      have hs := chS (i - k) (by omega) k (by omega) (by omega)
      have ht := chB (n - i - (j - k)) (by omega) (j - k) (by omega) (by omega)
      have hx : chN (i - k) k * chN (n - i - (j - k)) (j - k) < 9223372036854775808 := by
        have := Nat.mul_le_mul (Nat.le_of_lt hs) (Nat.le_of_lt ht.2)
        omega
      have hd := draws_e i j k n hi hj hki hkj (by omega) (by omega)
      have hg : 0 < Nat.gcd (chN (i - k) k * chN (n - i - (j - k)) (j - k)) (chN (n - j) j) := Nat.gcd_pos_of_pos_right _ (by omega)
      have hg2 := Nat.le_of_dvd (by omega) (Nat.gcd_dvd_right (chN (i - k) k * chN (n - i - (j - k)) (j - k)) (chN (n - j) j))
      have hne := lN_ne hg (by omega)
      simp only [nI_toInt hn, h1, and_self, not_true, if_false, hd.1, hd.2, cb1_o, choices_e n j (by omega) (by omega) (by omega), mchoices_e n j (by omega) (by omega) (by omega), xdiv_e hx (show 0 < chN (n - j) j by omega) hb.2, mdiv_e hx hb.2, dvL_o hne]
      by_cases h2 : 0 ≤ y5.toInt ∧ y5.toInt ≤ 1 <;> by_cases h3 : y5 = 0 <;> simp only [h2, h3, and_self, not_true, not_false_eq_true, if_false, if_true] <;> exact (by first | exact ⟨_, rfl, rfl⟩ | exact ⟨_, rfl⟩)
    · simp only [h1, not_false_eq_true, if_true]; exact (by first | exact ⟨_, rfl, rfl⟩ | exact ⟨_, rfl⟩)
  · simp only [f_X11_odds, f_X12_odds, (look_f hlk).1, (look_f hlk).2, cb1_o, if_true]; exact (by first | exact ⟨_, rfl, rfl⟩ | exact ⟨_, rfl⟩)
theorem more_T (a b c n : Int32) (w : Int32) (hw : ¬ w = 1) (i j k : Nat) (ea : a = nI i) (eb : b = nI j) (ec : c = nI k) (hi : i ≤ 20) (hj : j ≤ 20) (hki : k ≤ i) (hkj : k ≤ j) (v : Nat) (hv : v < 100) : ∀ (f q : Nat), i + j ≤ q + k → q ≤ 41 → 41 - q < f → f_X12_more_L46 a b c n w f (nI v) (nI q) = some (nI v) := by
  intro f
  induction f with
  | zero => intro q h1 h2 h3; exact absurd h3 (by omega)
  | succ f ih =>
    intro q h1 h2 h3
    rw [f_X12_more_L46]
    by_cases he : q = 41
    · subst he; rw [if_pos (by decide)]
    · rw [if_neg (show ¬ (40 : Int32) < nI q from nI_nlt (a := 40) (b := q) (by omega) (by omega)), ea, eb, ec, (draws_e i j k q hi hj hki hkj (by omega) (by omega)).2, cb1_o, mchoices_e q j (by omega) (by omega) (by omega), cb1_o, ← ea, ← eb, ← ec, nmI_o, nmI_o, nI_1, if_neg hw, if_pos (nI_pos' (by omega))]
      rw [ih (q + 1) (by omega) (by omega) (by omega)]
      simp only [ite_self]
theorem more_0 (a b c n : Int32) (i j k : Nat) (ea : a = nI i) (eb : b = nI j) (ec : c = nI k) (hi : i ≤ 20) (hj : j ≤ 20) (hki : k ≤ i) (hkj : k ≤ j) : ∀ (f q : Nat), i + j ≤ q + k → q ≤ 41 → 41 - q < f → ∃ r, f_X11_more_L44 a b c n 0 f (-2) (nI q) = some r ∧ f_X12_more_L46 a b c n 0 f (-2) (nI q) = some r := by
  intro f
  induction f with
  | zero => intro q h1 h2 h3; exact absurd h3 (by omega)
  | succ f ih =>
    intro q h1 h2 h3
    rw [f_X12_more_L46, f_X11_more_L44]
    by_cases he : q = 41
    · subst he; rw [if_pos (by decide), if_pos (by decide)]; exact ⟨_, rfl, rfl⟩
    · have hc : ¬ (40 : Int32) < nI q := nI_nlt (a := 40) (b := q) (by omega) (by omega)
      have hd := draws_e i j k q hi hj hki hkj (by omega) (by omega)
      rw [if_neg hc, if_neg hc, ea, eb, ec, hd.1, hd.2, cb1_o, cb1_o, mchoices_e q j (by omega) (by omega) (by omega), choices_e q j (by omega) (by omega) (by omega), cb1_o, cb1_o, ← ea, ← eb, ← ec, Int64.mul_comm (Int32.toInt64 n)]
      simp only [nmI_o, nI_1]
      by_cases ht : lg_cmp (lN (chN (i - k) k * chN (q - i - (j - k)) (j - k)) * 1000) (lN (chN (q - j) j) * Int32.toInt64 n) < 0
      · rw [if_pos ht, if_pos ht]
        exact ih (q + 1) (by omega) (by omega) (by omega)
      · rw [if_neg ht, if_neg ht, if_pos trivial, if_neg (by decide), if_neg (by decide)]
        exact ⟨nI q, rfl, more_T a b c n 0 (by decide) i j k ea eb ec hi hj hki hkj q (by omega) f (q + 1) (by omega) (by omega) (by omega)⟩
theorem more_1 (a b c n : Int32) (i j k : Nat) (ea : a = nI i) (eb : b = nI j) (ec : c = nI k) (hi : i ≤ 20) (hj : j ≤ 20) (hki : k ≤ i) (hkj : k ≤ j) : ∀ (f q : Nat) (x : Int32), i + j ≤ q + k → q ≤ 41 → 41 - q < f → ∃ r, f_X11_more_L44 a b c n 1 f x (nI q) = some r ∧ f_X12_more_L46 a b c n 1 f x (nI q) = some r := by
  intro f
  induction f with
  | zero => intro q x h1 h2 h3; exact absurd h3 (by omega)
  | succ f ih =>
    intro q x h1 h2 h3
    rw [f_X12_more_L46, f_X11_more_L44]
    by_cases he : q = 41
    · subst he; rw [if_pos (by decide), if_pos (by decide)]; exact ⟨_, rfl, rfl⟩
    · have hc : ¬ (40 : Int32) < nI q := nI_nlt (a := 40) (b := q) (by omega) (by omega)
      have hd := draws_e i j k q hi hj hki hkj (by omega) (by omega)
      rw [if_neg hc, if_neg hc, ea, eb, ec, hd.1, hd.2, cb1_o, cb1_o, mchoices_e q j (by omega) (by omega) (by omega), choices_e q j (by omega) (by omega) (by omega), cb1_o, cb1_o, ← ea, ← eb, ← ec, Int64.mul_comm (Int32.toInt64 n)]
      simp only [nmI_o, nI_1]
      by_cases ht : lg_cmp (lN (chN (i - k) k * chN (q - i - (j - k)) (j - k)) * 1000) (lN (chN (q - j) j) * Int32.toInt64 n) < 0
      · rw [if_pos ht, if_pos ht]
        exact ih (q + 1) _ (by omega) (by omega) (by omega)
      · rw [if_neg ht, if_neg ht, if_neg (by decide), if_pos trivial]
        exact ih (q + 1) _ (by omega) (by omega) (by omega)
theorem pf_29 (y1 : Int32) (y2 : Int32) (y3 : Int32) (y4 : Int32) (y5 : Int32) : ∃ (r : Int32), f_X11_more y1 y2 y3 y4 y5 = some (r) ∧ f_X12_more y1 y2 y3 y4 y5 = some (r) := by
  by_cases hlk : lookP y1 y2 y3
  · obtain ⟨i, j, k, ea, eb, ec, hi, hj, hki, hkj⟩ := look_n hlk
    have es : y1 + y2 - y3 = nI (i + j - k) := by rw [ea, eb, ec, nI_add, pk_sub (by omega)]
    obtain ⟨r0, a1, a2⟩ := more_0 y1 y2 y3 y4 i j k ea eb ec hi hj hki hkj FU (i + j - k) (by omega) (by omega) (by have := FU_ge; omega)
    obtain ⟨r1, b1, b2⟩ := more_1 y1 y2 y3 y4 i j k ea eb ec hi hj hki hkj FU (i + j - k) (-2) (by omega) (by omega) (by have := FU_ge; omega)
    simp only [f_X11_more, f_X12_more, (look_t hlk).1, (look_t hlk).2, W_iff, L_iff, t64, cb1_o, bI_0, es, nmI_o, i32_0, i32_1, i32_1000, i64_0, i64_1, i64_1000, show ¬ ((1 : Int32) = 0) from by decide, if_false]
    by_cases h1 : 1 ≤ y4.toInt ∧ y4.toInt ≤ 1000
    · by_cases h2 : 0 ≤ y5.toInt ∧ y5.toInt ≤ 1
      · simp only [h1, h2, and_self, not_true, if_false]
        rcases (show y5.toInt = 0 ∨ y5.toInt = 1 by omega) with q | q
        · have e5 : y5 = 0 := Int32.toInt_inj.mp (q.trans (by decide))
          subst e5
          exact ⟨r0, a1, a2⟩
        · have e5 : y5 = 1 := Int32.toInt_inj.mp (q.trans (by decide))
          subst e5
          exact ⟨r1, b1, b2⟩
      · simp only [h1, h2, and_self, not_true, not_false_eq_true, if_false, if_true]; exact (by first | exact ⟨_, rfl, rfl⟩ | exact ⟨_, rfl⟩)
    · simp only [h1, not_false_eq_true, if_true]; exact (by first | exact ⟨_, rfl, rfl⟩ | exact ⟨_, rfl⟩)
  · simp only [f_X11_more, f_X12_more, (look_f hlk).1, (look_f hlk).2, cb1_o, if_true]; exact (by first | exact ⟨_, rfl, rfl⟩ | exact ⟨_, rfl⟩)
