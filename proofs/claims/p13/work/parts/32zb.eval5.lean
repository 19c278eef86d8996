/-! the letters of a height -/
theorem i64_n {n : Nat} (h : n < 2147483648) : Int32.toInt64 (nI n) = lN n := by
  apply Int64.toInt_inj.mp
  rw [t64, nI_toInt (by omega)]
  unfold lN
  exact (Int64.toInt_ofNat_of_lt (by omega)).symm
theorem luck_e {sd p d m : Int32} (h1 : 0 ≤ sd.toInt ∧ sd.toInt ≤ 999) (h2 : 0 ≤ p.toInt ∧ p.toInt ≤ 9) (h3 : 0 ≤ d.toInt ∧ d.toInt ≤ 399) (h4 : 0 ≤ m.toInt ∧ m.toInt ≤ 1439) : f_X12_luckOf sd p d m = f_X7_luck sd p d m := by
  rw [f_X12_luckOf, f_X7_luck, nmI_o]
  have e1 : ∀ x : Int32, 0 ≤ x.toInt → x = nI x.toNatClampNeg := fun x h => i32_eq (by have := tN x h; have g := rgI x; rw [nI_toInt (by omega)]; omega)
  rw [e1 sd h1.1, e1 p h2.1, e1 d h3.1, e1 m h4.1]
  have t1 := tN sd h1.1
  have t2 := tN p h2.1
  have t3 := tN d h3.1
  have t4 := tN m h4.1
  generalize sd.toNatClampNeg = a at *
  generalize p.toNatClampNeg = b at *
  generalize d.toNatClampNeg = c at *
  generalize m.toNatClampNeg = e at *
  rw [show (1009 : Int32) = nI 1009 from rfl, show (9176 : Int32) = nI 9176 from rfl, show (31 : Int32) = nI 31 from rfl, pk_mul, pk_mul, pk_mul, nI_add, nI_add, nI_add]
  have hn : a + 1009 * c + 9176 * e + 31 * b < 16777216 := by omega
  generalize a + 1009 * c + 9176 * e + 31 * b = n at *
  have hL : ((nI n * 25173) + 13849) &&& 65535 = nI ((25173 * n + 13849) % 65536) := by
    rw [show (25173 : Int32) = nI 25173 from rfl, show (13849 : Int32) = nI 13849 from rfl, pk_mul, nI_add, pk_and _ 16 (by decide)]
    have e2 : (nI (n * 25173 + 13849)).toBitVec.toNat = (n * 25173 + 13849) % 2 ^ 32 := rfl
    rw [e2]
    exact congrArg nI (by omega)
  have hR : Int64.toInt32 (jremL ((25173 * (Int32.toInt64 (nI n))) + 13849) 65536) = nI ((25173 * n + 13849) % 65536) := by
    rw [i64_n (by omega), show (25173 : Int64) * lN n + 13849 = lN (25173 * n + 13849) by unfold lN; rw [Int64.ofNat_add, Int64.ofNat_mul]; rfl, show (65536 : Int64) = lN 65536 from rfl, lrem_e (by omega) (by omega) (by omega)]
    unfold lN
    first
      | exact Int64.toInt32_ofNat' _
      | exact i32_eq (by rw [Int64.toInt_toInt32, Int64.toInt_ofNat_of_lt (by omega), Int.bmod_eq_of_le (by omega) (by omega), nI_toInt (by omega)])
  rw [hL, hR]
theorem far_e {a b : Int32} (h1 : 0 ≤ a.toInt ∧ a.toInt ≤ 1439) (h2 : 0 ≤ b.toInt ∧ b.toInt ≤ 1439) : f_X12_farOf a b = f_X11_minutesApart a b := by
  have l0 : (0 : Int32).toInt = 0 := by decide
  have l1 : (1440 : Int32).toInt = 1440 := by decide
  have s1 := sbX a b (by omega) (by omega)
  have s2 := sbX b a (by omega) (by omega)
  have s3 := sbX 0 (a - b) (by omega) (by omega)
  have key : ∀ v : Int32, 0 ≤ v.toInt → v.toInt ≤ 1439 → f_X12_farOf_J14 v = some (jmin v (1440 - v)) := by
    intro v h3 h4
    have s4 := sbX 1440 v (by omega) (by omega)
    rw [f_X12_farOf_J14]
    unfold jmin
    by_cases c : 1440 - v ≤ v
    · rw [if_pos c]
      have c' := leI c
      by_cases d : 1440 - v < v
      · rw [if_pos d]
      · rw [if_neg d]
        have d' := nltI d
        exact congrArg some (i32_eq (by omega))
    · rw [if_neg c]
      have c' := nleI c
      rw [if_neg (fun d => by have := ltI d; omega)]
  rw [f_X12_farOf, f_X11_minutesApart, nmI_o]
  unfold jabs
  by_cases c : b ≤ a
  · have c' := leI c
    rw [if_pos c, if_pos (show (0 : Int32) ≤ a - b from Int32.le_iff_toInt_le.mpr (by omega)), key _ (by omega) (by omega)]
  · have c' := nleI c
    rw [if_neg c, if_neg (fun w => by have := leI w; omega), key _ (by omega) (by omega)]
    rw [show b - a = 0 - (a - b) from i32_eq (by omega)]
def qv (a b d f g h l m n s t u x : Int32) : Nat → Int32 := fun i => [a, b, d, f, g, h, l, m, n, s, t, u, x].getD i 0
theorem vO_all (q : Nat → Int32) : vO q 97 = q 0 ∧ vO q 98 = q 1 ∧ vO q 100 = q 2 ∧ vO q 102 = q 3 ∧ vO q 103 = q 4 ∧ vO q 104 = q 5 ∧ vO q 108 = q 6 ∧ vO q 109 = q 7 ∧ vO q 110 = q 8 ∧ vO q 115 = q 9 ∧ vO q 116 = q 10 ∧ vO q 117 = q 11 ∧ vO q 120 = q 12 := by
  refine ⟨?_, ?_, ?_, ?_, ?_, ?_, ?_, ?_, ?_, ?_, ?_, ?_, ?_⟩ <;> (unfold vO f_X12_valueOf; simp (config := { decide := true }) only [if_true, if_false, Option.getD_some, ite_true, ite_false])
theorem V_all {V : Int32 → Int32} {q : Nat → Int32} (h : V 97 = q 0 ∧ V 98 = q 1 ∧ V 100 = q 2 ∧ V 102 = q 3 ∧ V 103 = q 4 ∧ V 104 = q 5 ∧ V 108 = q 6 ∧ V 109 = q 7 ∧ V 110 = q 8 ∧ V 115 = q 9 ∧ V 116 = q 10 ∧ V 117 = q 11 ∧ V 120 = q 12) : ∀ c, valB c = true → vO q c = V c := by
  intro c hc
  obtain ⟨a1, a2, a3, a4, a5, a6, a7, a8, a9, a10, a11, a12, a13⟩ := vO_all q
  obtain ⟨b1, b2, b3, b4, b5, b6, b7, b8, b9, b10, b11, b12, b13⟩ := h
  unfold valB at hc
  simp only [Bool.or_eq_true, beq_iff_eq] at hc
  rcases hc with ((((((((((((h | h) | h) | h) | h) | h) | h) | h) | h) | h) | h) | h) | h) <;> subst h <;> first | exact a1.trans b1.symm | exact a2.trans b2.symm | exact a3.trans b3.symm | exact a4.trans b4.symm | exact a5.trans b5.symm | exact a6.trans b6.symm | exact a7.trans b7.symm | exact a8.trans b8.symm | exact a9.trans b9.symm | exact a10.trans b10.symm | exact a11.trans b11.symm | exact a12.trans b12.symm | exact a13.trans b13.symm
/-- letters of the sky's reckoner that are never set -/
def LtS (L : Nat → Int32) : Prop := L 98 = 0 ∧ L 103 = 0 ∧ L 104 = 0 ∧ L 108 = 0 ∧ L 110 = 0 ∧ L 116 = 0
theorem LtS_upd {L : Nat → Int32} {i : Nat} {x : Int32} (h : LtS L) (hi : ¬ (i = 98 ∨ i = 103 ∨ i = 104 ∨ i = 108 ∨ i = 110 ∨ i = 116)) : LtS (upd L i x) := by
  obtain ⟨h1, h2, h3, h4, h5, h6⟩ := h
  refine ⟨?_, ?_, ?_, ?_, ?_, ?_⟩ <;> (rw [upd_n (by omega)]; assumption)
