/-! check, on both sides -/
theorem tb_shl {x s : Int32} {n : Nat} (hn : ((s &&& 31).toBitVec.smod 32).toNat = n) {i : Nat} (hi : i < 32) : tb (jshl x s) i = (!decide (i < n) && tb x (i - n)) := by
  unfold tb jshl
  rw [Int32.toBitVec_shiftLeft]
  show (x.toBitVec <<< ((s &&& 31).toBitVec.smod 32).toNat).getLsbD i = _
  rw [hn, BitVec.getLsbD_shiftLeft, decide_eq_true hi, Bool.true_and]
theorem word_s (v0 v1 v2 v3 : Int32) : (jshl ((jshl ((jshl ((jshl 0 8) ||| v0) 8) ||| v1) 8) ||| v2) 8) ||| v3 = ((jshl v0 24 ||| jshl v1 16) ||| jshl v2 8) ||| v3 := by
  have a8 : (((8 : Int32) &&& 31).toBitVec.smod 32).toNat = 8 := by decide +kernel
  have a16 : (((16 : Int32) &&& 31).toBitVec.smod 32).toNat = 16 := by decide +kernel
  have a24 : (((24 : Int32) &&& 31).toBitVec.smod 32).toNat = 24 := by decide +kernel
  refine tb_ext (fun i hi => ?_)
  rw [tb_or_, tb_or_, tb_or_, tb_or_, tb_shl a24 hi, tb_shl a16 hi, tb_shl a8 hi, tb_shl a8 hi, tb_or_]
  congr 1
  by_cases c8 : i < 8
  · rw [decide_eq_true c8, decide_eq_true (show i < 16 by omega), decide_eq_true (show i < 24 by omega)]; rfl
  rw [decide_eq_false c8, tb_shl a8 (show i - 8 < 32 by omega), tb_or_]
  by_cases c16 : i < 16
  · rw [decide_eq_true (show i - 8 < 8 by omega), decide_eq_true c16, decide_eq_true (show i < 24 by omega)]
    cases tb v2 (i - 8) <;> rfl
  rw [decide_eq_false (show ¬ i - 8 < 8 by omega), decide_eq_false c16, tb_shl a8 (show i - 8 - 8 < 32 by omega), tb_or_, show i - 8 - 8 = i - 16 by omega]
  by_cases c24 : i < 24
  · rw [decide_eq_true (show i - 16 < 8 by omega), decide_eq_true c24]
    cases tb v2 (i - 8) <;> cases tb v1 (i - 16) <;> rfl
  rw [decide_eq_false (show ¬ i - 16 < 8 by omega), decide_eq_false c24, tb_shl a8 (show i - 16 - 8 < 32 by omega), tb_zero, show i - 16 - 8 = i - 24 by omega, Bool.and_false, Bool.false_or]
  cases tb v2 (i - 8) <;> cases tb v1 (i - 16) <;> cases tb v0 (i - 24) <;> rfl
theorem word_e {tl : Int32} {b t : Nat → Int32} {w : Nat} (hb : TBy b t) (h1 : (4 * w + 3 : Int) < tl.toInt) (h2 : tl.toInt ≤ 200) : ∃ W : Int32, f_X9_wordAt tl b (nI w) = some W ∧ f_X12_numberAt t (nI w) = some W := by
  have e4 : (4 : Int32) * nI w = nI (4 * w) := by rw [show (4 : Int32) = nI 4 from rfl, pk_mul]
  have ei : ∀ i : Nat, nI (4 * w) + nI i = nI (4 * w + i) := fun i => nI_add _ _
  have j : ∀ i : Nat, i < 4 → jin (nI (4 * w + i)) 200 = true := fun i hi => jin_n (by omega) (by omega)
  have c : ∀ i : Nat, i < 4 → (nI (4 * w + i)).toNatClampNeg = 4 * w + i := fun i hi => nI_clamp (by omega)
  refine ⟨((jshl (b (4 * w)) 24 ||| jshl (b (4 * w + 1)) 16) ||| jshl (b (4 * w + 2)) 8) ||| b (4 * w + 3), ?_, ?_⟩
  · rw [f_X9_wordAt, nmI_o, e4, if_neg (nI_pos (by omega)), show (3 : Int32) = nI 3 from rfl, show (1 : Int32) = nI 1 from rfl, show (2 : Int32) = nI 2 from rfl, ei, ei, ei, if_pos (Int32.lt_iff_toInt_lt.mpr (by rw [nI_toInt (by omega)]; omega)), rdI_o (jin_n (by omega) (by omega)), rdI_o (j 1 (by omega)), rdI_o (j 2 (by omega)), rdI_o (j 3 (by omega)), nI_clamp (by omega), c 1 (by omega), c 2 (by omega), c 3 (by omega)]
  · obtain ⟨f, hf⟩ : ∃ f, FU = f + 1 + 1 + 1 + 1 + 1 := ⟨FU - 5, by have := FU_ge; omega⟩
    have x0 : (4 * nI w : Int32) + 0 = nI (4 * w) := by rw [e4, show (0 : Int32) = nI 0 from nI_0.symm, nI_add, Nat.add_zero]
    have x1 : (4 * nI w : Int32) + 1 = nI (4 * w + 1) := by rw [e4, nI_1]
    have x2 : (4 * nI w : Int32) + 2 = nI (4 * w + 2) := by rw [e4, show (2 : Int32) = nI 2 from rfl, nI_add]
    have x3 : (4 * nI w : Int32) + 3 = nI (4 * w + 3) := by rw [e4, show (3 : Int32) = nI 3 from rfl, nI_add]
    rw [← word_s, f_X12_numberAt, hf, f_X12_numberAt_L4, if_neg (by decide), x0, rdI_o (jin_n (by omega) (by omega)), nmI_o, nmI_o, show (0 : Int32) + 1 = 1 by decide, f_X12_numberAt_L4, if_neg (by decide), x1, rdI_o (j 1 (by omega)), nmI_o, nmI_o, show (1 : Int32) + 1 = 2 by decide, f_X12_numberAt_L4, if_neg (by decide), x2, rdI_o (j 2 (by omega)), nmI_o, nmI_o, show (2 : Int32) + 1 = 3 by decide, f_X12_numberAt_L4, if_neg (by decide), x3, rdI_o (j 3 (by omega)), nmI_o, nmI_o, show (3 : Int32) + 1 = 4 by decide, f_X12_numberAt_L4, if_pos (by decide), nI_clamp (by omega), c 1 (by omega), c 2 (by omega), c 3 (by omega), hb (4 * w), hb (4 * w + 1), hb (4 * w + 2), hb (4 * w + 3)]
