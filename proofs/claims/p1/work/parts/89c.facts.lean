theorem updZ (k : Nat) : upd (fun _ => 0) k 0 = fun _ => 0 := by
  funext j
  unfold upd
  split <;> rfl
theorem jin_n {k N : Nat} (h : k < N) (hN : N < 2147483648) : jin (nI k) N = true := jin_o (by rw [nI_toInt (by omega)]; omega) (by rw [nI_toInt (by omega)]; omega)
theorem nI_1440 : (1440 : Int32) = nI 1440 := rfl
theorem fill_L (v : Int32) : ∀ (n k : Nat) (f : Nat → Int32), k ≤ 1440 → 1440 - k < n → ∃ g, f_J7_fill_53178_L5 1440 v (nI 1440) n (nI k) f = some g ∧ (∀ j, j < k → g j = f j) ∧ (∀ j, k ≤ j → j < 1440 → g j = v) ∧ (∀ j, 1440 ≤ j → g j = f j) := by
  intro n
  induction n with
  | zero => intro k f h1 h2; exact absurd h2 (by omega)
  | succ n ih =>
    intro k f h1 h2
    rw [f_J7_fill_53178_L5]
    by_cases hk : k = 1440
    · subst hk
      rw [if_pos (nI_le (Nat.le_refl _) (by decide))]
      exact ⟨f, rfl, fun _ _ => rfl, fun j a b => absurd b (by omega), fun _ _ => rfl⟩
    · rw [if_neg (nI_ge (by omega) (by decide)), wrI_o (jin_n (by omega) (by decide)), nmI_o, nI_1, nI_clamp (by omega)]
      obtain ⟨g, e, g1, g2, g3⟩ := ih (k + 1) (upd f k v) (by omega) (by omega)
      refine ⟨g, e, fun j hj => ?_, fun j a b => ?_, fun j hj => ?_⟩
      · rw [g1 j (by omega)]; unfold upd; rw [if_neg (by omega)]
      · by_cases q : j = k
        · rw [g1 j (by omega)]; unfold upd; rw [if_pos q]
        · exact g2 j (by omega) b
      · rw [g3 j hj]; unfold upd; rw [if_neg (by omega)]
theorem fill_e (f : Nat → Int32) (v : Int32) : ∃ g, f_J7_fill_53178 1440 f v = some g ∧ (∀ j, j < 1440 → g j = v) ∧ (∀ j, 1440 ≤ j → g j = f j) := by
  obtain ⟨g, e, -, g2, g3⟩ := fill_L v FU 0 f (by decide) (by unfold FU; omega)
  refine ⟨g, ?_, fun j h => g2 j (Nat.zero_le _) h, g3⟩
  rw [f_J7_fill_53178, nmI_o]
  exact e
theorem fillZ : f_J7_fill_53178 1440 (fun _ => 0) 0 = some (fun _ => 0) := by
  obtain ⟨g, e, g2, g3⟩ := fill_e (fun _ => 0) 0
  have hg : g = fun _ => 0 := funext fun j => by
    rcases Nat.lt_or_ge j 1440 with h | h
    · exact g2 j h
    · exact g3 j h
  rw [e, hg]
theorem lay_e (rd day d : Int32) (sh : Nat → Int32) (h : ¬ day = d) : ∃ g : Nat → Int32, f_X7_lay 0 rd day (fun _ => 0) (fun _ => 0) sh (fun _ => none) d = some (0, d, (fun _ => 0), (fun _ => 0), g) ∧ ∀ j, j < 1440 → g j = 4 := by
  obtain ⟨g, e, g2, -⟩ := fill_e sh 4
  obtain ⟨m, hm⟩ := FU_s 1 (by decide)
  refine ⟨g, ?_, g2⟩
  rw [f_X7_lay, if_neg h, f_X4_clear, fillZ, cb1_o, cb1_o, e, cb1_o, cb5_o, hm, f_X7_lay_L16, if_pos (by decide)]
theorem shr0 (k : Int32) : jshr 0 k = 0 := by
  unfold jshr
  simp
theorem isMarked_e (k x : Int32) : f_X4_isMarked (fun _ => 0) k x = some 0 := by
  simp only [f_X4_isMarked, isMinute_e, cb1_o, bI_0]
  by_cases h : 0 ≤ x.toInt ∧ x.toInt ≤ 1439
  · rw [if_neg (not_not_intro h), rdI_o (jin_o h.1 (by omega)), shr0, if_neg (by decide)]
  · rw [if_pos h]
theorem beginsMark_e (k x : Int32) : f_X4_beginsMark (fun _ => 0) k x = some 0 := by
  rw [f_X4_beginsMark, isMarked_e, cb1_o, if_pos rfl]
theorem beginsPassed_e (a b x : Int32) : f_X4_beginsPassed (fun _ => 0) a b x = some 0 := by
  rw [f_X4_beginsPassed, beginsMark_e, cb1_o, if_pos rfl]
theorem a00 : (0 : Int32) + 0 = 0 := by decide
theorem marksOf_L (k : Int32) : ∀ (n j : Nat), j ≤ 1440 → 1440 - j < n → f_X4_marksOf_L4 (fun _ => 0) k n 0 (nI j) = some 0 := by
  intro n
  induction n with
  | zero => intro j h1 h2; exact absurd h2 (by omega)
  | succ n ih =>
    intro j h1 h2
    rw [f_X4_marksOf_L4, nI_1440]
    by_cases hk : j = 1440
    · subst hk; rw [if_pos (nI_le (Nat.le_refl _) (by decide))]
    · rw [if_neg (nI_ge (by omega) (by decide)), beginsMark_e, cb1_o, if_pos rfl, nmI_o, nmI_o, a00, nI_1]
      exact ih (j + 1) (by omega) (by omega)
theorem marksOf_e (k : Int32) : f_X4_marksOf (fun _ => 0) k = some 0 := marksOf_L k FU 0 (by decide) (by unfold FU; omega)
theorem markNumber_L (k x3 : Int32) (K : Int32 → Option Int32) : ∀ (n j : Nat), j ≤ 1440 → 1440 - j < n → f_X4_markNumber_L7 (fun _ => 0) k K n x3 (nI j) = some (-1) := by
  intro n
  induction n with
  | zero => intro j h1 h2; exact absurd h2 (by omega)
  | succ n ih =>
    intro j h1 h2
    rw [f_X4_markNumber_L7, nI_1440]
    by_cases hk : j = 1440
    · subst hk; rw [if_pos (nI_le (Nat.le_refl _) (by decide))]
    · rw [if_neg (nI_ge (by omega) (by decide)), beginsMark_e, cb1_o, if_pos rfl, nmI_o, nI_1]
      exact ih (j + 1) (by omega) (by omega)
theorem markNumber_e (k q : Int32) : f_X4_markNumber (fun _ => 0) k q = some (-1) := by
  rw [f_X4_markNumber, nmI_o]
  exact markNumber_L _ _ _ FU 0 (by decide) (by unfold FU; omega)
theorem passedMarks_L (a b : Int32) : ∀ (n j : Nat), j ≤ 1440 → 1440 - j < n → f_X4_passedMarks_L5 (fun _ => 0) a b n 0 (nI j) = some 0 := by
  intro n
  induction n with
  | zero => intro j h1 h2; exact absurd h2 (by omega)
  | succ n ih =>
    intro j h1 h2
    rw [f_X4_passedMarks_L5, nI_1440]
    by_cases hk : j = 1440
    · subst hk; rw [if_pos (nI_le (Nat.le_refl _) (by decide))]
    · rw [if_neg (nI_ge (by omega) (by decide)), beginsPassed_e, cb1_o, if_pos rfl, nmI_o, nmI_o, a00, nI_1]
      exact ih (j + 1) (by omega) (by omega)
theorem passedMarks_e (a b : Int32) : f_X4_passedMarks (fun _ => 0) a b = some 0 := passedMarks_L a b FU 0 (by decide) (by unfold FU; omega)
theorem firstWrong_L (k p : Int32) (K : Option Int32) : ∀ (n j : Nat), j ≤ 1440 → 1440 - j < n → f_X4_firstWrong_L6 (fun _ => 0) k p K n (nI j) = K := by
  intro n
  induction n with
  | zero => intro j h1 h2; exact absurd h2 (by omega)
  | succ n ih =>
    intro j h1 h2
    rw [f_X4_firstWrong_L6, nI_1440]
    by_cases hk : j = 1440
    · subst hk; rw [if_pos (nI_le (Nat.le_refl _) (by decide))]
    · rw [if_neg (nI_ge (by omega) (by decide)), beginsMark_e, cb1_o, if_pos rfl, nmI_o, nI_1]
      exact ih (j + 1) (by omega) (by omega)
theorem firstWrong_e (k : Int32) : f_X4_firstWrong (fun _ => 0) k 0 = some (-1) := by
  rw [f_X4_firstWrong]
  refine Eq.trans (firstWrong_L k 0 _ FU 0 (by decide) (by unfold FU; omega)) ?_
  rw [f_X4_firstWrong_J80, if_pos (by decide)]
theorem gBefore_e {j : Nat} (hj : j < 1440) : f_X4_greatestBefore (fun _ => 0) (nI j) 0 = some 0 := by
  rw [f_X4_greatestBefore]
  by_cases h : j = 0
  · subst h
    rw [if_pos (by decide), f_X4_greatestBefore_J25, nmI_o, if_pos (by decide), f_X4_greatestBefore_J51, if_neg (by decide)]
  · obtain ⟨i, rfl⟩ : ∃ i, j = i + 1 := ⟨j - 1, by omega⟩
    rw [if_neg (nI_nle (by omega) (by omega)), nI_pred, rdI_o (jin_n (by omega) (by decide)), if_neg (by decide), rdI_o (jin_n (by omega) (by decide))]
theorem rdJ (d k v3 r79 : Int32) (sh g : Nat → Int32) {j : Nat} (hj : j < 1440) (K : Int32 → Int32 → (Nat → Int32) → (Nat → Int32) → Option (Int32 × (Nat → Int32) × (Nat → Int32))) : ∃ le2, f_X4_read_J125 d sh k v3 (nI j) (fun _ => 0) r79 g K 0 = K r79 (nI (j + 1)) (fun _ => 0) le2 := by
  rw [f_X4_read_J125, wrI_o (by decide), rdI_o (jin_n hj (by decide)), wrI_o (by decide), wrI_o (by decide), f_X11_starMinute, cb1_o, wrI_o (by decide), isMarked_e, cb1_o, if_pos rfl, f_X4_read_J192, rdI_o (jin_n hj (by decide)), nmI_o, wrI_o (jin_n hj (by decide)), nmI_o, nI_1, Int32.zero_and, updZ]
  exact ⟨_, rfl⟩
theorem read_L (d k v3 v21 : Int32) (sh : Nat → Int32) : ∀ (n j : Nat) (le : Nat → Int32), j ≤ 1440 → 1440 - j < n → ∃ le2, f_X4_read_L66 d (fun _ => 0) sh k v3 v21 n 0 (nI j) (fun _ => 0) le = some (v21, (fun _ => 0), le2) := by
  intro n
  induction n with
  | zero => intro j le h1 h2; exact absurd h2 (by omega)
  | succ n ih =>
    intro j le h1 h2
    rw [f_X4_read_L66, nI_1440]
    by_cases hk : j = 1440
    · subst hk; rw [if_pos (nI_le (Nat.le_refl _) (by decide))]; exact ⟨_, rfl⟩
    · have hj : j < 1440 := by omega
      rw [if_neg (nI_ge hj (by decide)), gBefore_e hj, cb1_o, wrI_o (by decide), rdI_o (jin_n hj (by decide)), wrI_o (by decide)]
      by_cases h0 : nI j ≤ 0
      · rw [if_pos h0]
        obtain ⟨le2, e⟩ := rdJ d k v3 0 sh _ hj (f_X4_read_L66 d (fun _ => 0) sh k v3 v21 n)
        rw [e]
        exact ih (j + 1) le2 (by omega) (by omega)
      · have hj0 : 0 < j := by
          rcases Nat.eq_zero_or_pos j with q | q
          · exact absurd (by rw [q]; decide) h0
          · exact q
        obtain ⟨i, rfl⟩ : ∃ i, j = i + 1 := ⟨j - 1, by omega⟩
        rw [if_neg h0, nI_pred, rdI_o (jin_n (by omega) (by decide))]
        obtain ⟨le2, e⟩ := rdJ d k v3 0 sh _ hj (f_X4_read_L66 d (fun _ => 0) sh k v3 v21 n)
        rw [e]
        exact ih (i + 1 + 1) le2 (by omega) (by omega)
theorem read_e (rd d k : Int32) (sh le : Nat → Int32) : ∃ rd2 le2, f_X4_read rd d (fun _ => 0) (fun _ => 0) sh le k = some (rd2, (fun _ => 0), le2) := by
  rw [f_X4_read, nmI_o]
  by_cases h : rd &&& jshl 1 k = 0
  · rw [if_pos h, nmI_o, wrI_o (by decide), nmI_o, wrI_o (by decide), wrI_o (by decide)]
    obtain ⟨le2, e⟩ := read_L d k (jshl 1 k) (rd ||| jshl 1 k) sh FU 0 (upd (upd (upd le (Int32.toNatClampNeg 100) d) (Int32.toNatClampNeg 102) (jrem d 7)) (Int32.toNatClampNeg 116) 0) (by decide) (by unfold FU; omega)
    exact ⟨_, le2, e⟩
  · rw [if_neg h]
    exact ⟨_, _, rfl⟩
theorem looks_e (a b d m : Int32) : f_X12_looks 0 a b d m = some (0, 4) := by
  rw [f_X12_looks, if_pos (by decide)]
theorem lays_L (d : Int32) : ∀ (n j : Nat) (ph ps : Int32) (sh : Nat → Int32), j ≤ 1440 → 1440 - j < n → ∃ ph2 ps2 g, f_X12_lays_L2 0 d n (nI j) ph ps (fun _ => 0) sh = some (ph2, ps2, (fun _ => 0), g) := by
  intro n
  induction n with
  | zero => intro j ph ps sh h1 h2; exact absurd h2 (by omega)
  | succ n ih =>
    intro j ph ps sh h1 h2
    rw [f_X12_lays_L2, nI_1440]
    by_cases hk : j = 1440
    · subst hk; rw [if_pos (nI_le (Nat.le_refl _) (by decide))]; exact ⟨_, _, _, rfl⟩
    · have hj : j < 1440 := by omega
      rw [if_neg (nI_ge hj (by decide)), looks_e, cb2_o, wrI_o (jin_n hj (by decide)), wrI_o (jin_n hj (by decide)), nmI_o, nI_1, updZ]
      exact ih (j + 1) _ _ _ (by omega) (by omega)
theorem lays_e (d ph ps : Int32) (sh : Nat → Int32) : ∃ ph2 ps2 g, f_X12_lays 0 ph ps (fun _ => 0) sh d = some (ph2, ps2, (fun _ => 0), g) := lays_L d FU 0 ph ps sh (by decide) (by unfold FU; omega)
theorem mk_L {j : Nat} (hj : j < 1440) (K : Int32 → Option (Int32 × Int32 × Int32 × Int32 × Int32 × Int32 × Int32 × Int32 × Int32 × Int32 × Int32 × Int32 × Int32 × Int32)) : ∀ (n i : Nat), i ≤ j → j - i < n → f_X12_isMarked_L50 (fun _ => 0) (nI j) K n (nI i) 0 = K 0 := by
  intro n
  induction n with
  | zero => intro i h1 h2; exact absurd h2 (by omega)
  | succ n ih =>
    intro i h1 h2
    rw [f_X12_isMarked_L50]
    by_cases hk : i = j
    · subst hk; rw [if_pos (nI_le (Nat.le_refl _) (by omega))]
    · rw [if_neg (nI_ge (by omega) (by omega)), rdI_o (jin_n (by omega) (by decide)), if_pos (by decide), nmI_o, nI_1]
      exact ih (i + 1) (by omega) (by omega)
theorem mk_e (aA aB aD aF aG aH aL aM aN aS aT aU aX k d done : Int32) (sh : Nat → Int32) {j : Nat} (hj : j < 1440) (hk : 0 ≤ k.toInt ∧ k.toInt ≤ 3) : ∃ cA cB cD cF cG cH cL cM cN cS cT cU cX, f_X12_isMarked aA aB aD aF aG aH aL aM aN aS aT aU aX (fun _ => 0) (fun _ => 0) sh k d (nI j) done = some (0, cA, cB, cD, cF, cG, cH, cL, cM, cN, cS, cT, cU, cX) := by
  have j10 : jin (10 + k) 20 = true := by
    have e : (10 + k).toInt = 10 + k.toInt := by rw [ad32] <;> rw [i32_10] <;> omega
    exact jin_o (by omega) (by omega)
  have j94 : ∀ (b1 b2 b3 b4 b5 t1 : Int32), ∃ cA cB cD cF cG cH cL cM cN cS cT cU cX, f_X12_isMarked_J94 (fun _ => 0) sh k d (nI j) done b1 b2 b3 b4 b5 t1 0 = some (0, cA, cB, cD, cF, cG, cH, cL, cM, cN, cS, cT, cU, cX) := by
    intro b1 b2 b3 b4 b5 t1
    rw [f_X12_isMarked_J94, rdI_o (jin_n hj (by decide)), f_X12_starAt, cb1_o, nmI_o, nmI_o, rdI_o j10, Int32.add_zero, if_pos (Int32.le_refl _)]
    exact ⟨_, _, _, _, _, _, _, _, _, _, _, _, _, rfl⟩
  have j48 : ∀ (b1 b2 b3 b4 b5 t1 : Int32) (i : Nat), i ≤ j → ∃ cA cB cD cF cG cH cL cM cN cS cT cU cX, f_X12_isMarked_J48 (fun _ => 0) (fun _ => 0) sh k d (nI j) done b1 0 b2 b3 b4 b5 t1 (nI i) = some (0, cA, cB, cD, cF, cG, cH, cL, cM, cN, cS, cT, cU, cX) := by
    intro b1 b2 b3 b4 b5 t1 i hi
    rw [f_X12_isMarked_J48, mk_L hj _ FU i hi (by unfold FU; omega)]
    exact j94 _ _ _ _ _ _
  have j31 : ∀ (b1 b2 b3 b4 b5 t1 : Int32), ∃ cA cB cD cF cG cH cL cM cN cS cT cU cX, f_X12_isMarked_J31 (fun _ => 0) (fun _ => 0) sh k d (nI j) done b1 0 b2 b3 b4 b5 t1 = some (0, cA, cB, cD, cF, cG, cH, cL, cM, cN, cS, cT, cU, cX) := by
    intro b1 b2 b3 b4 b5 t1
    rw [f_X12_isMarked_J31]
    by_cases h : 10 ≤ j
    · rw [if_pos (show (10 : Int32) ≤ nI j from nI_le (a := 10) h (by omega)), show nI j - 10 = nI (j - 10) from pk_sub (b := 10) h]
      exact j48 _ _ _ _ _ _ _ (by omega)
    · rw [if_neg (show ¬ (10 : Int32) ≤ nI j from nI_ge (a := j) (b := 10) (by omega) (by decide))]
      exact j48 _ _ _ _ _ _ 0 (by omega)
  rw [f_X12_isMarked, f_X12_clears, cb13_o, rdI_o (jin_n hj (by decide))]
  by_cases h0 : nI j = 0
  · rw [if_pos h0]
    exact j31 _ _ _ _ _ _
  · have hj0 : 0 < j := by
      rcases Nat.eq_zero_or_pos j with q | q
      · exact absurd (by rw [q]; decide) h0
      · exact q
    rw [if_neg h0, show nI j - 1 = nI (j - 1) from pk_sub (b := 1) hj0, rdI_o (jin_n (by omega) (by decide))]
    exact j31 _ _ _ _ _ _
theorem over_L (k d row : Int32) (sh fi gr la : Nat → Int32) (hk : 0 ≤ k.toInt ∧ k.toInt ≤ 3) (K : Int32 → Int32 → Int32 → Int32 → Int32 → Int32 → Int32 → Int32 → Int32 → Int32 → Int32 → Int32 → Int32 → Int32 → (Nat → Int32) → (Nat → Int32) → (Nat → Int32) → Option (Int32 × Int32 × Int32 × Int32 × Int32 × Int32 × Int32 × Int32 × Int32 × Int32 × Int32 × Int32 × Int32 × (Nat → Int32) × (Nat → Int32) × (Nat → Int32) × (Nat → Int32))) : ∀ (n j : Nat) (aA aB aD aF aG aH aL aM aN aS aT aU aX : Int32), j ≤ 1440 → 1440 - j < n → ∃ cA cB cD cF cG cH cL cM cN cS cT cU cX, f_X12_goesOver_L9 (fun _ => 0) (fun _ => 0) sh k d row K n 0 0 (nI j) aA aB aD aF aG aH aL aM aN aS aT aU aX fi gr la = K 0 cA cB cD cF cG cH cL cM cN cS cT cU cX fi gr la := by
  intro n
  induction n with
  | zero => intro j aA aB aD aF aG aH aL aM aN aS aT aU aX h1 h2; exact absurd h2 (by omega)
  | succ n ih =>
    intro j aA aB aD aF aG aH aL aM aN aS aT aU aX h1 h2
    rw [f_X12_goesOver_L9, nI_1440]
    by_cases he : j = 1440
    · subst he; rw [if_pos (nI_le (Nat.le_refl _) (by decide))]; exact ⟨_, _, _, _, _, _, _, _, _, _, _, _, _, rfl⟩
    · have hj : j < 1440 := by omega
      rw [if_neg (nI_ge hj (by decide)), if_pos rfl, f_X12_goesOver_J36]
      obtain ⟨cA, cB, cD, cF, cG, cH, cL, cM, cN, cS, cT, cU, cX, e⟩ := mk_e aA aB aD aF aG aH aL aM aN aS aT aU aX k d 0 sh hj hk
      rw [cb14_e e, if_pos rfl, f_X12_goesOver_J83, if_pos rfl, nmI_o, nI_1]
      exact ih (j + 1) cA cB cD cF cG cH cL cM cN cS cT cU cX (by omega) (by omega)
theorem over_e (aA aB aD aF aG aH aL aM aN aS aT aU aX k d row : Int32) (sh fi gr la : Nat → Int32) (hk : 0 ≤ k.toInt ∧ k.toInt ≤ 3) (hr : jin row 2 = true) : ∃ cA cB cD cF cG cH cL cM cN cS cT cU cX, f_X12_goesOver aA aB aD aF aG aH aL aM aN aS aT aU aX fi gr (fun _ => 0) la (fun _ => 0) (fun _ => 0) sh k d row = some (cA, cB, cD, cF, cG, cH, cL, cM, cN, cS, cT, cU, cX, fi, gr, la, (fun _ => 0)) := by
  obtain ⟨cA, cB, cD, cF, cG, cH, cL, cM, cN, cS, cT, cU, cX, e⟩ := over_L k d row sh fi gr la hk (f_X12_goesOver_J160 (fun _ => 0) row) FU 0 aA aB aD aF aG aH aL aM aN aS aT aU aX (by decide) (by unfold FU; omega)
  refine ⟨cA, cB, cD, cF, cG, cH, cL, cM, cN, cS, cT, cU, cX, ?_⟩
  rw [f_X12_goesOver]
  refine Eq.trans e ?_
  rw [f_X12_goesOver_J160, wrI_o hr, updZ]
theorem pf_8 (y1 : Int32) (y2 : Int32) (y3 : Int32) : ∃ (r : Int32) (x_o_page_readers : Int32) (x_o_page_day : Int32) (x_o_page_heights : Nat → Int32) (x_o_page_highest : Nat → Int32) (x_o_page_shapes : Nat → Int32) (m_o_paperHigh : Int32) (m_o_paperShape : Int32), f_X11_paper 0 (-1) 0 (fun _ => 0) (fun _ => 0) (fun _ => 0) (fun _ => none) y1 y2 y3 = some (r, x_o_page_readers, x_o_page_day, x_o_page_heights, x_o_page_highest, x_o_page_shapes) ∧ f_X12_paper 0 0 0 y1 y2 y3 = some (r, m_o_paperHigh, m_o_paperShape) := by
  simp only [f_X11_paper, f_X12_paper, isDay_e, misDay_e, isMinute_e, misMinute_e, W_iff, L_iff, t64, cb1_o, bI_0, looks_e, cb2_o, i32_0, i64_0, i32_1, i64_1, i32_2, i64_2, i32_3, i64_3, i32_4, i64_4, i32_5, i64_5, i32_6, i64_6, i32_9, i64_9, i32_10, i64_10, i32_20, i64_20, i32_23, i64_23, i32_30, i64_30, i32_35, i64_35, i32_39, i64_39, i32_40, i64_40, i32_60, i64_60, i32_120, i64_120, i32_127, i64_127, i32_180, i64_180, i32_399, i64_399, i32_400, i64_400, i32_700, i64_700, i32_999, i64_999, i32_1000, i64_1000, i32_1439, i64_1439, i32_1440, i64_1440, i32_2000, i64_2000, i32_1000000, i64_1000000, i32_1000000000, i64_1000000000, i32_100000, i64_100000, i32_n1, i64_n1, i32_n100000, i64_n100000]
  by_cases h1 : 0 ≤ y1.toInt ∧ y1.toInt ≤ 399
  · by_cases h2 : 0 ≤ y2.toInt ∧ y2.toInt ≤ 1439
    · by_cases h3 : 0 ≤ y3.toInt ∧ y3.toInt ≤ 1
      · have hne : ¬ (-1 : Int32) = y1 := fun q => by rw [← q] at h1; exact absurd h1 (by decide)
        obtain ⟨g, e, g4⟩ := lay_e 0 (-1) y1 (fun _ => 0) hne
        have hj : jin y2 1440 = true := jin_o h2.1 (by omega)
        have h4 : g y2.toNatClampNeg = 4 := by
          obtain ⟨j, hj2, ej⟩ := nI_of (show ¬ y2 < 0 by rw [Int32.lt_iff_toInt_lt, i32_0]; omega)
          rw [ej, nI_toInt hj2] at h2
          rw [ej, nI_clamp hj2]
          exact g4 j (by omega)
        simp only [h1, h2, h3, and_self, not_true, if_false, e, cb5_o, rdI_o hj, h4]
        by_cases h5 : y3 = 0 <;> simp only [h5, if_true, if_false] <;> exact ⟨_, _, _, _, _, _, _, _, rfl, rfl⟩
      · simp only [h1, h2, h3, and_self, not_true, not_false_eq_true, if_false, if_true]; exact ⟨_, _, _, _, _, _, _, _, rfl, rfl⟩
    · simp only [h1, h2, and_self, not_true, not_false_eq_true, if_false, if_true]; exact ⟨_, _, _, _, _, _, _, _, rfl, rfl⟩
  · simp only [h1, not_false_eq_true, if_true]; exact ⟨_, _, _, _, _, _, _, _, rfl, rfl⟩
theorem pf_9 (y1 : Int32) (y2 : Int32) (y3 : Int32) : ∃ (r : Int32) (x_o_page_readers : Int32) (x_o_page_day : Int32) (x_o_page_heights : Nat → Int32) (x_o_page_highest : Nat → Int32) (x_o_page_marked : Nat → Int32) (x_o_page_shapes : Nat → Int32) (x_o_page_reckoner_letters : Nat → Int32) (m_o_atA : Int32) (m_o_atB : Int32) (m_o_atD : Int32) (m_o_atF : Int32) (m_o_atG : Int32) (m_o_atH : Int32) (m_o_atL : Int32) (m_o_atM : Int32) (m_o_atN : Int32) (m_o_atS : Int32) (m_o_atT : Int32) (m_o_atU : Int32) (m_o_atX : Int32) (m_o_paperHigh : Int32) (m_o_paperShape : Int32) (m_o_first : Nat → Int32) (m_o_greatest : Nat → Int32) (m_o_highAt : Nat → Int32) (m_o_last : Nat → Int32) (m_o_marked : Nat → Int32) (m_o_shapeAt : Nat → Int32), f_X11_marks 0 (-1) 0 (fun _ => none) (fun _ => 0) (fun _ => 0) (fun _ => 0) (fun _ => 0) (fun _ => none) (fun _ => 0) y1 y2 y3 = some (r, x_o_page_readers, x_o_page_day, x_o_page_heights, x_o_page_highest, x_o_page_marked, x_o_page_shapes, x_o_page_reckoner_letters) ∧ f_X12_marks 0 0 0 0 0 0 0 0 0 0 0 0 0 0 0 0 (fun _ => 0) (fun _ => 0) (fun _ => 0) (fun _ => 0) (fun _ => 0) (fun _ => 0) (fun _ => 0) y1 y2 y3 = some (r, m_o_atA, m_o_atB, m_o_atD, m_o_atF, m_o_atG, m_o_atH, m_o_atL, m_o_atM, m_o_atN, m_o_atS, m_o_atT, m_o_atU, m_o_atX, m_o_paperHigh, m_o_paperShape, m_o_first, m_o_greatest, m_o_highAt, m_o_last, m_o_marked, m_o_shapeAt) := by
  simp only [f_X11_marks, f_X12_marks, isDay_e, misDay_e, isReader_e, misReader_e, cb1_o, bI_0]
  by_cases h1 : 0 ≤ y1.toInt ∧ y1.toInt ≤ 3
  · by_cases h2 : 0 ≤ y2.toInt ∧ y2.toInt ≤ 399
    · by_cases h3 : (-1 : Int32) ≤ y3
      · have hne : ¬ (-1 : Int32) = y2 := fun q => by rw [← q] at h2; exact absurd h2 (by decide)
        obtain ⟨g, e, -⟩ := lay_e 0 (-1) y2 (fun _ => 0) hne
        have hj : jin y1 4 = true := jin_o h1.1 (by omega)
        obtain ⟨rd2, le2, er⟩ := read_e 0 y2 y1 g (fun _ => 0)
        obtain ⟨ph, ps, g2, el⟩ := lays_e y2 0 0 (fun _ => 0)
        obtain ⟨cA, cB, cD, cF, cG, cH, cL, cM, cN, cS, cT, cU, cX, eo⟩ := over_e 0 0 0 0 0 0 0 0 0 0 0 0 0 y1 y2 0 g2 (fun _ => 0) (fun _ => 0) (fun _ => 0) h1 (by decide)
        simp only [h1, h2, h3, and_self, not_true, if_false, if_true, e, cb5_o, rdN_o hj, er, cb3_o, marksOf_e, markNumber_e, cb1_o, el, cb4_o, eo, cb17_o]
        by_cases h5 : y3 = -1
        · simp only [h5, if_true]
          rw [rdI_o (by decide)]
          exact ⟨_, _, _, _, _, _, _, _, _, _, _, _, _, _, _, _, _, _, _, _, _, _, _, _, _, _, _, _, _, rfl, rfl⟩
        · have hp : ¬ y3 / 3 < 0 := by
            have h0 : ¬ y3 < 0 := by
              rw [Int32.le_iff_toInt_le, i32_n1] at h3
              rw [Int32.lt_iff_toInt_lt, i32_0]
              have h6 : ¬ y3.toInt = -1 := fun q => h5 (Int32.toInt_inj.mp (q.trans (by decide)))
              omega
            obtain ⟨j, hj2, ej⟩ := nI_of h0
            rw [ej, show (3 : Int32) = nI 3 from rfl, pk_div hj2 (by decide) (by decide)]
            exact nI_pos (by have := Nat.div_le_self j 3; omega)
          simp only [h5, if_false]
          rw [rdI_o (by decide), if_neg hp]
          exact ⟨_, _, _, _, _, _, _, _, _, _, _, _, _, _, _, _, _, _, _, _, _, _, _, _, _, _, _, _, _, rfl, rfl⟩
      · simp only [h1, h2, h3, and_self, not_true, if_false]; exact ⟨_, _, _, _, _, _, _, _, _, _, _, _, _, _, _, _, _, _, _, _, _, _, _, _, _, _, _, _, _, rfl, rfl⟩
    · simp only [h1, h2, and_self, not_true, not_false_eq_true, if_false, if_true]; exact ⟨_, _, _, _, _, _, _, _, _, _, _, _, _, _, _, _, _, _, _, _, _, _, _, _, _, _, _, _, _, rfl, rfl⟩
  · simp only [h1, not_false_eq_true, if_true]; exact ⟨_, _, _, _, _, _, _, _, _, _, _, _, _, _, _, _, _, _, _, _, _, _, _, _, _, _, _, _, _, rfl, rfl⟩
theorem pf_30 (y1 : Int32) (y2 : Int32) (y3 : Int32) : ∃ (r : Int32) (x_o_page_readers : Int32) (x_o_page_day : Int32) (x_o_tape_length : Int32) (x_o_page_heights : Nat → Int32) (x_o_page_highest : Nat → Int32) (x_o_page_marked : Nat → Int32) (x_o_page_shapes : Nat → Int32) (x_o_page_reckoner_letters : Nat → Int32) (m_o_taped : Int32) (m_o_atA : Int32) (m_o_atB : Int32) (m_o_atD : Int32) (m_o_atF : Int32) (m_o_atG : Int32) (m_o_atH : Int32) (m_o_atL : Int32) (m_o_atM : Int32) (m_o_atN : Int32) (m_o_atS : Int32) (m_o_atT : Int32) (m_o_atU : Int32) (m_o_atX : Int32) (m_o_paperHigh : Int32) (m_o_paperShape : Int32) (m_o_first : Nat → Int32) (m_o_greatest : Nat → Int32) (m_o_highAt : Nat → Int32) (m_o_last : Nat → Int32) (m_o_marked : Nat → Int32) (m_o_shapeAt : Nat → Int32), f_X11_check 0 (-1) 0 0 (fun _ => none) (fun _ => 0) (fun _ => 0) (fun _ => 0) (fun _ => 0) (fun _ => none) (fun _ => 0) y1 y2 y3 = some (r, x_o_page_readers, x_o_page_day, x_o_tape_length, x_o_page_heights, x_o_page_highest, x_o_page_marked, x_o_page_shapes, x_o_page_reckoner_letters) ∧ f_X12_check 0 0 0 0 0 0 0 0 0 0 0 0 0 0 0 0 0 (fun _ => 0) (fun _ => 0) (fun _ => 0) (fun _ => 0) (fun _ => 0) (fun _ => 0) (fun _ => 0) y1 y2 y3 = some (r, m_o_taped, m_o_atA, m_o_atB, m_o_atD, m_o_atF, m_o_atG, m_o_atH, m_o_atL, m_o_atM, m_o_atN, m_o_atS, m_o_atT, m_o_atU, m_o_atX, m_o_paperHigh, m_o_paperShape, m_o_first, m_o_greatest, m_o_highAt, m_o_last, m_o_marked, m_o_shapeAt) := by
  have hd : ∀ z : Int32, (0 ≤ z.toInt ∧ z.toInt ≤ ((0 : Int32) / 12).toInt) = (z = 0) := fun z => by
    rw [show ((0 : Int32) / 12).toInt = 0 from by decide]
    exact propext ⟨fun q => Int32.toInt_inj.mp (by rw [i32_0]; omega), fun q => by rw [q]; decide⟩
  have hle : ∀ z : Int32, (z ≤ (0 : Int32) / 12) = (z.toInt ≤ 0) := fun z => by
    rw [show (0 : Int32) / 12 = 0 from by decide, Int32.le_iff_toInt_le, i32_0]
  simp only [f_X11_check, f_X12_check, isDay_e, misDay_e, isReader_e, misReader_e, W_iff, cb1_o, bI_0, i32_0, hd, hle, Int32.lt_iff_toInt_lt]
  by_cases h1 : 0 ≤ y1.toInt ∧ y1.toInt ≤ 3
  · by_cases h2 : 0 ≤ y2.toInt ∧ y2.toInt ≤ 399
    · by_cases h3 : y3 = 0
      · subst h3
        have hne : ¬ (-1 : Int32) = y2 := fun q => by rw [← q] at h2; exact absurd h2 (by decide)
        obtain ⟨g, e, -⟩ := lay_e 0 (-1) y2 (fun _ => 0) hne
        have hj : jin y1 4 = true := jin_o h1.1 (by omega)
        obtain ⟨rd2, le2, er⟩ := read_e 0 y2 y1 g (fun _ => 0)
        obtain ⟨ph, ps, g2, el⟩ := lays_e y2 0 0 (fun _ => 0)
        obtain ⟨cA, cB, cD, cF, cG, cH, cL, cM, cN, cS, cT, cU, cX, eo⟩ := over_e 0 0 0 0 0 0 0 0 0 0 0 0 0 y1 y2 0 g2 (fun _ => 0) (fun _ => 0) (fun _ => 0) h1 (by decide)
        simp only [h1, h2, and_self, not_true, if_false, if_true, e, cb5_o, rdN_o hj, er, cb3_o, firstWrong_e, f_X9_clear, cb1_o, el, cb4_o, eo, cb17_o, i32_0, show ¬ ((0 : Int) < 0) from by decide, show ((0 : Int) ≤ 0) from by decide]
        rw [rdI_o (by decide), if_pos (by decide), rdI_o (by decide), if_pos (by decide)]
        exact ⟨_, _, _, _, _, _, _, _, _, _, _, _, _, _, _, _, _, _, _, _, _, _, _, _, _, _, _, _, _, _, _, rfl, rfl⟩
      · simp only [h1, h2, h3, and_self, not_true, not_false_eq_true, if_false, if_true]
        have h6 : ¬ y3.toInt = 0 := fun q => h3 (Int32.toInt_inj.mp (q.trans (by decide)))
        by_cases h4 : y3.toInt < 0
        · simp only [h4, if_true]; exact ⟨_, _, _, _, _, _, _, _, _, _, _, _, _, _, _, _, _, _, _, _, _, _, _, _, _, _, _, _, _, _, _, rfl, rfl⟩
        · rw [if_neg h4, if_neg (by omega)]; exact ⟨_, _, _, _, _, _, _, _, _, _, _, _, _, _, _, _, _, _, _, _, _, _, _, _, _, _, _, _, _, _, _, rfl, rfl⟩
    · simp only [h1, h2, and_self, not_true, not_false_eq_true, if_false, if_true]; exact ⟨_, _, _, _, _, _, _, _, _, _, _, _, _, _, _, _, _, _, _, _, _, _, _, _, _, _, _, _, _, _, _, rfl, rfl⟩
  · simp only [h1, not_false_eq_true, if_true]; exact ⟨_, _, _, _, _, _, _, _, _, _, _, _, _, _, _, _, _, _, _, _, _, _, _, _, _, _, _, _, _, _, _, rfl, rfl⟩
