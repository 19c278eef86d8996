/-! what a text says, on both sides -/
def sV (f : Sem) (V : Int32 → Int32) : Int32 := (f V).getD 0
theorem cL_end {nn to m n lp : Nat} {arr Lt vals : Nat → Int32} {K : Int32 → (Nat → Int32) → Option (Int32 × (Nat → Int32))} (hto : to ≤ 120) : cL nn arr Lt to K (n + 1) m lp to vals = K (nI m) vals := by
  unfold cL
  rw [f_X5_reckon_L9, if_pos (nI_le (Nat.le_refl _) (by omega))]
theorem reck_n {nn u L : Nat} {code Lt vals : Nat → Int32} {f : Sem} {V : Int32 → Int32} (h : CR code u L 16 f) (hL : u + L ≤ nn) (hn : nn ≤ 120) (hV : ∀ c, valB c = true → Lt c.toNatClampNeg = V c) : ∃ vals' : Nat → Int32, f_X5_reckon nn code Lt vals (nI u) (nI (u + L)) = some (sV f V, vals') := by
  obtain ⟨n, hF⟩ : ∃ n, FU = (n + 1) + L := ⟨FU - L - 1, by have := FU_ge; omega⟩
  have h0 : f_X5_reckon nn code Lt vals (nI u) (nI (u + L)) = cL nn code Lt (u + L) f_X5_reckon_J273 ((n + 1) + L) 0 u u vals := by
    rw [f_X5_reckon, hF]; rfl
  obtain ⟨h1, h2⟩ := h V Lt code vals nn (u + L) 0 (n + 1) u f_X5_reckon_J273 hV (fun _ _ => rfl) (Nat.le_refl _) hL hn (by omega) (Nat.le_refl _)
  rw [h0]
  unfold sV
  cases hf : f V with
  | none =>
    obtain ⟨v', e⟩ := h2 hf
    exact ⟨v', e⟩
  | some v =>
    obtain ⟨v', lp', -, e2, -, e4⟩ := h1 v hf
    refine ⟨v', ?_⟩
    rw [e4, cL_end (by omega), f_X5_reckon_J273, if_pos (by decide), rdI_o (by decide), show (0 : Int32).toNatClampNeg = 0 by decide, e2]
    rfl
noncomputable abbrev wksF (q code ca rf wo : Nat → Int32) (a b : Int32) : Option ((Nat → Int32) × (Nat → Int32)) := f_X12_works (q 0) (q 1) (q 2) (q 3) (q 4) (q 5) (q 6) (q 7) (q 8) (q 9) (q 10) (q 11) (q 12) code ca rf wo a b
theorem works_n {s k L : Nat} {q code ca rf wo : Nat → Int32} {f : Sem} {V : Int32 → Int32} (h : RR (fun j => code (120 * s + j)) (fun j => ca (120 * s + j)) k L f) (hs : s < 20) (hL : k + L ≤ 120) (hV : ∀ c, valB c = true → vO q c = V c) : ∃ rf' wo' : Nat → Int32, wksF q code ca rf wo (nI (120 * s + k)) (nI (120 * s + (k + L))) = some (rf', wo') ∧ (∀ v, f V = some v → rf' 0 = 0 ∧ wo' 0 = v) ∧ (f V = none → rf' 0 = 1) := by
  obtain ⟨n, hF⟩ : ∃ n, FU = (n + 1) + L := ⟨FU - L - 1, by have := FU_ge; omega⟩
  obtain ⟨rf', wo', -, h2, h3, h4⟩ := h V q code ca rf wo (120 * s) (120 * s + (k + L)) 0 (n + 1) hV (fun i hi => by rw [Nat.add_assoc]; exact ⟨rfl, rfl⟩) (by omega) (by omega) (by omega)
  refine ⟨rf', wo', ?_, h3, h4⟩
  have h0 : wksF q code ca rf wo (nI (120 * s + k)) (nI (120 * s + (k + L))) = rL q code ca (120 * s + (k + L)) ((n + 1) + L) 0 (120 * s + k) rf wo := by
    unfold wksF
    rw [f_X12_works, hF]; rfl
  rw [h0, h2]
  unfold rL
  rw [f_X12_works_L5, if_pos (by rw [show 120 * s + k + L = 120 * s + (k + L) by omega]; exact nI_le (Nat.le_refl _) (by omega))]
noncomputable abbrev holF (q code ca cf ct rf wo : Nat → Int32) (a : Int32) : Option (Int32 × (Nat → Int32) × (Nat → Int32)) := f_X12_holds (q 0) (q 1) (q 2) (q 3) (q 4) (q 5) (q 6) (q 7) (q 8) (q 9) (q 10) (q 11) (q 12) code ca cf ct rf wo a
noncomputable abbrev sumF (q code ca cf sf rf wo : Nat → Int32) (a : Int32) : Option (Int32 × (Nat → Int32) × (Nat → Int32)) := f_X12_sumOf (q 0) (q 1) (q 2) (q 3) (q 4) (q 5) (q 6) (q 7) (q 8) (q 9) (q 10) (q 11) (q 12) code ca cf rf sf wo a
/-- a clause's two sides -/
def clEv (lw : Int32) (v : kTv) (code ca cf ct sf : Nat → Int32) (s x : Nat) (V : Int32 → Int32) (p : Bool × Int32) : Prop :=
  (∀ Lt vals : Nat → Int32, (∀ c, valB c = true → Lt c.toNatClampNeg = V c) → ∃ (r : Int32) (vals' : Nat → Int32), f_X5_reckon v.2.1.1 v.2.1.2 Lt vals (v.2.2.2.2 x) (v.2.2.1.2 (x + 1)) = some (r, vals') ∧ (r = 0 ↔ p.1 = false)) ∧
  (∀ q rf wo : Nat → Int32, (∀ c, valB c = true → vO q c = V c) → ∃ (r : Int32) (rf' wo' : Nat → Int32), holF q code ca cf ct rf wo (nI (12 * s + x)) = some (r, rf', wo') ∧ (r = 0 ↔ p.1 = false)) ∧
  (¬ lw = 0 → (∀ Lt vals : Nat → Int32, (∀ c, valB c = true → Lt c.toNatClampNeg = V c) → ∃ vals' : Nat → Int32, f_X5_reckon v.2.1.1 v.2.1.2 Lt vals (v.2.2.1.2 x) (v.2.2.2.2 x) = some (p.2, vals')) ∧ (∀ q rf wo : Nat → Int32, (∀ c, valB c = true → vO q c = V c) → ∃ rf' wo' : Nat → Int32, sumF q code ca cf sf rf wo (nI (12 * s + x)) = some (p.2, rf', wo')))
theorem sum_n {s x k L : Nat} {q code ca cf sf rf wo : Nat → Int32} {f : Sem} {V : Int32 → Int32} (h : RR (fun j => code (120 * s + j)) (fun j => ca (120 * s + j)) k L f) (hs : s < 20) (hx : x < 12) (hL : k + L ≤ 120) (h1 : sf (12 * s + x) = nI (120 * s + k)) (h2 : cf (12 * s + x) = nI (120 * s + (k + L))) (hV : ∀ c, valB c = true → vO q c = V c) : ∃ rf' wo' : Nat → Int32, sumF q code ca cf sf rf wo (nI (12 * s + x)) = some (sV f V, rf', wo') := by
  obtain ⟨rf', wo', e1, e2, e3⟩ := works_n (rf := rf) (wo := wo) h hs hL hV
  have j1 : jin (nI (12 * s + x)) 240 = true := jin_n (by omega) (by omega)
  refine ⟨rf', wo', ?_⟩
  have e1' : f_X12_works (q 0) (q 1) (q 2) (q 3) (q 4) (q 5) (q 6) (q 7) (q 8) (q 9) (q 10) (q 11) (q 12) code ca rf wo (nI (120 * s + k)) (nI (120 * s + (k + L))) = some (rf', wo') := e1
  unfold sumF sV
  rw [f_X12_sumOf, rdI_o j1, rdI_o j1, nI_clamp (by omega), h1, h2, e1', cb2_o, rdI_o (by decide), show (0 : Int32).toNatClampNeg = 0 by decide]
  cases hf : f V with
  | none => rw [e3 hf, if_neg (by decide)]; rfl
  | some v => rw [(e2 v hf).1, if_pos rfl, rdI_o (by decide), show (0 : Int32).toNatClampNeg = 0 by decide, (e2 v hf).2]; rfl
theorem hol_n {s x k L : Nat} {q code ca cf ct rf wo : Nat → Int32} {f : Sem} {V : Int32 → Int32} (h : RR (fun j => code (120 * s + j)) (fun j => ca (120 * s + j)) k L f) (hb : isBoo f) (hs : s < 20) (hx : x < 12) (hL : k + L ≤ 120) (h1 : cf (12 * s + x) = nI (120 * s + k)) (h2 : ct (12 * s + x) = nI (120 * s + (k + L))) (hV : ∀ c, valB c = true → vO q c = V c) : ∃ rf' wo' : Nat → Int32, holF q code ca cf ct rf wo (nI (12 * s + x)) = some (sV f V, rf', wo') := by
  obtain ⟨rf', wo', e1, e2, e3⟩ := works_n (rf := rf) (wo := wo) h hs hL hV
  have j1 : jin (nI (12 * s + x)) 240 = true := jin_n (by omega) (by omega)
  refine ⟨rf', wo', ?_⟩
  have e1' : f_X12_works (q 0) (q 1) (q 2) (q 3) (q 4) (q 5) (q 6) (q 7) (q 8) (q 9) (q 10) (q 11) (q 12) code ca rf wo (nI (120 * s + k)) (nI (120 * s + (k + L))) = some (rf', wo') := e1
  unfold holF sV
  rw [f_X12_holds, rdI_o j1, rdI_o j1, nI_clamp (by omega), h1, h2, e1', cb2_o, rdI_o (by decide), show (0 : Int32).toNatClampNeg = 0 by decide]
  cases hf : f V with
  | none => rw [e3 hf, if_neg (by decide)]; rfl
  | some v =>
    rw [(e2 v hf).1, if_pos rfl, rdI_o (by decide), show (0 : Int32).toNatClampNeg = 0 by decide, (e2 v hf).2]
    rcases hb V v hf with e | e
    · rw [e, if_neg (by decide)]; rfl
    · rw [e, if_pos rfl]; rfl
theorem text_eval {lw : Int32} {v : kTv} {code ca cf ct sf : Nat → Int32} {s c : Nat} (hT : TXR lw v code ca cf ct sf s c) (hs : s < 20) (V : Int32 → Int32) : ∃ F : Nat → Bool × Int32, ∀ x, x < c → clEv lw v code ca cf ct sf s x V (F x) := by
  obtain ⟨t1, t2, t3, t4, t5, t6, t7⟩ := hT
  refine Classical.axiomOfChoice (r := fun x p => x < c → clEv lw v code ca cf ct sf s x V p) (fun x => ?_)
  by_cases hx : x < c
  · obtain ⟨a, L1, L2, g1, g2, g3, g4, g5, g6, g7, g8, g, gb, gC, gR⟩ := t7 x hx
    by_cases hl : lw = 0
    · refine ⟨(!(sV g V == 0), 0), fun _ => ⟨fun Lt vals hV => ?_, fun q rf wo hV => ?_, fun w => absurd hl w⟩⟩
      · obtain ⟨v', e⟩ := reck_n (vals := vals) gC (by omega) t4 hV
        exact ⟨_, v', by rw [g2, g3]; exact e, by simp only [Bool.not_eq_false', beq_iff_eq]⟩
      · obtain ⟨rf', wo', e⟩ := hol_n (rf := rf) (wo := wo) gR gb hs (by omega) (by omega) g6 g7 hV
        exact ⟨_, rf', wo', e, by simp only [Bool.not_eq_false', beq_iff_eq]⟩
    · obtain ⟨f, fC, fR⟩ := g8 hl
      refine ⟨(!(sV g V == 0), sV f V), fun _ => ⟨fun Lt vals hV => ?_, fun q rf wo hV => ?_, fun _ => ⟨fun Lt vals hV => ?_, fun q rf wo hV => ?_⟩⟩⟩
      · obtain ⟨v', e⟩ := reck_n (vals := vals) gC (by omega) t4 hV
        exact ⟨_, v', by rw [g2, g3]; exact e, by simp only [Bool.not_eq_false', beq_iff_eq]⟩
      · obtain ⟨rf', wo', e⟩ := hol_n (rf := rf) (wo := wo) gR gb hs (by omega) (by omega) g6 g7 hV
        exact ⟨_, rf', wo', e, by simp only [Bool.not_eq_false', beq_iff_eq]⟩
      · obtain ⟨v', e⟩ := reck_n (vals := vals) fC (by omega) t4 hV
        exact ⟨v', by rw [g1, g2]; exact e⟩
      · exact sum_n (rf := rf) (wo := wo) fR hs (by omega) (by omega) g5 g6 hV
  · exact ⟨(false, 0), fun w => absurd w hx⟩
/-- the first clause that holds -/
def isFst (F : Nat → Bool × Int32) (x c z : Nat) : Prop := x ≤ z ∧ z < c ∧ (F z).1 = true ∧ ∀ i, x ≤ i → i < z → (F i).1 = false
def noFst (F : Nat → Bool × Int32) (x c : Nat) : Prop := ∀ i, x ≤ i → i < c → (F i).1 = false
theorem fst_uni {F : Nat → Bool × Int32} {x c z z' : Nat} (h : isFst F x c z) (h' : isFst F x c z') : z = z' := by
  obtain ⟨h1, h2, h3, h4⟩ := h
  obtain ⟨g1, g2, g3, g4⟩ := h'
  rcases Nat.lt_trichotomy z z' with w | w | w
  · exact absurd ((g4 z h1 w).symm.trans h3) (by decide)
  · exact w
  · exact absurd ((h4 z' g1 w).symm.trans g3) (by decide)
theorem fst_no {F : Nat → Bool × Int32} {x c z : Nat} (h : isFst F x c z) (h' : noFst F x c) : False := by
  obtain ⟨h1, h2, h3, h4⟩ := h
  exact absurd ((h' z h1 h2).symm.trans h3) (by decide)
theorem first_L {lw : Int32} {v : kTv} {code ca cf ct sf Lt : Nat → Int32} {s c : Nat} {V : Int32 → Int32} {F : Nat → Bool × Int32} (hc : v.1 = nI c) (hc2 : c ≤ 12) (h5 : v.2.2.1.1 = c + 1) (h6 : v.2.2.2.1 = c) (hF : ∀ x, x < c → clEv lw v code ca cf ct sf s x V (F x)) (hV : ∀ c, valB c = true → Lt c.toNatClampNeg = V c) :
    ∀ (r x n : Nat) (vals : Nat → Int32), x + r = c → Sf (f_X5_firstThatHolds_L2 v.1 v.2.1.1 v.2.1.2 v.2.2.2.1 v.2.2.2.2 v.2.2.1.1 v.2.2.1.2 Lt (n + r + 1) (nI x) vals) (fun y => (∃ z, isFst F x c z ∧ y.1 = nI z) ∨ (noFst F x c ∧ y.1 = -1)) := by
  intro r
  induction r with
  | zero =>
    intro x n vals h
    have hx : x = c := by omega
    subst hx
    rw [Nat.add_zero, f_X5_firstThatHolds_L2, hc, if_pos (nI_le (Nat.le_refl _) (by omega))]
    exact Sf_some (Or.inr ⟨fun i h1 h2 => absurd h1 (by omega), rfl⟩)
  | succ r ih =>
    intro x n vals h
    have hx : x < c := by omega
    obtain ⟨q, vals', e1, e2⟩ := (hF x hx).1 Lt vals hV
    have j1 : jin (nI x) v.2.2.2.1 = true := by rw [h6]; exact jin_n hx (by omega)
    have j2 : jin (nI (x + 1)) v.2.2.1.1 = true := by rw [h5]; exact jin_n (by omega) (by omega)
    have hle : ¬ v.1 ≤ nI x := by rw [hc]; exact nI_ge hx (by omega)
    rw [show n + (r + 1) + 1 = (n + r + 1) + 1 by omega, f_X5_firstThatHolds_L2, if_neg hle, rdI_o j1, nI_1, rdI_o j2, nI_clamp (by omega), nI_clamp (by omega), e1, cb2_o]
    refine Sf_ite (fun g => ?_) (fun g => ?_)
    · have hf := e2.mp g
      rw [nmI_o]
      refine Sf_mono (ih (x + 1) n vals' (by omega)) (fun y hy => ?_)
      rcases hy with ⟨z, ⟨z1, z2, z3, z4⟩, hz⟩ | ⟨hn, hy⟩
      · refine Or.inl ⟨z, ⟨by omega, z2, z3, fun i i1 i2 => ?_⟩, hz⟩
        by_cases d : i = x
        · rw [d]; exact hf
        · exact z4 i (by omega) i2
      · refine Or.inr ⟨fun i i1 i2 => ?_, hy⟩
        by_cases d : i = x
        · rw [d]; exact hf
        · exact hn i (by omega) i2
    · refine Sf_some (Or.inl ⟨x, ⟨Nat.le_refl _, hx, ?_, fun i i1 i2 => absurd i1 (by omega)⟩, rfl⟩)
      cases hb : (F x).1 with
      | true => rfl
      | false => exact absurd (e2.mpr hb) g
theorem first_n {lw : Int32} {v : kTv} {code ca cf ct sf Lt vals : Nat → Int32} {s c : Nat} {V : Int32 → Int32} {F : Nat → Bool × Int32} (hT : TXR lw v code ca cf ct sf s c) (hF : ∀ x, x < c → clEv lw v code ca cf ct sf s x V (F x)) (hV : ∀ c, valB c = true → Lt c.toNatClampNeg = V c) : Sf (f_X5_firstThatHolds v.2.1.1 v.2.2.2.1 v.2.2.1.1 v.1 v.2.1.2 v.2.2.2.2 v.2.2.1.2 Lt vals) (fun y => (∃ z, isFst F 0 c z ∧ y.1 = nI z) ∨ (noFst F 0 c ∧ y.1 = -1)) := by
  obtain ⟨t1, t2, t3, t4, t5, t6, -⟩ := hT
  obtain ⟨n, hn⟩ : ∃ n, FU = n + c + 1 := ⟨FU - c - 1, by have := FU_ge; omega⟩
  have h := first_L t1 t3 t5 t6 hF hV c 0 n vals (by omega)
  rw [← hn, nI_0] at h
  rw [f_X5_firstThatHolds]
  exact h
theorem worth_n {lw : Int32} {v : kTv} {code ca cf ct sf Lt vals : Nat → Int32} {s c z : Nat} {V : Int32 → Int32} {F : Nat → Bool × Int32} (hT : TXR lw v code ca cf ct sf s c) (hl : ¬ lw = 0) (hF : ∀ x, x < c → clEv lw v code ca cf ct sf s x V (F x)) (hV : ∀ c, valB c = true → Lt c.toNatClampNeg = V c) (hz : z < c) : ∃ vals' : Nat → Int32, f_X5_worth v.2.1.1 v.2.2.2.1 v.2.2.1.1 v.2.1.2 v.2.2.2.2 v.2.2.1.2 Lt vals (nI z) = some ((F z).2, vals') := by
  obtain ⟨t1, t2, t3, t4, t5, t6, -⟩ := hT
  obtain ⟨vals', e⟩ := ((hF z hz).2.2 hl).1 Lt vals hV
  have j1 : jin (nI z) v.2.2.2.1 = true := by rw [t6]; exact jin_n hz (by omega)
  have j2 : jin (nI z) v.2.2.1.1 = true := by rw [t5]; exact jin_n (by omega) (by omega)
  refine ⟨vals', ?_⟩
  rw [f_X5_worth, rdI_o j2, rdI_o j1, nI_clamp (by omega), e, cb2_o]
