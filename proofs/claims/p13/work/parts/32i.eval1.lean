/-! what a text says: the class's words and the reference's -/
theorem bv_small {s : Int32} {n : Nat} (hn : n ≤ 31) (h0 : 0 ≤ s.toInt) (h1 : s.toInt < ((2 ^ n : Nat) : Int)) {i : Nat} (hi : n ≤ i) : s.toBitVec.getLsbD i = false := by
  have e : s.toInt = s.toBitVec.toInt := rfl
  rw [e, BitVec.toInt_eq_toNat_cond] at h0 h1
  have hlt := s.toBitVec.isLt
  have hN : s.toBitVec.toNat < 2 ^ n := by
    split at h0
    · rename_i c
      rw [if_pos c] at h1
      omega
    · rename_i c
      exfalso
      have : (2 : Nat) ^ 32 = 4294967296 := by decide
      omega
  rw [← BitVec.testBit_toNat]
  exact Nat.testBit_lt_two_pow (Nat.lt_of_lt_of_le hN (Nat.pow_le_pow_right (by omega) hi))
theorem w_lo (v s : Int32) (h0 : 0 ≤ s.toInt) (h1 : s.toInt < 256) : (jshl v 8 ||| s) &&& 255 = s := by
  apply Int32.toBitVec_inj.mp
  have e1 : ((jshl v 8 ||| s) &&& 255).toBitVec = (v.toBitVec <<< 8 ||| s.toBitVec) &&& 255#32 := rfl
  rw [e1]
  apply BitVec.eq_of_getLsbD_eq
  intro i hi
  rw [BitVec.getLsbD_and, BitVec.getLsbD_or, BitVec.getLsbD_shiftLeft, lo8 i hi]
  by_cases c : i < 8
  · simp only [c, decide_true, Bool.not_true, Bool.and_false, Bool.false_and, Bool.false_or, Bool.and_true]
  · rw [bv_small (n := 8) (by omega) h0 (by omega) (by omega)]
    simp only [c, decide_false, Bool.and_false]
theorem w_hi (v s : Int32) (h0 : 0 ≤ s.toInt) (h1 : s.toInt < 256) (g0 : 0 ≤ v.toInt) (g1 : v.toInt < 8388608) : jushr (jshl v 8 ||| s) 8 = v := by
  apply Int32.toBitVec_inj.mp
  have e1 : (jushr (jshl v 8 ||| s) 8).toBitVec = (v.toBitVec <<< 8 ||| s.toBitVec) >>> 8 := rfl
  rw [e1]
  apply BitVec.eq_of_getLsbD_eq
  intro i hi
  rw [BitVec.getLsbD_ushiftRight, BitVec.getLsbD_or, BitVec.getLsbD_shiftLeft, bv_small (s := s) (n := 8) (by omega) h0 (by omega) (by omega), Bool.or_false, Nat.add_sub_cancel_left]
  by_cases c : 8 + i < 32
  · have c2 : ¬ 8 + i < 8 := by omega
    simp only [c, c2, decide_true, decide_false, Bool.not_false, Bool.true_and]
  · rw [bv_small (s := v) (n := 23) (by omega) g0 (by omega) (by omega), Bool.and_false]
abbrev Sem : Type := (Int32 → Int32) → Option Int32
noncomputable def wk (c a b : Int32) : Int32 := (f_X12_worked c a b).getD 0
theorem wk_e (c a b : Int32) : f_X12_worked c a b = some (wk c a b) := by
  obtain ⟨v, e, -⟩ := s_X12_worked c a b
  unfold wk
  rw [e]; rfl
theorem jn_e (c a b : Int32) : f_X5_joined c a b = some (wk c a b) := by
  rw [← wk_e]; rfl
abbrev dvz (c b : Int32) : Prop := (c = 47 ∨ c = 37) ∧ b = 0
noncomputable def sBin (c : Int32) (f g : Sem) : Sem := fun V => match f V, g V with
  | some a, some b => if dvz c b then none else some (wk c a b)
  | _, _ => none
def sNot (f : Sem) : Sem := fun V => (f V).map (fun v => 1 - v)
def sAnd (f g : Sem) : Sem := fun V => match f V with
  | none => none
  | some a => if a = 0 then some a else g V
def sOr (f g : Sem) : Sem := fun V => match f V with
  | none => none
  | some a => if a = 0 then g V else some a
def isBoo (f : Sem) : Prop := ∀ V v, f V = some v → v = 0 ∨ v = 1
/-- the class's loop over words -/
noncomputable def cL (nn : Nat) (arr Lt : Nat → Int32) (to : Nat) (K : Int32 → (Nat → Int32) → Option (Int32 × (Nat → Int32))) (n m lp i : Nat) (vals : Nat → Int32) : Option (Int32 × (Nat → Int32)) := f_X5_reckon_L9 nn arr Lt (nI to) K n (nI m) (nI lp) (nI i) vals
def CR (code : Nat → Int32) (u L B : Nat) (f : Sem) : Prop :=
  ∀ (V : Int32 → Int32) (Lt arr vals : Nat → Int32) (nn to m n lp : Nat) (K : Int32 → (Nat → Int32) → Option (Int32 × (Nat → Int32))), (∀ c, valB c = true → Lt c.toNatClampNeg = V c) → (∀ i, i < L → arr (u + i) = code (u + i)) → u + L ≤ to → to ≤ nn → nn ≤ 120 → m + B ≤ 32 → lp ≤ u →
    (∀ v, f V = some v → ∃ (vals' : Nat → Int32) (lp' : Nat), (∀ i, i < m → vals' i = vals i) ∧ vals' m = v ∧ lp' ≤ u + L ∧ cL nn arr Lt to K (n + L) m lp u vals = cL nn arr Lt to K n (m + 1) lp' (u + L) vals') ∧
    (f V = none → ∃ vals' : Nat → Int32, cL nn arr Lt to K (n + L) m lp u vals = some (0, vals'))
section EV
variable {nn to m n lp i : Nat} {arr Lt vals : Nat → Int32} {K : Int32 → (Nat → Int32) → Option (Int32 × (Nat → Int32))}
/-- one word -/
theorem cL_w {w s v : Int32} (hto : to ≤ nn) (hnn : nn ≤ 120) (hi : i < to) (hlp : lp ≤ i) (hw : arr i = w) (hs : w &&& 255 = s) (hv : jushr w 8 = v) : cL nn arr Lt to K (n + 1) m lp i vals =
    (if s = 48 then f_X5_reckon_J65 Lt s v (f_X5_reckon_L9 nn arr Lt (nI to) K n) (nI m) (nI lp) (nI i) vals
     else if s = 97 then f_X5_reckon_J65 Lt s v (f_X5_reckon_L9 nn arr Lt (nI to) K n) (nI m) (nI lp) (nI i) vals
     else if 1 ≤ nI m then
       (if s = 33 then rdI vals 32 (nI m - 1) fun a => nmI (1 - a) fun b => wrI vals 32 (nI m - 1) b fun g => nmI (nI i + 1) fun j => f_X5_reckon_L9 nn arr Lt (nI to) K n (nI m) (nI lp) j g
        else if s = 38 then f_X5_reckon_J161 (nI lp) s v (f_X5_reckon_L9 nn arr Lt (nI to) K n) (nI m) (nI i) vals
        else if s = 124 then f_X5_reckon_J161 (nI lp) s v (f_X5_reckon_L9 nn arr Lt (nI to) K n) (nI m) (nI i) vals
        else if nI m < 2 then some (0, vals)
        else cb1 (f_X5_isDivision s) fun r => if r = 0 then f_X5_reckon_J234 (nI m) (nI lp) (nI i) vals s (f_X5_reckon_L9 nn arr Lt (nI to) K n) else rdI vals 32 (nI m - 1) fun z => if z = 0 then some (0, vals) else f_X5_reckon_J234 (nI m) (nI lp) (nI i) vals s (f_X5_reckon_L9 nn arr Lt (nI to) K n))
     else some (0, vals)) := by
  unfold cL
  have jl : jin (nI i) nn = true := jin_n (by omega) (by omega)
  rw [f_X5_reckon_L9, if_neg (nI_ge hi (by omega)), if_neg (show ¬ Int32.ofNat nn ≤ nI i from nI_ge (b := nn) (by omega) (by omega)), if_pos (nI_le hlp (by omega)), rdI_o jl, nmI_o, rdI_o jl, nmI_o, nI_clamp (by omega), hw, hs, hv]
/-- over a word that is not asked -/
theorem cL_skip (hto : to ≤ nn) (hnn : nn ≤ 120) (hi : i < to) (hlp : i < lp) (hl2 : lp ≤ 120) : cL nn arr Lt to K (n + 1) m lp i vals = cL nn arr Lt to K n m lp (i + 1) vals := by
  unfold cL
  rw [f_X5_reckon_L9, if_neg (nI_ge hi (by omega)), if_neg (show ¬ Int32.ofNat nn ≤ nI i from nI_ge (b := nn) (by omega) (by omega)), if_neg (nI_ge hlp (by omega)), nmI_o, nI_1]
theorem cL_skips (hto : to ≤ nn) (hnn : nn ≤ 120) (hl2 : lp ≤ to) : ∀ (d i n : Nat), i + d = lp → cL nn arr Lt to K (n + d) m lp i vals = cL nn arr Lt to K n m lp lp vals := by
  intro d
  induction d with
  | zero => intro i n h; rw [Nat.add_zero] at h; rw [h]; rfl
  | succ d ih =>
    intro i n h
    rw [show n + (d + 1) = (n + d) + 1 by omega, cL_skip hto hnn (by omega) (by omega) (by omega)]
    exact ih (i + 1) n (by omega)
theorem cL_push {v w : Int32} (hto : to ≤ nn) (hnn : nn ≤ 120) (hi : i < to) (hlp : lp ≤ i) (hm : m < 32) (hw : (arr i &&& 255 = 48 ∧ jushr (arr i) 8 = v) ∨ (arr i &&& 255 = 97 ∧ jushr (arr i) 8 = w ∧ valB w = true ∧ Lt w.toNatClampNeg = v)) : cL nn arr Lt to K (n + 1) m lp i vals = cL nn arr Lt to K n (m + 1) lp (i + 1) (upd vals m v) := by
  have hJ : f_X5_reckon_J102 (nI m) (nI lp) (nI i) vals (f_X5_reckon_L9 nn arr Lt (nI to) K n) v = cL nn arr Lt to K n (m + 1) lp (i + 1) (upd vals m v) := by
    unfold cL
    rw [f_X5_reckon_J102, wrI_o (jin_n hm (by omega)), nmI_o, nmI_o, nI_1, nI_1, nI_clamp (by omega)]
  have h32 : nI m < 32 := nI_lt (b := 32) hm (by omega)
  rcases hw with ⟨h1, h2⟩ | ⟨h1, h2, h3, h4⟩
  · rw [cL_w hto hnn hi hlp rfl h1 h2, if_pos rfl, f_X5_reckon_J65, if_pos h32, if_pos rfl, hJ]
  · have hl : jin (w &&& 127) 128 = true ∧ (w &&& 127) = w := by
      have : ∀ c, valB c = true → jin (c &&& 127) 128 = true ∧ (c &&& 127) = c := by
        intro c hc
        have hc' := hc
        unfold valB at hc
        simp only [Bool.or_eq_true, beq_iff_eq] at hc
        rcases hc with ((((((((((((h | h) | h) | h) | h) | h) | h) | h) | h) | h) | h) | h) | h) <;> subst h <;> decide
      exact this w h3
    rw [cL_w hto hnn hi hlp rfl h1 h2, if_neg (by decide), if_pos rfl, f_X5_reckon_J65, if_pos h32, if_neg (by decide), rdI_o hl.1, hl.2, h4, hJ]
def isO (c : Int32) : Prop := c = 42 ∨ c = 47 ∨ c = 37 ∨ c = 43 ∨ c = 45 ∨ c = 60 ∨ c = 62 ∨ c = 61
theorem cL_bin {c : Int32} (hto : to ≤ nn) (hnn : nn ≤ 120) (hi : i < to) (hlp : lp ≤ i) (hm : m + 2 ≤ 32) (hw : arr i = jshl 0 8 ||| c) (hc : isO c) :
    (dvz c (vals (m + 1)) → cL nn arr Lt to K (n + 1) (m + 2) lp i vals = some (0, vals)) ∧ (¬ dvz c (vals (m + 1)) → cL nn arr Lt to K (n + 1) (m + 2) lp i vals = cL nn arr Lt to K n (m + 1) lp (i + 1) (upd vals m (wk c (vals m) (vals (m + 1))))) := by
  have hcb : 0 ≤ c.toInt ∧ c.toInt < 256 := by rcases hc with h | h | h | h | h | h | h | h <;> subst h <;> decide
  have hs : (jshl 0 8 ||| c) &&& 255 = c := w_lo 0 c hcb.1 hcb.2
  have ne : ¬ c = 48 ∧ ¬ c = 97 ∧ ¬ c = 33 ∧ ¬ c = 38 ∧ ¬ c = 124 := by rcases hc with h | h | h | h | h | h | h | h <;> subst h <;> decide
  have h1 : (1 : Int32) ≤ nI (m + 2) := nI_le (a := 1) (by omega) (by omega)
  have h2 : ¬ nI (m + 2) < 2 := nI_nlt (b := 2) (by omega) (by omega)
  have hJ : f_X5_reckon_J234 (nI (m + 2)) (nI lp) (nI i) vals c (f_X5_reckon_L9 nn arr Lt (nI to) K n) = cL nn arr Lt to K n (m + 1) lp (i + 1) (upd vals m (wk c (vals m) (vals (m + 1)))) := by
    unfold cL
    rw [f_X5_reckon_J234, nmI_o, show m + 2 = (m + 1) + 1 by omega, pk_m1, nI_pred, rdI_o (jin_n (by omega) (by omega)), rdI_o (jin_n (by omega) (by omega)), nI_clamp (by omega), nI_clamp (by omega), jn_e, cb1_o, wrI_o (jin_n (by omega) (by omega)), nmI_o, nI_1, nI_clamp (by omega)]
  have hD : f_X5_isDivision c = some (bI (c = 47 ∨ c = 37)) := by
    rw [f_X5_isDivision]
    unfold bI
    by_cases d1 : c = 47
    · rw [if_pos d1, if_pos (Or.inl d1)]
    · rw [if_neg d1]
      by_cases d2 : c = 37
      · rw [if_pos d2, if_pos (Or.inr d2)]
      · rw [if_neg d2, if_neg (fun w => by rcases w with w | w; exact d1 w; exact d2 w)]
  have hW : cL nn arr Lt to K (n + 1) (m + 2) lp i vals = (if bI (c = 47 ∨ c = 37) = 0 then cL nn arr Lt to K n (m + 1) lp (i + 1) (upd vals m (wk c (vals m) (vals (m + 1)))) else if vals (m + 1) = 0 then some (0, vals) else cL nn arr Lt to K n (m + 1) lp (i + 1) (upd vals m (wk c (vals m) (vals (m + 1))))) := by
    rw [cL_w hto hnn hi hlp hw hs rfl, if_neg ne.1, if_neg ne.2.1, if_pos h1, if_neg ne.2.2.1, if_neg ne.2.2.2.1, if_neg ne.2.2.2.2, if_neg h2, hD, cb1_o, show m + 2 = (m + 1) + 1 by omega, nI_pred, rdI_o (jin_n (by omega) (by omega)), nI_clamp (by omega), ← hJ]
  rw [hW]
  constructor
  · intro d
    rw [if_neg (by rw [bI_0]; exact fun w => w d.1), if_pos d.2]
  · intro d
    by_cases d1 : c = 47 ∨ c = 37
    · rw [if_neg (by rw [bI_0]; exact fun w => w d1), if_neg (fun w => d ⟨d1, w⟩)]
    · rw [if_pos (by rw [bI_0]; exact d1)]
theorem cL_not (hto : to ≤ nn) (hnn : nn ≤ 120) (hi : i < to) (hlp : lp ≤ i) (hm : m + 1 ≤ 32) (hw : arr i = jshl 0 8 ||| 33) : cL nn arr Lt to K (n + 1) (m + 1) lp i vals = cL nn arr Lt to K n (m + 1) lp (i + 1) (upd vals m (1 - vals m)) := by
  rw [cL_w hto hnn hi hlp hw (w_lo 0 33 (by decide) (by decide)) rfl, if_neg (by decide), if_neg (by decide), if_pos (show (1 : Int32) ≤ nI (m + 1) from nI_le (a := 1) (by omega) (by omega)), if_pos rfl, nI_pred, rdI_o (jin_n (by omega) (by omega)), nmI_o, wrI_o (jin_n (by omega) (by omega)), nmI_o, nI_1, nI_clamp (by omega)]
  rfl
/-- an & or a |: leapt over, or asked on -/
theorem cL_leap {c : Int32} {g : Nat} (hto : to ≤ nn) (hnn : nn ≤ 120) (hi : i < to) (hlp : lp ≤ i) (hm : m + 1 ≤ 32) (hg : g ≤ 120) (hw : arr i = jshl (nI g) 8 ||| c) (hc : c = 38 ∨ c = 124) :
    cL nn arr Lt to K (n + 1) (m + 1) lp i vals = if (vals m = 0 ∧ c = 38) ∨ (¬ vals m = 0 ∧ c = 124) then cL nn arr Lt to K n (m + 1) g (i + 1) vals else cL nn arr Lt to K n m lp (i + 1) vals := by
  have hcb : 0 ≤ c.toInt ∧ c.toInt < 256 := by rcases hc with h | h <;> subst h <;> decide
  have tg : (nI g).toInt = (g : Int) := nI_toInt (by omega)
  have ne : ¬ c = 48 ∧ ¬ c = 97 ∧ ¬ c = 33 := by rcases hc with h | h <;> subst h <;> decide
  rw [cL_w hto hnn hi hlp hw (w_lo (nI g) c hcb.1 hcb.2) (w_hi (nI g) c hcb.1 hcb.2 (by omega) (by omega)), if_neg ne.1, if_neg ne.2.1, if_pos (show (1 : Int32) ≤ nI (m + 1) from nI_le (a := 1) (by omega) (by omega)), if_neg ne.2.2]
  have hJ : f_X5_reckon_J161 (nI lp) c (nI g) (f_X5_reckon_L9 nn arr Lt (nI to) K n) (nI (m + 1)) (nI i) vals = if (vals m = 0 ∧ c = 38) ∨ (¬ vals m = 0 ∧ c = 124) then cL nn arr Lt to K n (m + 1) g (i + 1) vals else cL nn arr Lt to K n m lp (i + 1) vals := by
    unfold cL
    rw [f_X5_reckon_J161, nI_pred, rdI_o (jin_n (by omega) (by omega)), nI_clamp (by omega), f_X5_reckon_J178, f_X5_reckon_J178]
    simp only [f_X5_reckon_J190, nmI_o, pk_m1, nI_1]
    by_cases a : vals m = 0
    · rcases hc with h | h
      · subst h
        rw [if_pos a, if_neg (by decide), if_pos trivial, if_pos (Or.inl ⟨a, rfl⟩)]
      · subst h
        rw [if_pos a, if_pos rfl, if_neg (by decide), if_neg (by rintro (w | w); exact absurd w.2 (by decide); exact w.1 a)]
    · rcases hc with h | h
      · subst h
        rw [if_neg a, if_neg (by decide), if_neg (by decide), if_neg (by rintro (w | w); exact a w.1; exact absurd w.2 (by decide))]
      · subst h
        rw [if_neg a, if_pos rfl, if_pos trivial, if_pos (Or.inr ⟨a, rfl⟩)]
  rcases hc with h | h
  · rw [if_pos h]; exact hJ
  · rw [if_neg (by rw [h]; decide), if_pos h]; exact hJ
end EV
