section EX
variable {nc na nc' na' : Nat → Int32} {k L L2 : Nat} {f g : Sem} {c v : Int32}
theorem RR_congr (h : RR nc na k L f) (hc : ∀ i, i < L → nc' (k + i) = nc (k + i) ∧ na' (k + i) = na (k + i)) : RR nc' na' k L f := fun V q arr aarg rf wo off to m n h1 h2 h3 h4 h5 => h V q arr aarg rf wo off to m n h1 (fun i hi => ⟨(h2 i hi).1.trans (hc i hi).1, (h2 i hi).2.trans (hc i hi).2⟩) h3 h4 h5
theorem RR_num (h1 : nc k = 0) (h2 : na k = v) : RR nc na k 1 (fun _ => some v) := by
  intro V q arr aarg rf wo off to m n g1 g2 g3 g4 g5
  have ha := g2 0 (by omega)
  rw [Nat.add_zero, Nat.add_zero, h1, h2] at ha
  refine ⟨upd rf m 0, upd wo m v, fun i hi => ⟨upd_n (by omega), upd_n (by omega)⟩, ?_, fun z hz => ?_, fun hz => by cases hz⟩
  · rw [rL_num g4 (by omega) (by omega) ha.1, ha.2]
  · cases hz; exact ⟨upd_s _ _ _, upd_s _ _ _⟩
theorem RR_let (h1 : nc k = 1) (h2 : na k = c) (hc : valB c = true) : RR nc na k 1 (fun V => some (V c)) := by
  intro V q arr aarg rf wo off to m n g1 g2 g3 g4 g5
  have ha := g2 0 (by omega)
  rw [Nat.add_zero, Nat.add_zero, h1, h2] at ha
  refine ⟨upd rf m 0, upd wo m (V c), fun i hi => ⟨upd_n (by omega), upd_n (by omega)⟩, ?_, fun z hz => ?_, fun hz => by cases hz⟩
  · rw [rL_let g4 (by omega) (by omega) ha.1, ha.2, g1 c hc]
  · cases hz; exact ⟨upd_s _ _ _, upd_s _ _ _⟩
theorem isO_2 {c : Int32} (hc : isO c) : 2 < c.toInt := by rcases hc with h | h | h | h | h | h | h | h <;> subst h <;> decide
theorem RR_bin (hf : RR nc na k L f) (hg : RR nc na (k + L) L2 g) (hw : nc (k + L + L2) = c) (hc : isO c) : RR nc na k (L + L2 + 1) (sBin c f g) := by
  intro V q arr aarg rf wo off to m n g1 g2 g3 g4 g5
  have ha : arr (off + k + L + L2) = c := by have := (g2 (L + L2) (by omega)).1; rw [← Nat.add_assoc, ← Nat.add_assoc] at this; rw [this, hw]
  obtain ⟨rf1, wo1, a1, a2, a3, a4⟩ := hf V q arr aarg rf wo off to m (n + 1 + L2) g1 (fun i hi => g2 i (by omega)) (by omega) g4 (by omega)
  obtain ⟨rf2, wo2, b1, b2, b3, b4⟩ := hg V q arr aarg rf1 wo1 off to (m + 1) (n + 1) g1 (fun i hi => by have := g2 (L + i) (by omega); rw [← Nat.add_assoc, ← Nat.add_assoc] at this; rw [← Nat.add_assoc]; exact this) (by omega) g4 (by omega)
  obtain ⟨t, t1, t2, t3⟩ := does_bin (rf := rf2) (wo := wo2) (m := m) (c := c) (by omega) hc
  have hr := rL_op (q := q) (aarg := aarg) (n := n) g4 (show off + k + L + L2 < to by omega) ha (isO_2 hc) t1
  refine ⟨upd rf2 m t, upd wo2 m (wk c (wo2 m) (wo2 (m + 1))), fun i hi => ?_, ?_, ?_, ?_⟩
  · rw [upd_n (by omega), upd_n (by omega)]
    exact ⟨((b1 i (by omega)).1).trans (a1 i hi).1, ((b1 i (by omega)).2).trans (a1 i hi).2⟩
  · rw [show n + (L + L2 + 1) = n + 1 + L2 + L by omega, a2, show off + k + L = off + (k + L) by omega, b2, show off + (k + L) + L2 = off + k + L + L2 by omega, hr, show off + k + (L + L2 + 1) = off + k + L + L2 + 1 by omega]
  · intro z hz
    rw [upd_s, upd_s]
    unfold sBin at hz
    cases hf1 : f V with
    | none => rw [hf1] at hz; cases hz
    | some a =>
      cases hg1 : g V with
      | none => rw [hf1, hg1] at hz; cases hz
      | some b =>
        rw [hf1, hg1] at hz
        have hz : (if dvz c b then none else some (wk c a b)) = some z := hz
        obtain ⟨p1, p2⟩ := a3 a hf1
        obtain ⟨p3, p4⟩ := b3 b hg1
        have e1 : rf2 m = 0 := by rw [(b1 m (by omega)).1, p1]
        have e2 : wo2 m = a := by rw [(b1 m (by omega)).2, p2]
        by_cases d : dvz c b
        · rw [if_pos d] at hz; cases hz
        · rw [if_neg d] at hz
          cases hz
          rw [e2, p4]
          exact ⟨t2 ⟨e1, p3, by rw [p4]; exact d⟩, rfl⟩
  · intro hz
    rw [upd_s]
    unfold sBin at hz
    refine t3 (fun w => ?_)
    obtain ⟨w1, w2, w3⟩ := w
    cases hf1 : f V with
    | none =>
      have := a4 hf1
      rw [(b1 m (by omega)).1, this] at w1
      exact absurd w1 (by decide)
    | some a =>
      cases hg1 : g V with
      | none =>
        have := b4 hg1
        rw [this] at w2
        exact absurd w2 (by decide)
      | some b =>
        rw [hf1, hg1] at hz
        have hz : (if dvz c b then none else some (wk c a b)) = none := hz
        obtain ⟨p3, p4⟩ := b3 b hg1
        rw [p4] at w3
        rw [if_neg w3] at hz
        cases hz
theorem RR_not (hf : RR nc na k L f) (hw : nc (k + L) = 2) : RR nc na k (L + 1) (sNot f) := by
  intro V q arr aarg rf wo off to m n g1 g2 g3 g4 g5
  have ha : arr (off + k + L) = 2 := by rw [(g2 L (by omega)).1, hw]
  obtain ⟨rf1, wo1, a1, a2, a3, a4⟩ := hf V q arr aarg rf wo off to m (n + 1) g1 (fun i hi => g2 i (by omega)) (by omega) g4 (by omega)
  refine ⟨rf1, upd wo1 m (1 - wo1 m), fun i hi => ⟨(a1 i hi).1, by rw [upd_n (by omega)]; exact (a1 i hi).2⟩, ?_, fun z hz => ?_, fun hz => ?_⟩
  · rw [show n + (L + 1) = n + 1 + L by omega, a2, rL_not g4 (by omega) (by omega) ha]
    rfl
  · unfold sNot at hz
    cases hf1 : f V with
    | none => rw [hf1] at hz; cases hz
    | some a =>
      rw [hf1] at hz
      cases hz
      obtain ⟨p1, p2⟩ := a3 a hf1
      exact ⟨p1, by rw [upd_s, p2]⟩
  · unfold sNot at hz
    cases hf1 : f V with
    | none => exact a4 hf1
    | some a => rw [hf1] at hz; cases hz
theorem RR_join (hf : RR nc na k L f) (hg : RR nc na (k + L) L2 g) (hw : nc (k + L + L2) = c) (hc : c = 38 ∨ c = 124) (hb : isBoo f) : RR nc na k (L + L2 + 1) (if c = 38 then sAnd f g else sOr f g) := by
  intro V q arr aarg rf wo off to m n g1 g2 g3 g4 g5
  have hc2 : 2 < c.toInt := by rcases hc with h | h <;> subst h <;> decide
  have ha : arr (off + k + L + L2) = c := by have := (g2 (L + L2) (by omega)).1; rw [← Nat.add_assoc, ← Nat.add_assoc] at this; rw [this, hw]
  obtain ⟨rf1, wo1, a1, a2, a3, a4⟩ := hf V q arr aarg rf wo off to m (n + 1 + L2) g1 (fun i hi => g2 i (by omega)) (by omega) g4 (by omega)
  obtain ⟨rf2, wo2, b1, b2, b3, b4⟩ := hg V q arr aarg rf1 wo1 off to (m + 1) (n + 1) g1 (fun i hi => by have := g2 (L + i) (by omega); rw [← Nat.add_assoc, ← Nat.add_assoc] at this; rw [← Nat.add_assoc]; exact this) (by omega) g4 (by omega)
  have hd := does_join (rf := rf2) (wo := wo2) (m := m) (c := c) (by omega) hc
  have hrun : ∀ rf' wo', f_X12_does rf2 wo2 c (nI m) = some (rf', wo') → rL q arr aarg to (n + (L + L2 + 1)) m (off + k) rf wo = rL q arr aarg to n (m + 1) (off + k + (L + L2 + 1)) rf' wo' := by
    intro rf' wo' h
    have hr := rL_op (q := q) (aarg := aarg) (n := n) g4 (show off + k + L + L2 < to by omega) ha hc2 h
    rw [show n + (L + L2 + 1) = n + 1 + L2 + L by omega, a2, show off + k + L = off + (k + L) by omega, b2, show off + (k + L) + L2 = off + k + L + L2 by omega, hr, show off + k + (L + L2 + 1) = off + k + L + L2 + 1 by omega]
  have e1 : rf2 m = rf1 m := (b1 m (by omega)).1
  have e2 : wo2 m = wo1 m := (b1 m (by omega)).2
  have keep : ∀ i, i < m → rf2 i = rf i ∧ wo2 i = wo i := fun i hi => ⟨((b1 i (by omega)).1).trans (a1 i hi).1, ((b1 i (by omega)).2).trans (a1 i hi).2⟩
  cases hf1 : f V with
  | none =>
    have h1 := a4 hf1
    have hs : (if c = 38 then sAnd f g else sOr f g) V = none := by
      split
      · unfold sAnd; rw [hf1]
      · unfold sOr; rw [hf1]
    rw [if_neg (by rw [e1, h1]; exact fun w => absurd w.1 (by decide))] at hd
    rw [hs]
    exact ⟨rf2, wo2, keep, hrun _ _ hd, fun z hz => (by cases hz), fun _ => by rw [e1, h1]⟩
  | some a =>
    obtain ⟨p1, p2⟩ := a3 a hf1
    have hab := hb V a hf1
    rw [e1, e2, p1, p2] at hd
    have hs : (if c = 38 then sAnd f g else sOr f g) V = if a = (if c = 38 then 1 else 0) then g V else some a := by
      rcases hc with h | h
      · subst h
        rw [if_pos rfl, if_pos rfl]
        unfold sAnd
        rw [hf1]
        show (if a = 0 then some a else g V) = _
        rcases hab with h | h
        · rw [if_pos h, if_neg (by rw [h]; decide)]
        · rw [if_neg (by rw [h]; decide), if_pos h]
      · subst h
        rw [if_neg (show ¬ (124 : Int32) = 38 by decide), if_neg (show ¬ (124 : Int32) = 38 by decide)]
        unfold sOr
        rw [hf1]
    rw [hs]
    by_cases d : a = (if c = 38 then 1 else 0)
    · rw [if_pos ⟨rfl, d⟩] at hd
      rw [if_pos d]
      refine ⟨_, _, fun i hi => ?_, hrun _ _ hd, fun z hz => ?_, fun hz => ?_⟩
      · rw [upd_n (by omega), upd_n (by omega)]; exact keep i hi
      · obtain ⟨p3, p4⟩ := b3 z hz
        rw [upd_s, upd_s, p3, p4]
        exact ⟨vb0, rfl⟩
      · rw [upd_s, b4 hz]; exact vb1
    · rw [if_neg (fun w => d w.2)] at hd
      rw [if_neg d]
      refine ⟨rf2, wo2, keep, hrun _ _ hd, fun z hz => ?_, fun hz => by cases hz⟩
      cases hz
      exact ⟨by rw [e1, p1], by rw [e2, p2]⟩
end EX
theorem boo_bin {c : Int32} {f g : Sem} (hc : c = 60 ∨ c = 62 ∨ c = 61) : isBoo (sBin c f g) := by
  intro V v h
  unfold sBin at h
  cases hf : f V with
  | none => rw [hf] at h; cases h
  | some a =>
    cases hg : g V with
    | none => rw [hf, hg] at h; cases h
    | some b =>
      rw [hf, hg] at h
      have h : (if dvz c b then none else some (wk c a b)) = some v := h
      rw [if_neg (fun w => by rcases hc with e | e | e <;> subst e <;> exact absurd w.1 (by decide))] at h
      cases h
      have hw := wk_e c a b
      generalize wk c a b = y at hw ⊢
      rw [f_X12_worked] at hw
      rcases hc with e | e | e
      · subst e
        rw [if_neg (by decide), if_neg (by decide), if_neg (by decide), if_neg (by decide), if_neg (by decide), if_pos (by decide)] at hw
        by_cases z : b ≤ a
        · rw [if_pos z] at hw; cases hw; exact Or.inl rfl
        · rw [if_neg z] at hw; cases hw; exact Or.inr rfl
      · subst e
        rw [if_neg (by decide), if_neg (by decide), if_neg (by decide), if_neg (by decide), if_neg (by decide), if_neg (by decide), if_pos (by decide)] at hw
        by_cases z : a ≤ b
        · rw [if_pos z] at hw; cases hw; exact Or.inl rfl
        · rw [if_neg z] at hw; cases hw; exact Or.inr rfl
      · subst e
        rw [if_neg (by decide), if_neg (by decide), if_neg (by decide), if_neg (by decide), if_neg (by decide), if_neg (by decide), if_neg (by decide)] at hw
        by_cases z : a = b
        · rw [if_pos z] at hw; cases hw; exact Or.inr rfl
        · rw [if_neg z] at hw; cases hw; exact Or.inl rfl
theorem boo_not {f : Sem} (h : isBoo f) : isBoo (sNot f) := by
  intro V v hv
  unfold sNot at hv
  cases hf : f V with
  | none => rw [hf] at hv; cases hv
  | some a =>
    rw [hf] at hv
    cases hv
    rcases h V a hf with e | e
    · rw [e]; exact Or.inr (by decide)
    · rw [e]; exact Or.inl (by decide)
theorem boo_join {c : Int32} {f g : Sem} (hf : isBoo f) (hg : isBoo g) : isBoo (if c = 38 then sAnd f g else sOr f g) := by
  intro V v hv
  split at hv
  · unfold sAnd at hv
    cases h1 : f V with
    | none => rw [h1] at hv; cases hv
    | some a =>
      rw [h1] at hv
      have hv : (if a = 0 then some a else g V) = some v := hv
      by_cases d : a = 0
      · rw [if_pos d] at hv; cases hv; exact hf V _ h1
      · rw [if_neg d] at hv; exact hg V v hv
  · unfold sOr at hv
    cases h1 : f V with
    | none => rw [h1] at hv; cases hv
    | some a =>
      rw [h1] at hv
      have hv : (if a = 0 then g V else some a) = some v := hv
      by_cases d : a = 0
      · rw [if_pos d] at hv; exact hg V v hv
      · rw [if_neg d] at hv; cases hv; exact hf V _ h1
