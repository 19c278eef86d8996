section S5
variable {e o : Nat} {b t : Nat → Int32}
theorem tpN_congr {st st' : Nat → Int32} {m : Nat} (h : ∀ i, i < m → st' i = st i) : tpN st' m = tpN st m := by
  unfold tpN
  by_cases c : m = 0
  · rw [if_pos c, if_pos c]
  · rw [if_neg c, if_neg c]; exact h _ (by omega)
theorem isA_O {c : Int32} (h : isA c) : isO c := by
  rcases h with h | h | h | h | h
  · exact Or.inl h
  · exact Or.inr (Or.inl h)
  · exact Or.inr (Or.inr (Or.inl h))
  · exact Or.inr (Or.inr (Or.inr (Or.inl h)))
  · exact Or.inr (Or.inr (Or.inr (Or.inr (Or.inl h))))
set_option maxHeartbeats 4000000 in
theorem rowE_L {G1 : GT4} {kd kdO : Nat} {fl p1 : Int32} {opk preO : Int32 → Prop} (he : e ≤ 120) (hb : TBy b t)
    (hj0 : ∀ c, ¬ opk c → f_X6_joins p1 c = some 0) (hj1 : ∀ c, opk c → f_X6_joins p1 c = some 1) (h01 : ¬ p1 = 0) (h11 : ¬ p1 = 1)
    (hA : ∀ c, opk c → isA c ∧ fl = bI (c = 43 ∨ c = 45) ∧ preO c ∧ 2 < c.toInt)
    (hpend : ∀ (j : Nat) (st : Nat → Int32) (m : Nat), pendOK kd j st m → j ≤ 2 ∧ ∀ i, i < j → opq fl (st (m + i)))
    (hjn : ∀ (j : Nat) (st : Nat → Int32) (m : Nat), pendOK kdO j st (m + 1) → opk (st m) → pendOK kd (j + 1) st m)
    (hstop : ∀ h, stopc kdO h → ¬ opk h → stopc kd h)
    (hkd : kdO = kd + 1) (hkd3 : kd ≤ 3) (hO : eHyp e b t kdO preO o (fun n l a u f b c => G1 n l a u f b c p1 (nI o)))
    {u k p m : Nat} {code na nc st : Nat → Int32} (hkm : k + m ≤ p) (hpe : p ≤ e) (hup : u ≤ p) (htop : ¬ opq fl (tpN st m)) :
    ∀ (n i a k' j : Nat) (fault' us : Int32) (code' na' nc' st' : Nat → Int32), i < a → e + 1 < n + i → eOK e t kdO kd code u k o p m na nc st a k' j na' nc' st' us code' → Sf (b_X6_rowStands_L13 (nI e) 200 b p1 (nI o) G1 n (nI i) (nI a) fault' us code') (ePost e t kd code u k o p m na nc st) := by
  intro n
  induction n with
  | zero => intro i a k' j fault' us code' na' nc' st' h1 h2 h3; obtain ⟨q1, q2, -⟩ := h3; exact absurd h2 (by omega)
  | succ n ih =>
    intro i a k' j fault' us code' na' nc' st' h1 h2 h3
    have hok := h3
    obtain ⟨q1, q2, q3, q4, q5, q6, q7, q8, q9, q10, q11, q12⟩ := h3
    rw [b_X6_rowStands_L13, if_neg (nI_ge (a := i) (b := e) (by omega) (by omega)), next_n he q2, cb1_o]
    by_cases c : opk (hN t e a)
    · obtain ⟨c1, c2, c3, c4⟩ := hA _ c
      have zz : (0 : Int32).toInt = 0 := by decide
      have hal : a < e := hN_lt (t := t) (fun w => by have := eqI w; omega)
      rw [nh hb, if_pos hal, hj1 _ c, cb1_o, if_neg (by decide), cb1_o, if_neg h01, if_neg h11, b_X6_rowStands_J58, if_pos rfl, b_X6_rowStands_J72, nmI_o, nI_1, q8]
      obtain ⟨hj2, hpo⟩ := hpend j st' m q7
      have htop' : ¬ opq fl (tpN st' m) := by rw [tpN_congr q6]; exact htop
      have hs := fun n => stay_op (o := o) (k := k') (na := na') (nc := nc') (c := hN t e a) (fl := fl) (j := j) (st := st') (m := m) he hal rfl c1 c2 htop' hpo (by omega) (by omega) n
      have htc : tpN (upd st' m (hN t e a)) (m + 1) = hN t e a := by unfold tpN; rw [if_neg (by omega), Nat.add_sub_cancel, upd_s]
      refine Sf_cb5 (hO (u + (k' + j - k)) (k' + j) (a + 1) (m + 1) fault' code' (emC z0 m j na' k') (emC st' m j nc' k') (upd st' m (hN t e a)) (by omega) (by omega) (by omega) (by rw [htc]; exact c3)) (fun r a' u' f' code2 hp => ?_)
      rcases hp with ⟨r0, a2, ea, hae, hf, hv⟩ | ⟨r1, a2, k2, j2, na2, nc2, st2, ea, g1, g2, g3, g4, g5, g6, g7, g8, g9, g10, g11, g12⟩
      · have r0 : r = 0 := r0
        have ea : a' = nI a2 := ea
        rw [if_pos r0]
        exact Sf_some (Or.inl ⟨rfl, a2, ea, hae, hf, vbad_op rfl q5 hs hv⟩)
      · have r1 : r = 1 := r1
        have ea : a' = nI a2 := ea
        have g8 : u' = nI (u + (k' + j - k) + (k2 + j2 - (k' + j))) := g8
        have g9 : ∀ i, i < u + (k' + j - k) → code2 i = code' i := g9
        have g11 : ∃ f : Sem, CR code2 (u + (k' + j - k)) (k2 + j2 - (k' + j)) (bd kdO o) f ∧ RR (emC st2 (m + 1) j2 nc2 k2) (emC z0 (m + 1) j2 na2 k2) (k' + j) (k2 + j2 - (k' + j)) f := g11
        obtain ⟨f1, hC1, hR1⟩ := q11
        obtain ⟨f2, hC2, hR2⟩ := g11
        have hst2 : st2 m = hN t e a := by rw [g6 m (by omega), upd_s]
        rw [if_neg (by rw [r1]; decide), if_pos rfl, g8, put_n (by omega), cb2_o, nmI_o, nI_1, ea]
        refine ih (i + 1) a2 k2 (j2 + 1) f' _ _ na2 nc2 st2 (by omega) (by omega) ?_
        have eX : emC st2 m (j2 + 1) nc2 k2 = upd (emC st2 (m + 1) j2 nc2 k2) (k2 + j2) (hN t e a) := by rw [emC_snoc, hst2]
        have eY : emC z0 m (j2 + 1) na2 k2 = upd (emC z0 (m + 1) j2 na2 k2) (k2 + j2) 0 := emC_snoc
        refine ⟨by omega, g2, by omega, by omega, ?_, fun i hi => ?_, hjn j2 st2 m g7 (by rw [hst2]; exact c), ?_, fun i hi => ?_, fun i hi => ?_, ?_, g12⟩
        · have := vrun_op rfl q5 hs g5
          rw [show m + (j2 + 1) = m + 1 + j2 by omega]
          exact this
        · rw [g6 i (by omega), upd_n (by omega)]; exact q6 i hi
        · rw [show u + (k' + j - k) + (k2 + j2 - (k' + j)) + 1 = u + (k2 + (j2 + 1) - k) by omega]
        · rw [upd_n (by omega), g9 i (by omega)]; exact q9 i hi
        · obtain ⟨w1, w2⟩ := g10 i (by omega)
          rw [w1, w2, emC_lo (by omega), emC_lo (by omega)]; exact q10 i hi
        · rw [eX, eY, show k2 + (j2 + 1) - k = (k' + j - k) + (k2 + j2 - (k' + j)) + 1 by omega]
          refine ⟨sBin (hN t e a) f1 f2, ?_, ?_⟩
          · refine CR_bin (CR_congr hC1 (fun i hi => ?_)) (CR_congr hC2 (fun i hi => upd_n (by omega))) (upd_s _ _ _) (isA_O c1) (show bd kdO o + 1 ≤ bd kd o by unfold bd; omega) (by unfold bd; omega)
            rw [upd_n (by omega), g9 _ (by omega)]
          · refine RR_bin (RR_congr hR1 (fun i hi => ?_)) ?_ ?_ (isA_O c1)
            · have w := g10 (k + i) (by omega)
              refine ⟨?_, ?_⟩
              · rw [upd_n (by omega), emC_lo (st := st2) (by omega)]; exact w.1
              · rw [upd_n (by omega), emC_lo (m := m + 1) (by omega)]; exact w.2
            · rw [show k + (k' + j - k) = k' + j by omega]
              exact RR_congr hR2 (fun i hi => ⟨upd_n (by omega), upd_n (by omega)⟩)
            · rw [show k + (k' + j - k) + (k2 + j2 - (k' + j)) = k2 + j2 by omega, upd_s]
    · have cn : ¬ opk (nN b e a) := by
        rw [nh hb]
        by_cases d : a < e
        · rw [if_pos d]; exact c
        · rw [if_neg d]
          intro w
          have := (hA _ w).2.2.2
          have zm : (-1 : Int32).toInt = -1 := by decide
          omega
      rw [hj0 _ cn, cb1_o, if_pos rfl]
      exact Sf_some (Or.inr ⟨rfl, a, k', j, na', nc', st', rfl, q1, q2, q3, q4, q5, q6, q7, q8, q9, q10, q11, hstop _ q12 c⟩)
theorem rowE {G0 G1 : GT4} {G2 G3 : GT3} {kd kdO : Nat} {fl p1 : Int32} {opk preO : Int32 → Prop} (he : e ≤ 120) (hb : TBy b t)
    (hj0 : ∀ c, ¬ opk c → f_X6_joins p1 c = some 0) (hj1 : ∀ c, opk c → f_X6_joins p1 c = some 1) (h01 : ¬ p1 = 0) (h11 : ¬ p1 = 1)
    (hA : ∀ c, opk c → isA c ∧ fl = bI (c = 43 ∨ c = 45) ∧ preO c ∧ 2 < c.toInt)
    (hpend : ∀ (j : Nat) (st : Nat → Int32) (m : Nat), pendOK kd j st m → j ≤ 2 ∧ ∀ i, i < j → opq fl (st (m + i)))
    (hjn : ∀ (j : Nat) (st : Nat → Int32) (m : Nat), pendOK kdO j st (m + 1) → opk (st m) → pendOK kd (j + 1) st m)
    (hp0 : ∀ (j : Nat) (st : Nat → Int32) (m : Nat), pendOK kdO j st m → pendOK kd j st m)
    (hstop : ∀ h, stopc kdO h → ¬ opk h → stopc kd h)
    (hkd : kdO = kd + 1) (hkd3 : kd ≤ 3) (hO : eHyp e b t kdO preO o (fun n l a u f b c => G1 n l a u f b c p1 (nI o)))
    (hpre : ∀ x, ¬ opq fl x → preO x) : eHyp e b t kd (fun x => ¬ opq fl x) o (fun n l a u f b c => b_X6_rowStands G0 G1 G2 G3 n l a u f b c p1 (nI o)) := by
  intro u k p m fault code na nc st h1 h2 h3 h4
  show Sf (b_X6_rowStands G0 G1 G2 G3 200 (nI e) (nI p) (nI u) fault b code p1 (nI o)) _
  rw [b_X6_rowStands]
  refine Sf_cb5 (hO u k p m fault code na nc st h1 h2 h3 (hpre _ h4)) (fun r a' u' f' code' hp => ?_)
  rcases hp with ⟨r0, a, ea, hae, hf, hv⟩ | ⟨r1, a, k', j, na', nc', st', ea, hok⟩
  · have r0 : r = 0 := r0
    have ea : a' = nI a := ea
    rw [if_pos r0]
    exact Sf_some (Or.inl ⟨rfl, a, ea, hae, hf, hv⟩)
  · have r1 : r = 1 := r1
    have ea : a' = nI a := ea
    obtain ⟨q1, q2, q3, q4, q5, q6, q7, q8, q9, q10, q11, q12⟩ := hok
    rw [if_neg (by rw [r1]; decide), ea]
    have hFU := FU_ge
    obtain ⟨f0, hC0, hR0⟩ := q11
    exact rowE_L he hb hj0 hj1 h01 h11 hA hpend hjn hstop hkd hkd3 hO h1 h2 h3 h4 FU 0 a k' j f' u' code' na' nc' st' (by omega) (by omega) ⟨q1, q2, q3, q4, q5, q6, hp0 _ _ _ q7, q8, q9, q10, ⟨f0, CR_mono hC0 (by unfold bd; omega), hR0⟩, q12⟩
theorem opq0 {x : Int32} : opq 0 x ↔ isT x := ⟨fun h => by rcases h with h | h; exact h; exact absurd rfl h.1, fun h => Or.inl h⟩
theorem opq1 {x : Int32} : opq 1 x ↔ isA x := ⟨fun h => by rcases h with h | h; exact isT_A h; exact isP_A h.2, isA_opq⟩
theorem simRT {G0 G1 : GT4} {G2 G3 : GT3} (he : e ≤ 120) (hb : TBy b t) (hO : eHyp e b t 4 (fun _ => True) o (fun n l a u f b c => G1 n l a u f b c 3 (nI o))) : eHyp e b t 3 (fun x => ¬ isT x) o (fun n l a u f b c => b_X6_rowStands G0 G1 G2 G3 n l a u f b c 3 (nI o)) := by
  have h := rowE (G0 := G0) (G2 := G2) (G3 := G3) (kd := 3) (kdO := 4) (fl := 0) (p1 := 3) (opk := isT) (preO := fun _ => True) he hb ?_ ?_ (by decide) (by decide) ?_ ?_ ?_ ?_ ?_ rfl (by omega) hO (fun _ _ => trivial)
  · intro u k p m fault code na nc st h1 h2 h3 h4
    exact h u k p m fault code na nc st h1 h2 h3 (fun w => h4 (opq0.mp w))
  · intro c hc
    rw [f_X6_joins, if_neg (by decide), if_neg (by decide), if_neg (by decide), if_neg (fun w => hc (Or.inl w)), if_neg (fun w => hc (Or.inr (Or.inl w))), if_neg (fun w => hc (Or.inr (Or.inr w)))]
  · intro c hc
    rcases hc with h | h | h <;> subst h <;> decide
  · intro c hc
    refine ⟨isT_A hc, ?_, trivial, ?_⟩
    · rcases hc with h | h | h <;> subst h <;> decide
    · rcases hc with h | h | h <;> subst h <;> decide
  · intro j st m hp
    rcases hp with hp | hp | hp
    · exact absurd hp.1 (by omega)
    · exact ⟨by omega, fun i hi => Or.inl (hp.2.2 i hi)⟩
    · exact absurd hp.1 (by omega)
  · intro j st m hp hc
    rcases hp with hp | hp | hp
    · refine Or.inr (Or.inl ⟨rfl, by omega, fun i hi => ?_⟩)
      have : i = 0 := by omega
      subst this
      exact hc
    · exact absurd hp.1 (by omega)
    · exact absurd hp.1 (by omega)
  · intro j st m hp
    rcases hp with hp | hp | hp
    · exact Or.inr (Or.inl ⟨rfl, by omega, fun i hi => absurd hi (by omega)⟩)
    · exact absurd hp.1 (by omega)
    · exact absurd hp.1 (by omega)
  · intro h _ hc
    exact ⟨fun _ => hc, fun w => absurd w (by omega)⟩
theorem simRS {G0 G1 : GT4} {G2 G3 : GT3} (he : e ≤ 120) (hb : TBy b t) (hO : eHyp e b t 3 (fun x => ¬ isT x) o (fun n l a u f b c => G1 n l a u f b c 2 (nI o))) : eHyp e b t 2 (fun x => ¬ isA x) o (fun n l a u f b c => b_X6_rowStands G0 G1 G2 G3 n l a u f b c 2 (nI o)) := by
  have h := rowE (G0 := G0) (G2 := G2) (G3 := G3) (kd := 2) (kdO := 3) (fl := 1) (p1 := 2) (opk := isP) (preO := fun x => ¬ isT x) he hb ?_ ?_ (by decide) (by decide) ?_ ?_ ?_ ?_ ?_ rfl (by omega) hO (fun x hx w => hx (Or.inl w))
  · intro u k p m fault code na nc st h1 h2 h3 h4
    exact h u k p m fault code na nc st h1 h2 h3 (fun w => h4 (opq1.mp w))
  · intro c hc
    rw [f_X6_joins, if_neg (by decide), if_neg (by decide), if_pos (by decide), if_neg (fun w => hc (Or.inl w)), if_neg (fun w => hc (Or.inr w))]
  · intro c hc
    rcases hc with h | h <;> subst h <;> decide
  · intro c hc
    refine ⟨isP_A hc, ?_, ?_, ?_⟩
    · rcases hc with h | h <;> subst h <;> decide
    · rcases hc with h | h <;> subst h <;> unfold isT <;> decide
    · rcases hc with h | h <;> subst h <;> decide
  · intro j st m hp
    rcases hp with hp | hp | hp
    · exact absurd hp.1 (by omega)
    · exact absurd hp.1 (by omega)
    · exact ⟨hp.2.1, fun i hi => isA_opq (hp.2.2 i hi)⟩
  · intro j st m hp hc
    rcases hp with hp | hp | hp
    · exact absurd hp.1 (by omega)
    · refine Or.inr (Or.inr ⟨rfl, by omega, fun i hi => ?_⟩)
      by_cases d : i = 0
      · subst d; exact isP_A hc
      · have := hp.2.2 (i - 1) (by omega)
        rw [show m + 1 + (i - 1) = m + i by omega] at this
        exact isT_A this
    · exact absurd hp.1 (by omega)
  · intro j st m hp
    rcases hp with hp | hp | hp
    · exact absurd hp.1 (by omega)
    · exact Or.inr (Or.inr ⟨rfl, by omega, fun i hi => isT_A (hp.2.2 i hi)⟩)
    · exact absurd hp.1 (by omega)
  · intro h h1 hc
    refine ⟨fun w => absurd w (by omega), fun _ w => ?_⟩
    rcases isA_TP w with w | w
    · exact h1.1 rfl w
    · exact hc w
/-- an E of the class and of the reference -/
theorem simE (he : e ≤ 120) (hb : TBy b t) : ∀ (D o : Nat), o ≤ 6 →
    (1 + 5 * (6 - o) ≤ D → eHyp e b t 4 (fun _ => True) o (fun n l a u f b c => f_grp D 3 n l a u f b c (nI o) 0)) ∧
    (2 + 5 * (6 - o) ≤ D → eHyp e b t 4 (fun _ => True) o (fun n l a u f b c => f_grp D 1 n l a u f b c 3 (nI o))) ∧
    (3 + 5 * (6 - o) ≤ D → eHyp e b t 3 (fun x => ¬ isT x) o (fun n l a u f b c => f_grp D 0 n l a u f b c 3 (nI o))) ∧
    (4 + 5 * (6 - o) ≤ D → eHyp e b t 3 (fun x => ¬ isT x) o (fun n l a u f b c => f_grp D 1 n l a u f b c 2 (nI o))) ∧
    (5 + 5 * (6 - o) ≤ D → eHyp e b t 2 (fun x => ¬ isA x) o (fun n l a u f b c => f_grp D 0 n l a u f b c 2 (nI o))) := by
  intro D
  induction D with
  | zero => intro o ho; exact ⟨fun h => absurd h (by omega), fun h => absurd h (by omega), fun h => absurd h (by omega), fun h => absurd h (by omega), fun h => absurd h (by omega)⟩
  | succ D ih =>
    intro o ho
    obtain ⟨i1, i2, i3, i4, i5⟩ := ih o ho
    refine ⟨fun h => ?_, fun h => ?_, fun h => ?_, fun h => ?_, fun h => ?_⟩
    · intro u k p m fault code na nc st h1 h2 h3 h4
      show Sf (f_grp (D + 1) 3 200 (nI e) (nI p) (nI u) fault b code (nI o) 0) _
      rw [f_grp, if_neg (by decide), if_neg (by decide), if_neg (by decide), if_pos rfl]
      exact simF he hb ho (fun ho6 => (ih (o + 1) (by omega)).2.2.2.2 (by omega)) u k p m fault code na nc st h1 h2 h3 h4
    · intro u k p m fault code na nc st h1 h2 h3 h4
      show Sf (f_grp (D + 1) 1 200 (nI e) (nI p) (nI u) fault b code 3 (nI o)) _
      rw [f_grp, if_neg (by decide), if_pos rfl]
      exact simOT (i1 (by omega)) u k p m fault code na nc st h1 h2 h3 h4
    · intro u k p m fault code na nc st h1 h2 h3 h4
      show Sf (f_grp (D + 1) 0 200 (nI e) (nI p) (nI u) fault b code 3 (nI o)) _
      rw [f_grp, if_pos rfl]
      exact simRT he hb (i2 (by omega)) u k p m fault code na nc st h1 h2 h3 h4
    · intro u k p m fault code na nc st h1 h2 h3 h4
      show Sf (f_grp (D + 1) 1 200 (nI e) (nI p) (nI u) fault b code 2 (nI o)) _
      rw [f_grp, if_neg (by decide), if_pos rfl]
      exact simOS (i3 (by omega)) u k p m fault code na nc st h1 h2 h3 h4
    · intro u k p m fault code na nc st h1 h2 h3 h4
      show Sf (f_grp (D + 1) 0 200 (nI e) (nI p) (nI u) fault b code 2 (nI o)) _
      rw [f_grp, if_pos rfl]
      exact simRS he hb (i4 (by omega)) u k p m fault code na nc st h1 h2 h3 h4
end S5
