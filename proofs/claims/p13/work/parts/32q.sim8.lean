/-! rows of pieces and of parts -/
theorem leap_n {code : Nat → Int32} {u1 u2 : Nat} (h1 : u1 < u2) (h2 : u1 < 120) (h3 : u2 ≤ 120) : f_X6_leapHere (nI u2) code (nI u1) = some (upd code u1 (jshl (nI u2) 8 ||| (code u1 &&& 255))) := by
  rw [f_X6_leapHere, if_neg (nI_ge h1 (by omega)), rdI_o (jin_n (by omega) (by omega)), nmI_o, wrI_o (jin_n (by omega) (by omega)), nI_clamp (by omega)]
section S8
variable {e o : Nat} {b t : Nat → Int32}
set_option maxHeartbeats 4000000 in
theorem rowC_L {G1 : GT4} {kd kdO : Nat} {fl p1 sg : Int32} {preO : Int32 → Prop} (he : e ≤ 120) (hb : TBy b t)
    (hj0 : ∀ c, ¬ c = sg → f_X6_joins p1 c = some 0) (hj1 : f_X6_joins p1 sg = some 1) (h01 : p1 = 0 ∨ p1 = 1) (hsg : (sg = 38 ∧ fl = 0) ∨ (sg = 124 ∧ fl = 1)) (hpo : preO sg)
    (hpend : ∀ (j : Nat) (st : Nat → Int32) (m : Nat), pendC kd j st m → j ≤ 2 ∧ ∀ i, i < j → jq fl (st (m + i)))
    (hjn : ∀ (j : Nat) (st : Nat → Int32) (m : Nat), pendC kdO j st (m + 1) → st m = sg → pendC kd (j + 1) st m)
    (hstop : ∀ h, stopC kdO h → ¬ h = sg → stopC kd h)
    (hO : cHyp e b t kdO o preO (fun n l a u f b c => G1 n l a u f b c p1 (nI o)))
    {u k p m : Nat} {code na nc st : Nat → Int32} (hkm : k + m ≤ p) (hpe : p ≤ e) (hup : u ≤ p) (htop : ¬ jq fl (tpN st m)) :
    ∀ (n i a k' j : Nat) (fault' us : Int32) (code' na' nc' st' : Nat → Int32), i < a → e + 1 < n + i → cOK e t kdO kd code u k o p m na nc st a k' j na' nc' st' us code' → Sf (b_X6_rowStands_L13 (nI e) 200 b p1 (nI o) G1 n (nI i) (nI a) fault' us code') (cPost e t kd code u k o p m na nc st) := by
  have hsg2 : sg = 38 ∨ sg = 124 := by rcases hsg with h | h; exact Or.inl h.1; exact Or.inr h.1
  have hsp : 0 < sg.toInt ∧ sg.toInt < 256 ∧ ¬ sg = 0 ∧ ¬ sg = 93 := by rcases hsg2 with h | h <;> subst h <;> decide
  intro n
  induction n with
  | zero => intro i a k' j fault' us code' na' nc' st' h1 h2 h3; obtain ⟨q1, q2, -⟩ := h3; exact absurd h2 (by omega)
  | succ n ih =>
    intro i a k' j fault' us code' na' nc' st' h1 h2 h3
    obtain ⟨q1, q2, q3, q4, q5, q6, q7, q8, q9, q10, q11, q12⟩ := h3
    rw [b_X6_rowStands_L13, if_neg (nI_ge (a := i) (b := e) (by omega) (by omega)), next_n he q2, cb1_o]
    by_cases c : hN t e a = sg
    · have hal : a < e := hN_lt (t := t) (by rw [c]; exact hsp.2.2.1)
      have cn : nN b e a = sg := (nh_iff hb sg hsp.1).mpr c
      obtain ⟨hj2, hpq⟩ := hpend j st' m q7
      have htop' : ¬ jq fl (tpN st' m) := by rw [tpN_congr q6]; exact htop
      have hs := fun ib n => go_join (o := o) (k := k') (na := na') (nc := nc') (c := sg) (fl := fl) (j := j) (st := st') (m := m) he hal c hsg htop' hpq (by omega) (by omega) ib n
      have htc : tpN (upd st' m sg) (m + 1) = sg := by unfold tpN; rw [if_neg (by omega), Nat.add_sub_cancel, upd_s]
      have hstep : Sf (b_X6_rowStands_J58 (nI e) 200 b p1 (nI o) G1 (nI i) (nI a) fault' us code' sg (b_X6_rowStands_L13 (nI e) 200 b p1 (nI o) G1 n) 1) (cPost e t kd code u k o p m na nc st) := by
        rw [b_X6_rowStands_J58, if_neg (by decide), q8, put_n (by omega), cb2_o, b_X6_rowStands_J72, nmI_o, nI_1]
        refine Sf_cb5 (hO (u + (k' + j - k) + 1) (k' + j) (a + 1) (m + 1) fault' (upd code' (u + (k' + j - k)) (jshl 0 8 ||| sg)) (emC z0 m j na' k') (emC st' m j nc' k') (upd st' m sg) (by omega) (by omega) (by omega) (by rw [htc]; exact hpo)) (fun r a' u' f' code2 hp => ?_)
        rcases hp with ⟨r0, a2, ea, hae, hf, hv⟩ | ⟨r1, a2, u2, ea, hae, eu, hu2, h93, hv⟩ | ⟨r1, a2, k2', j2, na2, nc2, st2, ea, g1, g2, g3, g4, g5, g6, g7, g8, g9, g10, ⟨f2, f2b, f2C, f2R⟩, g12⟩
        · have r0 : r = 0 := r0
          have ea : a' = nI a2 := ea
          rw [if_pos r0]
          exact Sf_some (Or.inl ⟨rfl, a2, ea, hae, hf, dbad_op q5 hs hv⟩)
        · have r1 : r = 1 := r1
          have ea : a' = nI a2 := ea
          have eu : u' = nI u2 := eu
          rw [if_neg (by rw [r1]; decide), if_neg (by decide), eu, ea]
          have tu2 : (nI u2).toInt = (u2 : Int) := nI_toInt (by omega)
          have tu1 : (nI (u + (k' + j - k))).toInt = ((u + (k' + j - k) : Nat) : Int) := nI_toInt (by omega)
          refine Sf_cb1 (s_X6_leapHere (nI u2) code2 (nI (u + (k' + j - k))) (by omega) (by omega)) (fun code3 _ => ?_)
          rw [nmI_o, nI_1]
          have hthird : cPost e t kd code u k o p m na nc st (1, nI a2, nI u2, f', code3) := Or.inr (Or.inl ⟨rfl, a2, u2, rfl, hae, rfl, hu2, h93, dbad_op q5 hs hv⟩)
          obtain ⟨n1, rfl⟩ : ∃ n1, n = n1 + 1 := ⟨n - 1, by omega⟩
          rw [b_X6_rowStands_L13]
          refine Sf_ite (fun _ => Sf_some hthird) (fun _ => ?_)
          rw [next_n he hae, cb1_o, hj0 _ (fun x => by rw [nh_iff hb sg hsp.1] at x; rw [h93] at x; exact hsp.2.2.2 x.symm), cb1_o, if_pos rfl]
          exact Sf_some hthird
        · have r1 : r = 1 := r1
          have ea : a' = nI a2 := ea
          have g8 : u' = nI (u + (k' + j - k) + 1 + (k2' + j2 - (k' + j))) := g8
          have g9 : ∀ i, i < u + (k' + j - k) + 1 → code2 i = upd code' (u + (k' + j - k)) (jshl 0 8 ||| sg) i := g9
          have hst2 : st2 m = sg := by rw [g6 m (by omega), upd_s]
          have hcw : code2 (u + (k' + j - k)) &&& 255 = sg := by rw [g9 _ (by omega), upd_s]; exact w_lo 0 sg (by omega) hsp.2.1
          rw [if_neg (by rw [r1]; decide), if_neg (by decide), g8, leap_n (by omega) (by omega) (by omega), cb1_o, nmI_o, nI_1, ea, hcw]
          obtain ⟨f1, f1b, f1C, f1R⟩ := q11
          have eX : emC st2 m (j2 + 1) nc2 k2' = upd (emC st2 (m + 1) j2 nc2 k2') (k2' + j2) sg := by rw [emC_snoc, hst2]
          have eY : emC z0 m (j2 + 1) na2 k2' = upd (emC z0 (m + 1) j2 na2 k2') (k2' + j2) 0 := emC_snoc
          refine ih (i + 1) a2 k2' (j2 + 1) f' _ _ na2 nc2 st2 (by omega) (by omega) ?_
          refine ⟨by omega, g2, by omega, by omega, ?_, fun i hi => ?_, hjn j2 st2 m g7 hst2, ?_, fun i hi => ?_, fun i hi => ?_, ?_, g12⟩
          · have := drun_op q5 hs g5
            rw [show m + (j2 + 1) = m + 1 + j2 by omega]
            exact this
          · rw [g6 i (by omega), upd_n (by omega)]; exact q6 i hi
          · rw [show u + (k' + j - k) + 1 + (k2' + j2 - (k' + j)) = u + (k2' + (j2 + 1) - k) by omega]
          · rw [upd_n (by omega), g9 i (by omega), upd_n (by omega)]; exact q9 i hi
          · obtain ⟨w1, w2⟩ := g10 i (by omega)
            rw [w1, w2, emC_lo (by omega), emC_lo (by omega)]; exact q10 i hi
          · refine ⟨if sg = 38 then sAnd f1 f2 else sOr f1 f2, boo_join f1b f2b, ?_, ?_⟩
            · rw [show k2' + (j2 + 1) - k = (k' + j - k) + 1 + (k2' + j2 - (k' + j)) by omega]
              refine CR_join (CR_congr f1C (fun i hi => ?_)) (CR_congr f2C (fun i hi => upd_n (by omega))) ?_ hsg2 (by unfold bc; omega)
              · rw [upd_n (by omega), g9 _ (by omega), upd_n (by omega)]
              · rw [upd_s]
            · rw [eX, eY, show k2' + (j2 + 1) - k = (k' + j - k) + (k2' + j2 - (k' + j)) + 1 by omega]
              refine RR_join (RR_congr f1R (fun i hi => ?_)) ?_ ?_ hsg2 f1b
              · have w := g10 (k + i) (by omega)
                refine ⟨?_, ?_⟩
                · rw [upd_n (by omega), emC_lo (st := st2) (by omega)]; exact w.1
                · rw [upd_n (by omega), emC_lo (m := m + 1) (by omega)]; exact w.2
              · rw [show k + (k' + j - k) = k' + j by omega]
                exact RR_congr f2R (fun i hi => ⟨upd_n (by omega), upd_n (by omega)⟩)
              · rw [show k + (k' + j - k) + (k2' + j2 - (k' + j)) = k2' + j2 by omega, upd_s]
      rw [cn, hj1, cb1_o, if_neg (by decide), cb1_o]
      rcases h01 with h | h
      · rw [if_pos h]; exact hstep
      · rw [if_neg (by rw [h]; decide), if_pos h]; exact hstep
    · have cn : ¬ nN b e a = sg := fun x => c ((nh_iff hb sg hsp.1).mp x)
      rw [hj0 _ cn, cb1_o, if_pos rfl]
      exact Sf_some (Or.inr (Or.inr ⟨rfl, a, k', j, na', nc', st', rfl, q1, q2, q3, q4, q5, q6, q7, q8, q9, q10, q11, hstop _ q12 c⟩))
theorem rowC {G0 G1 : GT4} {G2 G3 : GT3} {kd kdO : Nat} {fl p1 sg : Int32} {preO preR : Int32 → Prop} (he : e ≤ 120) (hb : TBy b t)
    (hj0 : ∀ c, ¬ c = sg → f_X6_joins p1 c = some 0) (hj1 : f_X6_joins p1 sg = some 1) (h01 : p1 = 0 ∨ p1 = 1) (hsg : (sg = 38 ∧ fl = 0) ∨ (sg = 124 ∧ fl = 1)) (hpo : preO sg)
    (hpend : ∀ (j : Nat) (st : Nat → Int32) (m : Nat), pendC kd j st m → j ≤ 2 ∧ ∀ i, i < j → jq fl (st (m + i)))
    (hjn : ∀ (j : Nat) (st : Nat → Int32) (m : Nat), pendC kdO j st (m + 1) → st m = sg → pendC kd (j + 1) st m)
    (hp0 : ∀ (j : Nat) (st : Nat → Int32) (m : Nat), pendC kdO j st m → pendC kd j st m)
    (hstop : ∀ h, stopC kdO h → ¬ h = sg → stopC kd h) (hstop93 : ¬ (93 : Int32) = sg)
    (hO : cHyp e b t kdO o preO (fun n l a u f b c => G1 n l a u f b c p1 (nI o)))
    (hpre : ∀ x, preR x → preO x ∧ ¬ jq fl x) : cHyp e b t kd o preR (fun n l a u f b c => b_X6_rowStands G0 G1 G2 G3 n l a u f b c p1 (nI o)) := by
  have hsp : 0 < sg.toInt := by rcases hsg with h | h <;> rw [h.1] <;> decide
  intro u k p m fault code na nc st h1 h2 h3 h4
  show Sf (b_X6_rowStands G0 G1 G2 G3 200 (nI e) (nI p) (nI u) fault b code p1 (nI o)) _
  rw [b_X6_rowStands]
  obtain ⟨hq1, hq2⟩ := hpre _ h4
  have hFU := FU_ge
  refine Sf_cb5 (hO u k p m fault code na nc st h1 h2 h3 hq1) (fun r a' u' f' code' hp => ?_)
  rcases hp with ⟨r0, a, ea, hae, hf, hv⟩ | ⟨r1, a, u2, ea, hae, eu, hu2, h93, hv⟩ | ⟨r1, a, k', j, na', nc', st', ea, q1, q2, q3, q4, q5, q6, q7, q8, q9, q10, q11, q12⟩
  · have r0 : r = 0 := r0
    have ea : a' = nI a := ea
    rw [if_pos r0]
    exact Sf_some (Or.inl ⟨rfl, a, ea, hae, hf, hv⟩)
  · have r1 : r = 1 := r1
    have ea : a' = nI a := ea
    have eu : u' = nI u2 := eu
    rw [if_neg (by rw [r1]; decide), ea, eu]
    have hthird : cPost e t kd code u k o p m na nc st (1, nI a, nI u2, f', code') := Or.inr (Or.inl ⟨rfl, a, u2, rfl, hae, rfl, hu2, h93, hv⟩)
    obtain ⟨n1, hn1⟩ : ∃ n1, FU = n1 + 1 := ⟨FU - 1, by omega⟩
    rw [hn1, b_X6_rowStands_L13]
    refine Sf_ite (fun _ => Sf_some hthird) (fun _ => ?_)
    rw [next_n he hae, cb1_o, hj0 _ (fun x => by rw [nh_iff hb sg hsp] at x; rw [h93] at x; exact hstop93 x), cb1_o, if_pos rfl]
    exact Sf_some hthird
  · have r1 : r = 1 := r1
    have ea : a' = nI a := ea
    rw [if_neg (by rw [r1]; decide), ea, show (0 : Int32) = nI 0 from nI_0.symm]
    exact rowC_L he hb hj0 hj1 h01 hsg hpo hpend hjn hstop hO h1 h2 h3 hq2 FU 0 a k' j f' u' code' na' nc' st' (by omega) (by omega) ⟨q1, q2, q3, q4, q5, q6, hp0 _ _ _ q7, q8, q9, q10, q11, q12⟩
theorem cPost_bo {kd u k p m : Nat} {code na nc st code' : Nat → Int32} {r a' u' f' : Int32} (h : cPost e t kd code u k o p m na nc st (r, a', u', f', code')) : r.toInt = 0 ∨ r.toInt = 1 := by
  rcases h with ⟨h, -⟩ | ⟨h, -⟩ | ⟨h, -⟩
  · have h : r = 0 := h
    rw [h]; exact Or.inl (by decide)
  · have h : r = 1 := h
    rw [h]; exact Or.inr (by decide)
  · have h : r = 1 := h
    rw [h]; exact Or.inr (by decide)
theorem simO1 {G0 G1 : GT4} {G2 G3 : GT3} (hP : pHyp e b t o (fun n l a u f b c => G2 n l a u f b c (nI o))) : cHyp e b t 5 o baseC (fun n l a u f b c => b_X6_operandStands G0 G1 G2 G3 n l a u f b c 1 (nI o)) := by
  intro u k p m fault code na nc st h1 h2 h3 h4
  show Sf (b_X6_operandStands G0 G1 G2 G3 200 (nI e) (nI p) (nI u) fault b code 1 (nI o)) _
  rw [b_X6_operandStands, if_neg (by decide), if_pos (by decide)]
  refine Sf_cb5 (hP u k p m 0 fault code na nc st h1 h2 h3 (by omega) h4 (fun i hi => absurd hi (by omega))) (fun r a' u' f' code' hp => ?_)
  have hq : cPost e t 5 code u k o p m na nc st (r, a', u', f', code') := by
    rcases hp with h | h | ⟨r1, a, k', na', nc', st', ea, q1, q2, q3, q4, q5, q6, q7, q8, q9, f, fb, fC, fR⟩
    · exact Or.inl h
    · exact Or.inr (Or.inl h)
    · refine Or.inr (Or.inr ⟨r1, a, k', 0, na', nc', st', ea, q1, q2, by omega, by omega, q5, q6, Or.inl ⟨rfl, rfl⟩, q7, q8, q9, ⟨f, fb, fC, fR⟩, ⟨fun h => absurd h (by omega), fun h => absurd h (by omega)⟩⟩)
  exact Sf_bo (cPost_bo hq) (Sf_some hq)
theorem simO0 {G0 G1 : GT4} {G2 G3 : GT3} (hP : cHyp e b t 1 o (fun x => x = 40 ∨ x = 124) (fun n l a u f b c => G0 n l a u f b c 1 (nI o))) : cHyp e b t 1 o (fun x => x = 40 ∨ x = 124) (fun n l a u f b c => b_X6_operandStands G0 G1 G2 G3 n l a u f b c 0 (nI o)) := by
  intro u k p m fault code na nc st h1 h2 h3 h4
  show Sf (b_X6_operandStands G0 G1 G2 G3 200 (nI e) (nI p) (nI u) fault b code 0 (nI o)) _
  rw [b_X6_operandStands, if_pos rfl]
  exact Sf_cb5 (hP u k p m fault code na nc st h1 h2 h3 h4) (fun r a' u' f' code' hp => Sf_bo (cPost_bo hp) (Sf_some hp))
theorem simR1 {G0 G1 : GT4} {G2 G3 : GT3} (he : e ≤ 120) (hb : TBy b t) (hO : cHyp e b t 5 o baseC (fun n l a u f b c => G1 n l a u f b c 1 (nI o))) : cHyp e b t 1 o (fun x => x = 40 ∨ x = 124) (fun n l a u f b c => b_X6_rowStands G0 G1 G2 G3 n l a u f b c 1 (nI o)) := by
  refine rowC (kd := 1) (kdO := 5) (fl := 0) (p1 := 1) (sg := 38) (preO := baseC) he hb ?_ ?_ (Or.inr rfl) (Or.inl ⟨rfl, rfl⟩) (Or.inr (Or.inl rfl)) ?_ ?_ ?_ ?_ (by decide) hO ?_
  · intro c hc
    rw [f_X6_joins, if_neg (by decide), if_pos rfl, if_neg hc]
  · decide
  · intro j st m hp
    rcases hp with hp | hp | hp
    · exact absurd hp.1 (by omega)
    · exact ⟨by omega, fun i hi => Or.inl (hp.2.2 i hi)⟩
    · exact absurd hp.1 (by omega)
  · intro j st m hp hc
    rcases hp with hp | hp | hp
    · refine Or.inr (Or.inl ⟨rfl, by omega, fun i hi => ?_⟩)
      have : i = 0 := by omega
      subst this
      exact hc
    · exact absurd hp.1 (by omega)
    · exact absurd hp.1 (by omega)
  · intro j st m hp
    rcases hp with hp | hp | hp
    · exact Or.inr (Or.inl ⟨rfl, by omega, fun i hi => absurd hi (by omega)⟩)
    · exact absurd hp.1 (by omega)
    · exact absurd hp.1 (by omega)
  · intro h _ hc
    exact ⟨fun _ => hc, fun w => absurd w (by omega)⟩
  · intro x hx
    rcases hx with h | h <;> subst h
    · exact ⟨Or.inl rfl, by rintro (w | w); exact absurd w (by decide); exact absurd rfl w.1⟩
    · exact ⟨Or.inr (Or.inr rfl), by rintro (w | w); exact absurd w (by decide); exact absurd rfl w.1⟩
theorem simR0 {G0 G1 : GT4} {G2 G3 : GT3} (he : e ≤ 120) (hb : TBy b t) (hO : cHyp e b t 1 o (fun x => x = 40 ∨ x = 124) (fun n l a u f b c => G1 n l a u f b c 0 (nI o))) : cHyp e b t 0 o (fun x => x = 40) (fun n l a u f b c => b_X6_rowStands G0 G1 G2 G3 n l a u f b c 0 (nI o)) := by
  refine rowC (kd := 0) (kdO := 1) (fl := 1) (p1 := 0) (sg := 124) (preO := fun x => x = 40 ∨ x = 124) he hb ?_ ?_ (Or.inl rfl) (Or.inr ⟨rfl, rfl⟩) (Or.inr rfl) ?_ ?_ ?_ ?_ (by decide) hO ?_
  · intro c hc
    rw [f_X6_joins, if_pos rfl, if_neg hc]
  · decide
  · intro j st m hp
    rcases hp with hp | hp | hp
    · exact absurd hp.1 (by omega)
    · exact absurd hp.1 (by omega)
    · refine ⟨hp.2.1, fun i hi => ?_⟩
      rcases hp.2.2 i hi with g | g
      · exact Or.inl g
      · exact Or.inr ⟨by decide, g⟩
  · intro j st m hp hc
    rcases hp with hp | hp | hp
    · exact absurd hp.1 (by omega)
    · refine Or.inr (Or.inr ⟨rfl, by omega, fun i hi => ?_⟩)
      by_cases d : i = 0
      · subst d; exact Or.inr hc
      · have := hp.2.2 (i - 1) (by omega)
        rw [show m + 1 + (i - 1) = m + i by omega] at this
        exact Or.inl this
    · exact absurd hp.1 (by omega)
  · intro j st m hp
    rcases hp with hp | hp | hp
    · exact absurd hp.1 (by omega)
    · exact Or.inr (Or.inr ⟨rfl, by omega, fun i hi => Or.inl (hp.2.2 i hi)⟩)
    · exact absurd hp.1 (by omega)
  · intro h h1 hc
    exact ⟨fun w => absurd w (by omega), fun _ => ⟨h1.1 rfl, hc⟩⟩
  · intro x hx
    subst hx
    exact ⟨Or.inl rfl, by rintro (w | w); exact absurd w (by decide); exact absurd w.2 (by decide)⟩
/-- a C of the class and of the reference -/
theorem simC (he : e ≤ 120) (hb : TBy b t) : ∀ (D o : Nat), o ≤ 6 →
    (6 + 5 * (6 - o) ≤ D → pHyp e b t o (fun n l a u f b c => f_grp D 2 n l a u f b c (nI o) 0)) ∧
    (7 + 5 * (6 - o) ≤ D → cHyp e b t 5 o baseC (fun n l a u f b c => f_grp D 1 n l a u f b c 1 (nI o))) ∧
    (8 + 5 * (6 - o) ≤ D → cHyp e b t 1 o (fun x => x = 40 ∨ x = 124) (fun n l a u f b c => f_grp D 0 n l a u f b c 1 (nI o))) ∧
    (9 + 5 * (6 - o) ≤ D → cHyp e b t 1 o (fun x => x = 40 ∨ x = 124) (fun n l a u f b c => f_grp D 1 n l a u f b c 0 (nI o))) ∧
    (10 + 5 * (6 - o) ≤ D → cHyp e b t 0 o (fun x => x = 40) (fun n l a u f b c => f_grp D 0 n l a u f b c 0 (nI o))) := by
  intro D
  induction D with
  | zero => intro o ho; exact ⟨fun h => absurd h (by omega), fun h => absurd h (by omega), fun h => absurd h (by omega), fun h => absurd h (by omega), fun h => absurd h (by omega)⟩
  | succ D ih =>
    intro o ho
    obtain ⟨i1, i2, i3, i4, i5⟩ := ih o ho
    refine ⟨fun h => ?_, fun h => ?_, fun h => ?_, fun h => ?_, fun h => ?_⟩
    · intro u k p w r fault code na nc st h1 h2 h3 h4 h5 h6
      show Sf (f_grp (D + 1) 2 200 (nI e) (nI p) (nI u) fault b code (nI o) 0) _
      rw [f_grp, if_neg (by decide), if_neg (by decide), if_pos rfl]
      exact simP he hb ho (fun ho6 => (ih (o + 1) (by omega)).2.2.2.2 (by omega)) (fun ho6 => (ih (o + 1) (by omega)).1 (by omega)) ((simE he hb D o ho).2.2.2.2 (by omega)) u k p w r fault code na nc st h1 h2 h3 h4 h5 h6
    · intro u k p m fault code na nc st h1 h2 h3 h4
      show Sf (f_grp (D + 1) 1 200 (nI e) (nI p) (nI u) fault b code 1 (nI o)) _
      rw [f_grp, if_neg (by decide), if_pos rfl]
      exact simO1 (i1 (by omega)) u k p m fault code na nc st h1 h2 h3 h4
    · intro u k p m fault code na nc st h1 h2 h3 h4
      show Sf (f_grp (D + 1) 0 200 (nI e) (nI p) (nI u) fault b code 1 (nI o)) _
      rw [f_grp, if_pos rfl]
      exact simR1 he hb (i2 (by omega)) u k p m fault code na nc st h1 h2 h3 h4
    · intro u k p m fault code na nc st h1 h2 h3 h4
      show Sf (f_grp (D + 1) 1 200 (nI e) (nI p) (nI u) fault b code 0 (nI o)) _
      rw [f_grp, if_neg (by decide), if_pos rfl]
      exact simO0 (i3 (by omega)) u k p m fault code na nc st h1 h2 h3 h4
    · intro u k p m fault code na nc st h1 h2 h3 h4
      show Sf (f_grp (D + 1) 0 200 (nI e) (nI p) (nI u) fault b code 0 (nI o)) _
      rw [f_grp, if_pos rfl]
      exact simR0 he hb (i4 (by omega)) u k p m fault code na nc st h1 h2 h3 h4
end S8
