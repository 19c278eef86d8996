section S4
variable {e o : Nat} {b t : Nat → Int32}
/-- what an E of a kind must give -/
def eHyp (e : Nat) (b t : Nat → Int32) (kd : Nat) (pre : Int32 → Prop) (o : Nat) (G : Nat → Int32 → Int32 → Int32 → Int32 → (Nat → Int32) → (Nat → Int32) → Option (Int32 × Int32 × Int32 × Int32 × (Nat → Int32))) : Prop :=
  ∀ (u k p m : Nat) (fault : Int32) (code na nc st : Nat → Int32), k + m ≤ p → p ≤ e → u ≤ p → pre (tpN st m) → Sf (G 200 (nI e) (nI p) (nI u) fault b code) (ePost e t kd code u k o p m na nc st)
abbrev GT4 : Type := Nat → Int32 → Int32 → Int32 → Int32 → (Nat → Int32) → (Nat → Int32) → Int32 → Int32 → Option (Int32 × Int32 × Int32 × Int32 × (Nat → Int32))
abbrev GT3 : Type := Nat → Int32 → Int32 → Int32 → Int32 → (Nat → Int32) → (Nat → Int32) → Int32 → Option (Int32 × Int32 × Int32 × Int32 × (Nat → Int32))
theorem eOK_1 {code na nc st : Nat → Int32} {u k p m a : Nat} {c x w : Int32} {f : Sem} (hpa : p < a) (ha : a ≤ e) (hr : vrun e t k o p m na nc st (k + 1) o a m (upd na k x) (upd nc k c) st) (hC : CR (upd code u w) u 1 1 f) (hR : RR (upd nc k c) (upd na k x) k 1 f) : eOK e t 4 4 code u k o p m na nc st a (k + 1) 0 (upd na k x) (upd nc k c) st (nI (u + 1)) (upd code u w) := by
  refine ⟨hpa, ha, by omega, by omega, hr, fun i _ => rfl, Or.inl ⟨rfl, rfl⟩, ?_, fun i hi => upd_n (by omega), fun i hi => ⟨upd_n (by omega), upd_n (by omega)⟩, ?_, ⟨fun h => absurd h (by omega), fun h => absurd h (by omega)⟩⟩
  · rw [show k + 1 + 0 - k = 1 by omega]
  · rw [show k + 1 + 0 - k = 1 by omega]
    exact ⟨f, CR_mono hC (by unfold bd; omega), hR⟩
theorem simF {G0 G1 : GT4} {G2 G3 : GT3} (he : e ≤ 120) (hb : TBy b t) (ho : o ≤ 6) (hS : o < 6 → eHyp e b t 2 (fun x => ¬ isA x) (o + 1) (fun n l a u f b c => G0 n l a u f b c 2 (nI (o + 1)))) : eHyp e b t 4 (fun _ => True) o (fun n l a u f b c => b_X6_factorStands G0 G1 G2 G3 n l a u f b c (nI o)) := by
  intro u k p m fault code na nc st hkm hpe hup _
  show Sf (b_X6_factorStands G0 G1 G2 G3 200 (nI e) (nI p) (nI u) fault b code (nI o)) _
  rw [b_X6_factorStands, next_n he hpe, cb1_o]
  have hfault : ∀ f : Int32, (1 ≤ f.toInt ∧ f.toInt ≤ 9) → vbad e t k o p m na nc st (badC f p) → ePost e t 4 code u k o p m na nc st (0, nI p, nI u, f, code) := fun f hf hv => Or.inl ⟨rfl, p, rfl, hpe, hf, hv⟩
  refine Sf_ite (fun c => ?_) (fun c => ?_)
  · have hc := (nh_iff (b := b) (e := e) (p := p) hb 91 (by decide)).mp c
    have hpl : p < e := hN_lt (by rw [hc]; decide)
    refine Sf_ite (fun c2 => ?_) (fun c2 => ?_)
    · have ho6 : o < 6 := (nI_ltI (a := o) (b := 6) (by omega) (by omega)).mp c2
      rw [nmI_o, nI_1, nI_1]
      have htop : tpN (upd st m 91) (m + 1) = 91 := by unfold tpN; rw [if_neg (by omega), Nat.add_sub_cancel, upd_s]
      refine Sf_cb5 (hS ho6 u k (p + 1) (m + 1) fault code na nc (upd st m 91) (by omega) (by omega) (by omega) (by rw [htop]; unfold isA; decide)) (fun r a' u' f' code' hp => ?_)
      rcases hp with ⟨r0, a, ea, hae, hf, hv⟩ | ⟨r1, a, k', j, na', nc', st', ea, hok⟩
      · have r0 : r = 0 := r0
        have ea : a' = nI a := ea
        rw [if_pos r0]
        exact Sf_some (Or.inl ⟨rfl, a, ea, hae, hf, vbad_open he hpl hc ho6 (by omega) hv⟩)
      · have r1 : r = 1 := r1
        have ea : a' = nI a := ea
        obtain ⟨q1, q2, q3, q4, q5, q6, q7, q8, q9, q10, q11, q12⟩ := hok
        have q8 : u' = nI (u + (k' + j - k)) := q8
        have q9 : ∀ i, i < u → code' i = code i := q9
        have q11 : ∃ f : Sem, CR code' u (k' + j - k) (bd 2 (o + 1)) f ∧ RR (emC st' (m + 1) j nc' k') (emC z0 (m + 1) j na' k') k (k' + j - k) f := q11
        obtain ⟨f, hC, hR⟩ := q11
        have hpend : ∀ i, i < j → isA (st' (m + 1 + i)) := by
          rcases q7 with h | h | h
          · exact absurd h.1 (by omega)
          · exact absurd h.1 (by omega)
          · exact h.2.2
        have hst : st' m = 91 := by rw [q6 m (by omega), upd_s]
        rw [if_neg (by rw [r1]; decide), ea, sign_n he q2 hb (by decide)]
        by_cases d : hN t e a = 93
        · have hal : a < e := hN_lt (by rw [d]; decide)
          rw [if_pos d, cb3_o, if_neg (by decide)]
          refine Sf_some (Or.inr ⟨rfl, a + 1, k' + j, 0, emC z0 (m + 1) j na' k', emC st' (m + 1) j nc' k', st', rfl, ?_⟩)
          refine ⟨by omega, by omega, by omega, by omega, ?_, fun i hi => by rw [q6 i (by omega)]; exact upd_n (by omega), Or.inl ⟨rfl, rfl⟩, ?_, q9, fun i hi => ?_, ⟨f, CR_mono hC (by unfold bd; omega), hR⟩, ⟨fun h => absurd h (by omega), fun h => absurd h (by omega)⟩⟩
          · have hs := fun n => stay_close (o := o + 1) (k := k') (na := na') (nc := nc') he hal d hst hpend (by omega) (by omega) (by omega) n
            exact vrun_open he hpl hc ho6 (by omega) (vrun_close (by omega) q5 hs)
          · exact q8
          · rw [emC_lo (by omega), emC_lo (by omega)]; exact q10 i hi
        · rw [if_neg d, cb3_o, if_pos rfl]
          refine Sf_some (Or.inl ⟨rfl, a, rfl, q2, (show 1 ≤ (1 : Int32).toInt ∧ (1 : Int32).toInt ≤ 9 by decide), ?_⟩)
          have hs := fun n => stay_noclose (o := o + 1) (k := k') (na := na') (nc := nc') he q2 d (q12.2 rfl) hst hpend (by omega) (by omega) n
          exact vbad_open he hpl hc ho6 (by omega) (vbad_noclose q2 q5 hs)
    · have ho6 : o = 6 := by
        by_cases w : o < 6
        · exact absurd ((nI_ltI (a := o) (b := 6) (by omega) (by omega)).mpr w) c2
        · omega
      subst ho6
      rw [f_X6_fail, cb2_o]
      exact Sf_bo (Or.inl (by decide)) (Sf_some (hfault 5 (by decide) (vbad_fac hpe (fac_deep he hpl hc (by omega)) (badC_ne (by decide) (by decide) (by omega)))))
  · have hc : ¬ hN t e p = 91 := fun w => c ((nh_iff (b := b) (e := e) (p := p) hb 91 (by decide)).mpr w)
    rw [isDigit_n, cb1_o]
    refine Sf_ite (fun c2 => ?_) (fun c2 => ?_)
    · rw [bI_0] at c2
      have hd : ¬ digP (hN t e p) := fun w => c2 ((nh_dig hb).mpr w)
      have wrong : ¬ valB (hN t e p) = true → Sf (b_X6_factorStands_J86 fault (nI p) (nI u) code) (ePost e t 4 code u k o p m na nc st) := by
        intro hv
        rw [b_X6_factorStands_J86, f_X6_fail, cb2_o]
        exact Sf_bo (Or.inl (by decide)) (Sf_some (hfault 1 (by decide) (vbad_fac hpe (fac_wrong he hpe hc hd hv) (badC_ne (by decide) (by decide) (by omega)))))
      refine Sf_ite (fun c3 => wrong ?_) (fun c3 => ?_)
      · have : ¬ p < e := fun w => by
          rw [nh hb, if_pos w] at c3
          have h1 := hN_b t e p
          have h2 := eqI c3
          have zm : (-1 : Int32).toInt = -1 := by decide
          omega
        unfold hN
        rw [if_neg this]
        decide
      · have hpl : p < e := by
          by_cases w : p < e
          · exact w
          · rw [nh hb, if_neg w] at c3; exact absurd rfl c3
        rw [nh hb, if_pos hpl]
        have hcb := hN_b t e p
        obtain ⟨c', hc1, hc2⟩ := nI_of (x := hN t e p) (fun w => by have := ltI w; have z : (0 : Int32).toInt = 0 := (by decide); omega)
        have hc3 : c' < 256 := by
          have := nI_toInt hc1
          rw [hc2, this] at hcb
          omega
        obtain ⟨q, q1, q2⟩ := idx_n hc3
        rw [hc2, q1, cb1_o]
        refine Sf_ite (fun c4 => ?_) (fun c4 => ?_)
        · have hv : valB (hN t e p) = true := by rw [hc2]; exact q2.mp c4
          rw [put_n (by omega), cb2_o, nmI_o, nI_1]
          refine Sf_some (Or.inr ⟨rfl, p + 1, k + 1, 0, upd na k (hN t e p), upd nc k 1, st, rfl, ?_⟩)
          have h := eOK_1 (code := code) (u := u) (c := 1) (x := hN t e p) (w := jshl (hN t e p) 8 ||| 97) (f := fun V => some (V (hN t e p))) (Nat.lt_succ_self p) (show p + 1 ≤ e by omega) (vrun_fac (by omega) (fac_let (o := o) (m := m) (na := na) (nc := nc) (st := st) (k := k) he hpl hc hd hv (by omega))) (CR_let (upd_s _ _ _) hv) (RR_let (upd_s _ _ _) (upd_s _ _ _) hv)
          rw [hc2] at h
          rw [hc2]
          exact h
        · rw [← hc2] at q2
          exact wrong (fun w => c4 (q2.mpr w))
    · rw [bI_0] at c2
      have c2 := Classical.not_not.mp c2
      have hd : digP (hN t e p) := (nh_dig hb).mp c2
      have hpl : p < e := hN_lt (fun w => by rw [w] at hd; exact absurd hd.1 (by decide))
      obtain ⟨n, hn⟩ : ∃ n, FU = n + 5 + 1 := ⟨FU - 6, by have := FU_ge; omega⟩
      obtain ⟨n', hn'⟩ : ∃ n, FU = n + 5 + 2 := ⟨FU - 7, by have := FU_ge; omega⟩
      obtain ⟨q, w, q1, q2, q3, qb, q4, q5, q6⟩ := num_2 (p := p) he hb (K := f_X6_numberStands_J48 (nI e) (nI u) fault 200 b code) 5 0 n n' 0 (by omega) (by omega) (by decide)
      have hp5 : 10 ^ q ≤ 10 ^ 5 := Nat.pow_le_pow_right (by omega) q2
      have q0 : 0 < q := q4 (by rw [Nat.add_zero]; exact hd) (by omega)
      have q5 : f_X6_numberStands_L4 (nI e) 200 b (f_X6_numberStands_J48 (nI e) (nI u) fault 200 b code) (n + 5 + 1) 0 (nI 0) (nI p) = f_X6_numberStands_J48 (nI e) (nI u) fault 200 b code w (nI (p + q)) := q5
      rw [nI_0] at q5
      have q6 : (¬ digP (hN t e (p + q)) ∧ f_X12_reads_L7 (nI p) (nI e) t (n' + 5 + 2) 0 0 (nI p) = some (w, nI (p + q), 0)) ∨ (q = 5 ∧ digP (hN t e (p + q)) ∧ ∃ w', f_X12_reads_L7 (nI p) (nI e) t (n' + 5 + 2) 0 0 (nI p) = some (w', nI (p + q + 1), badC 2 (p + q))) := q6
      rw [f_X6_numberStands, hn, q5, f_X6_numberStands_J48, next_n he q3, cb1_o, isDigit_n, cb1_o]
      have hrd : ∀ z, f_X12_reads_L7 (nI p) (nI e) t (n' + 5 + 2) 0 0 (nI p) = z → f_X12_reads (nI p) (nI e) 0 t = z := fun z hz => by rw [f_X12_reads, hn']; exact hz
      rcases q6 with ⟨g1, g2⟩ | ⟨g0, g1, w', g2⟩
      · rw [if_pos (by rw [bI_0]; exact fun z => g1 ((nh_dig hb).mp z)), put_n (by omega), cb2_o, cb5_o]
        refine Sf_bo (Or.inr (by decide)) (Sf_some (Or.inr ⟨rfl, p + q, k + 1, 0, upd na k w, upd nc k 0, st, rfl, ?_⟩))
        exact eOK_1 (c := 0) (x := w) (by omega) q3 (vrun_fac (by omega) (fac_num he hpe hc hd (hrd _ g2) (by omega))) (CR_num (upd_s _ _ _) qb.1 (by omega)) (RR_num (upd_s _ _ _) (upd_s _ _ _))
      · rw [if_neg (by rw [bI_0]; exact fun z => z ((nh_dig hb).mpr g1)), f_X6_fail, cb2_o]
        have hv := vbad_fac (o := o) (m := m) (na := na) (nc := nc) (st := st) (k := k) hpe (fac_num6 he hpe hc hd (hrd _ g2) (badC_ne (by decide) (by decide) (by omega))) (badC_ne (by decide) (by decide) (by omega))
        unfold bo
        rw [if_pos (Or.inl rfl), cb5_o]
        exact (show Sf (bo 0 (some (0, nI (p + q), nI u, 2, code))) _ from Sf_bo (Or.inl (by decide)) (Sf_some (Or.inl ⟨rfl, p + q, rfl, q3, (show 1 ≤ (2 : Int32).toInt ∧ (2 : Int32).toInt ≤ 9 by decide), hv⟩)))
/-- operands of a row -/
theorem simOT {G0 G1 : GT4} {G2 G3 : GT3} (hF : eHyp e b t 4 (fun _ => True) o (fun n l a u f b c => G3 n l a u f b c (nI o))) : eHyp e b t 4 (fun _ => True) o (fun n l a u f b c => b_X6_operandStands G0 G1 G2 G3 n l a u f b c 3 (nI o)) := by
  intro u k p m fault code na nc st h1 h2 h3 h4
  show Sf (b_X6_operandStands G0 G1 G2 G3 200 (nI e) (nI p) (nI u) fault b code 3 (nI o)) _
  rw [b_X6_operandStands, if_neg (by decide), if_neg (by decide), if_neg (by decide)]
  refine Sf_cb5 (hF u k p m fault code na nc st h1 h2 h3 h4) (fun r a' u' f' code' hp => ?_)
  refine Sf_bo ?_ (Sf_some hp)
  rcases hp with ⟨r0, -⟩ | ⟨r1, -⟩
  · have r0 : r = 0 := r0
    rw [r0]; exact Or.inl (by decide)
  · have r1 : r = 1 := r1
    rw [r1]; exact Or.inr (by decide)
theorem simOS {G0 G1 : GT4} {G2 G3 : GT3} (hF : eHyp e b t 3 (fun x => ¬ isT x) o (fun n l a u f b c => G0 n l a u f b c 3 (nI o))) : eHyp e b t 3 (fun x => ¬ isT x) o (fun n l a u f b c => b_X6_operandStands G0 G1 G2 G3 n l a u f b c 2 (nI o)) := by
  intro u k p m fault code na nc st h1 h2 h3 h4
  show Sf (b_X6_operandStands G0 G1 G2 G3 200 (nI e) (nI p) (nI u) fault b code 2 (nI o)) _
  rw [b_X6_operandStands, if_neg (by decide), if_neg (by decide), if_pos (by decide)]
  refine Sf_cb5 (hF u k p m fault code na nc st h1 h2 h3 h4) (fun r a' u' f' code' hp => ?_)
  refine Sf_bo ?_ (Sf_some hp)
  rcases hp with ⟨r0, -⟩ | ⟨r1, -⟩
  · have r0 : r = 0 := r0
    rw [r0]; exact Or.inl (by decide)
  · have r1 : r = 1 := r1
    rw [r1]; exact Or.inr (by decide)
end S4
