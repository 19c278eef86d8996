/-! a clause, a text -/
theorem tpN_0 (st : Nat → Int32) : tpN st 0 = 0 := by unfold tpN; rw [if_pos rfl]
section S9
variable {e k o p m k' o' p' m' a j u : Nat} {b t na nc st na' nc' st' : Nat → Int32}
theorem go_over (he : e ≤ 120) (hp : a < e) (hc : hN t e a = 41) (hm : st 0 = 40) (h1 : ∀ i, i < j → jq 1 (st (1 + i))) (h2 : k + j ≤ 120) (h3 : 1 + j < 160) (ib : Int32) (n : Nat) : dL e t (n + 1 + 1) 0 ib k 1 a (1 + j) na nc st = some (nI (a + 1), 0, nI (k + j), nI 0, nI 0, 1, ib, emC z0 1 j na k, emC st 1 j nc k, st) := by
  have ht : tpN st 1 = 40 := by unfold tpN; rw [if_neg (by omega)]; exact hm
  have hq : ¬ jq 1 (tpN st 1) := by
    rw [ht]
    rintro (h | h)
    · exact absurd h (by decide)
    · exact absurd h.2 (by decide)
  rw [dL_0, f_X12_goesBehind, here_n he (by omega), cb1_o, hc, if_neg (by decide), if_neg (by decide), if_pos rfl, joins_e hq h1 h2 (by omega), cb4_o, nmI_o, nmI_o, nmI_o, show nI 1 - 1 = nI 0 from nI_pred 0, nI_1, if_pos nI_0, f_X12_goesBehind_J104]
  unfold bo
  rw [if_pos (Or.inr rfl), if_neg (by decide), cb10_o, f_X12_condition_L37, isGood_0, cb1_o, if_neg (by decide), if_neg (by decide)]
theorem cond_dL (iso ib : Int32) (he : e ≤ 120) (hp : p < e) (hc : hN t e p = 40) : f_X12_condition (nI p) (nI e) 0 (nI k) (nI 0) (nI 0) iso ib na nc st t = dL e t FU 1 ib k 1 (p + 1) 1 na nc (upd st 0 40) := by
  rw [f_X12_condition, here_n he (by omega), cb1_o, if_pos hc, f_X12_condition_J23, isGood_0, cb1_o, if_neg (by decide), opens_n he (by omega) hc (by omega) (by omega), cb5_o]
  rfl
theorem cond_no (iso ib : Int32) (he : e ≤ 120) (hp : p ≤ e) (hc : ¬ hN t e p = 40) : f_X12_condition (nI p) (nI e) 0 (nI k) (nI 0) (nI 0) iso ib na nc st t = some (nI p, badC 1 p, nI k, nI 0, nI 0, 0, ib, na, nc, st) := by
  rw [f_X12_condition, here_n he hp, cb1_o, if_neg hc, wrongs_n, cb1_o, f_X12_condition_J23, isGood_n (badC_ne (by decide) (by decide) (by omega)), cb1_o, if_pos rfl]
theorem cond_bad {d : Int32} (iso ib : Int32) (he : e ≤ 120) (hp : p < e) (hc : hN t e p = 40) (h : dbad e t k 1 (p + 1) 1 na nc (upd st 0 40) d) : ∃ (p1 k1 o1 m1 ov ib1 : Int32) (na1 nc1 st1 : Nat → Int32), f_X12_condition (nI p) (nI e) 0 (nI k) (nI 0) (nI 0) iso ib na nc st t = some (p1, d, k1, o1, m1, ov, ib1, na1, nc1, st1) := by
  obtain ⟨J, hJ, h⟩ := h
  obtain ⟨p1, k1, o1, m1, ov, ib1, na1, nc1, st1, h⟩ := h ib
  obtain ⟨n, hn⟩ : ∃ n, FU = n + 1 + J := ⟨FU - J - 1, by have := FU_ge; omega⟩
  exact ⟨p1, k1, o1, m1, ov, ib1, na1, nc1, st1, by rw [cond_dL iso ib he hp hc, hn, h n]⟩
theorem cond_run (iso ib : Int32) (he : e ≤ 120) (hp : p < e) (hc : hN t e p = 40) (h : drun e t k 1 (p + 1) 1 na nc (upd st 0 40) k' 1 a (1 + j) na' nc' st') (hal : a < e) (hca : hN t e a = 41) (hm : st' 0 = 40) (h1 : ∀ i, i < j → jq 1 (st' (1 + i))) (h2 : k' + j ≤ 120) (h3 : 1 + j < 160) : ∃ ib' : Int32, f_X12_condition (nI p) (nI e) 0 (nI k) (nI 0) (nI 0) iso ib na nc st t = some (nI (a + 1), 0, nI (k' + j), nI 0, nI 0, 1, ib', emC z0 1 j na' k', emC st' 1 j nc' k', st') := by
  obtain ⟨J, hJ, h⟩ := h
  obtain ⟨ib1, h⟩ := h ib
  obtain ⟨n, hn⟩ : ∃ n, FU = (n + 1) + 1 + J := ⟨FU - J - 2, by have := FU_ge; omega⟩
  exact ⟨ib1, by rw [cond_dL iso ib he hp hc, hn, h (n + 1), go_over he hal hca hm h1 h2 h3]⟩
end S9
def txS (lw : Int32) (code nc na : Nat → Int32) (s L1 L2 : Nat) : Prop := (¬ lw = 0 → ∃ f : Sem, CR code s L1 16 f ∧ RR nc na s L1 f) ∧ ∃ g : Sem, isBoo g ∧ CR code (s + L1) L2 16 g ∧ RR nc na (s + L1) L2 g
/-- what a clause leaves, on both sides -/
def clOK (e : Nat) (lw : Int32) (code0 mid0 sta0 na nc nf ns nt : Nat → Int32) (i u p a : Nat) (us : Int32) (code' mid' sta' : Nat → Int32) (z : Int32 × Int32 × Int32 × Int32 × Int32 × Int32 × Int32 × Int32 × (Nat → Int32) × (Nat → Int32) × (Nat → Int32) × (Nat → Int32) × (Nat → Int32) × (Nat → Int32)) : Prop :=
  ∃ (L1 L2 : Nat) (iso' ib' : Int32) (na' nc' st' : Nat → Int32), p < a ∧ a ≤ e ∧ L1 + L2 + p ≤ a ∧ us = nI (u + L1 + L2) ∧ (∀ i, i < u → code' i = code0 i) ∧ (∀ i, i < u → nc' i = nc i ∧ na' i = na i) ∧ mid' = upd mid0 i (nI (u + L1)) ∧ sta' = upd sta0 (i + 1) (nI (u + L1 + L2)) ∧ z = (nI a, 0, nI (i + 1), nI (u + L1 + L2), nI 0, nI 0, iso', ib', na', nc', upd nf i (nI (u + L1)), upd ns i (nI u), upd nt i (nI (u + L1 + L2)), st') ∧ txS lw code' nc' na' u L1 L2
def clPost (e : Nat) (lw : Int32) (code0 mid0 sta0 na nc nf ns nt : Nat → Int32) (i u p : Nat) (R : Option (Int32 × Int32 × Int32 × Int32 × Int32 × Int32 × Int32 × Int32 × (Nat → Int32) × (Nat → Int32) × (Nat → Int32) × (Nat → Int32) × (Nat → Int32) × (Nat → Int32))) (y : Int32 × Int32 × Int32 × Int32 × (Nat → Int32) × (Nat → Int32) × (Nat → Int32)) : Prop :=
  (y.1 = 0 ∧ ∃ a : Nat, y.2.1 = nI a ∧ a ≤ e ∧ (1 ≤ y.2.2.2.1.toInt ∧ y.2.2.2.1.toInt ≤ 9) ∧ ∃ z, R = some z ∧ z.2.1 = badC y.2.2.2.1 a) ∨
  (y.1 = 1 ∧ ∃ (a : Nat) (z : _), y.2.1 = nI a ∧ R = some z ∧ clOK e lw code0 mid0 sta0 na nc nf ns nt i u p a y.2.2.1 y.2.2.2.2.1 y.2.2.2.2.2.1 y.2.2.2.2.2.2 z)
section S10
variable {e : Nat} {b t : Nat → Int32}
/-- from the bracket of a clause's C on -/
theorem clause_C {p1 u i L1 p : Nat} {lw f0 iso ib : Int32} {code0 code mid sta na0 nc0 na nc nf ns nt st : Nat → Int32} (he : e ≤ 120) (hb : TBy b t) (hi : i < 12) (hp1 : p1 ≤ e) (hpp : p < p1) (hL : L1 + p + 1 ≤ p1) (hup : u ≤ p) (hcode : ∀ i, i < u → code i = code0 i) (hnc : ∀ i, i < u → nc i = nc0 i ∧ na i = na0 i)
    (hE : ¬ lw = 0 → ∃ f : Sem, CR code u L1 16 f ∧ RR nc na u L1 f) (hE0 : lw = 0 → L1 = 0) :
    Sf (f_X6_clauseStands_J25 (nI e) 200 b mid sta (nI i) (nI p1) f0 (nI (u + L1)) code) (clPost e lw code0 mid sta na0 nc0 nf ns nt i u p (f_X12_clause_J97 (nI e) (nI i) iso nf nt t (upd ns i (nI u)) 0 (nI (u + L1)) ib (nI 0) (nI p1) (nI 0) na nc st)) := by
  have ji : jin (nI i) 12 = true := jin_n hi (by omega)
  have f1 : 1 ≤ (1 : Int32).toInt ∧ (1 : Int32).toInt ≤ 9 := by decide
  rw [f_X6_clauseStands_J25, wrI_o ji, nI_clamp (by omega), sign_n he hp1 hb (by decide)]
  have hJ97 : ∀ R, f_X12_condition (nI p1) (nI e) 0 (nI (u + L1)) (nI 0) (nI 0) iso ib na nc st t = some R → f_X12_clause_J97 (nI e) (nI i) iso nf nt t (upd ns i (nI u)) 0 (nI (u + L1)) ib (nI 0) (nI p1) (nI 0) na nc st = some (R.1, R.2.1, nI (i + 1), R.2.2.1, R.2.2.2.1, R.2.2.2.2.1, R.2.2.2.2.2.1, R.2.2.2.2.2.2.1, R.2.2.2.2.2.2.2.1, R.2.2.2.2.2.2.2.2.1, upd nf i (nI (u + L1)), upd ns i (nI u), upd nt i R.2.2.1, R.2.2.2.2.2.2.2.2.2) := by
    intro R hR
    obtain ⟨r1, r2, r3, r4, r5, r6, r7, r8, r9, r10⟩ := R
    rw [f_X12_clause_J97, wrI_o ji, nI_clamp (by omega), isGood_0, cb1_o, if_neg (by decide), hR, cb10_o, f_X12_clause_J121, wrI_o ji, nI_clamp (by omega), nmI_o, nI_1]
  by_cases c : hN t e p1 = 40
  · have hpl : p1 < e := hN_lt (t := t) (by rw [c]; decide)
    rw [if_pos c, cb3_o, if_neg (by decide)]
    have htc : tpN (upd st 0 40) 1 = 40 := by unfold tpN; rw [if_neg (by omega)]; exact upd_s _ _ _
    have hC := (simC (b := b) he hb 100 1 (by omega)).2.2.2.2 (by omega) (u + L1) (u + L1) (p1 + 1) 1 f0 code na nc (upd st 0 40) (by omega) (by omega) (by omega) htc
    have hC : Sf (f_X6_rowStands 200 (nI e) (nI (p1 + 1)) (nI (u + L1)) f0 b code 0 1) (cPost e t 0 code (u + L1) (u + L1) 1 (p1 + 1) 1 na nc (upd st 0 40)) := hC
    refine Sf_cb5 hC (fun r a' u' f' code' hp => ?_)
    rcases hp with ⟨r0, a, ea, hae, hf, hv⟩ | ⟨r1, a, u2, ea, hae, eu, hu2, h93, hv⟩ | ⟨r1, a, k', j, na', nc', st', ea, q1, q2, q3, q4, q5, q6, q7, q8, q9, q10, ⟨g, gb, gC, gR⟩, q12⟩
    · have r0 : r = 0 := r0
      have ea : a' = nI a := ea
      rw [if_pos r0]
      obtain ⟨x1, x2, x3, x4, x5, x6, x7, x8, x9, hx⟩ := cond_bad iso ib he hpl c hv
      exact Sf_some (Or.inl ⟨rfl, a, ea, hae, hf, _, hJ97 _ hx, rfl⟩)
    · have r1 : r = 1 := r1
      have ea : a' = nI a := ea
      rw [if_neg (by rw [r1]; decide), ea, sign_n he hae hb (by decide), if_neg (by rw [h93]; decide), cb3_o, if_pos rfl]
      obtain ⟨x1, x2, x3, x4, x5, x6, x7, x8, x9, hx⟩ := cond_bad iso ib he hpl c hv
      exact Sf_some (Or.inl ⟨rfl, a, rfl, hae, f1, _, hJ97 _ hx, rfl⟩)
    · have r1 : r = 1 := r1
      have ea : a' = nI a := ea
      have q8 : u' = nI (u + L1 + (k' + j - (u + L1))) := q8
      have q9 : ∀ i, i < u + L1 → code' i = code i := q9
      rw [if_neg (by rw [r1]; decide), ea, sign_n he q2 hb (by decide)]
      by_cases d : hN t e a = 41
      · have hal : a < e := hN_lt (t := t) (by rw [d]; decide)
        have hpj : j ≤ 2 ∧ ∀ i, i < j → jq 1 (st' (1 + i)) := by
          rcases q7 with h | h | h
          · exact absurd h.1 (by omega)
          · exact absurd h.1 (by omega)
          · refine ⟨h.2.1, fun i hi => ?_⟩
            rcases h.2.2 i hi with g | g
            · exact Or.inl g
            · exact Or.inr ⟨by decide, g⟩
        obtain ⟨ib', hx⟩ := cond_run iso ib he hpl c q5 hal d (by rw [q6 0 (by omega), upd_s]) hpj.2 (by omega) (by omega)
        have ji1 : jin (nI i + 1) 13 = true := by rw [nI_1]; exact jin_n (by omega) (by omega)
        rw [if_pos d, cb3_o, if_neg (by decide), wrI_o ji1, nI_1, nI_clamp (by omega)]
        have hlen : k' + j = u + L1 + (k' + j - (u + L1)) := by omega
        refine Sf_some (Or.inr ⟨rfl, a + 1, _, rfl, hJ97 _ hx, L1, k' + j - (u + L1), 1, ib', emC z0 1 j na' k', emC st' 1 j nc' k', st', by omega, by omega, by omega, q8, fun i hi => ?_, fun i hi => ?_, rfl, ?_, ?_, ?_, ?_⟩)
        · show code' i = code0 i
          rw [q9 i (by omega)]; exact hcode i hi
        · obtain ⟨w1, w2⟩ := q10 i (by omega)
          rw [emC_lo (by omega), emC_lo (by omega), w1, w2]; exact hnc i hi
        · show upd sta (i + 1) u' = _
          rw [q8]
        · show (nI (a + 1), (0 : Int32), nI (i + 1), nI (k' + j), nI 0, nI 0, (1 : Int32), ib', emC z0 1 j na' k', emC st' 1 j nc' k', upd nf i (nI (u + L1)), upd ns i (nI u), upd nt i (nI (k' + j)), st') = _
          rw [← hlen]
        · intro h
          obtain ⟨f, fC, fR⟩ := hE h
          refine ⟨f, CR_congr fC (fun i hi => q9 _ (by omega)), RR_congr fR (fun i hi => ?_)⟩
          obtain ⟨w1, w2⟩ := q10 (u + i) (by omega)
          rw [emC_lo (by omega), emC_lo (by omega)]
          exact ⟨w1, w2⟩
        · exact ⟨g, gb, CR_mono gC (by unfold bc; omega), gR⟩
      · rw [if_neg d, cb3_o, if_pos rfl]
        have hst := q12.2 rfl
        obtain ⟨x1, x2, x3, x4, x5, x6, x7, x8, x9, hx⟩ := cond_bad iso ib he hpl c (dbad_wrong q2 he q5 hst.1 hst.2 d)
        exact Sf_some (Or.inl ⟨rfl, a, rfl, q2, f1, _, hJ97 _ hx, rfl⟩)
  · rw [if_neg c, cb3_o, if_pos rfl]
    exact Sf_some (Or.inl ⟨rfl, p1, rfl, hp1, f1, _, hJ97 _ (cond_no iso ib he hp1 c), rfl⟩)
set_option maxHeartbeats 4000000 in
theorem clause_sim {p u i : Nat} {lw lt f0 o0 m0 iso ib : Int32} {code mid sta na nc nf ns nt st : Nat → Int32} (he : e ≤ 120) (hb : TBy b t) (hi : i < 12) (hp : p ≤ e) (hup : u ≤ p) (hlw : (lw = 0 ∧ lt = 107) ∨ (lw = 1 ∧ lt = 104)) :
    Sf (f_X6_clauseStands 200 (nI e) (nI p) (nI u) f0 b code mid sta lt (nI i)) (clPost e lw code mid sta na nc nf ns nt i u p (f_X12_clause (nI p) (nI e) 0 (nI i) (nI u) o0 m0 iso ib na nc nf ns nt st t lw)) := by
  have ji : jin (nI i) 12 = true := jin_n hi (by omega)
  have f1 : 1 ≤ (1 : Int32).toInt ∧ (1 : Int32).toInt ≤ 9 := by decide
  have hlt : 0 < lt.toInt := by rcases hlw with h | h <;> rw [h.2] <;> decide
  have hne12 : ¬ nI i = 12 := fun w => by have := (nI_eq (b := 12) (by omega) (by omega)).mp w; omega
  rw [f_X6_clauseStands, sign_n he hp hb hlt]
  have hR : f_X12_clause (nI p) (nI e) 0 (nI i) (nI u) o0 m0 iso ib na nc nf ns nt st t lw = f_X12_clause_J15 (nI p) (nI e) 0 (nI i) (nI u) o0 m0 iso ib na nc nf ns nt st t lw (hN t e p) lt := by
    rw [f_X12_clause, here_n he hp, cb1_o]
    rcases hlw with h | h
    · rw [if_pos h.1, h.2]
    · rw [if_neg (by rw [h.1]; decide), h.2]
  by_cases c : hN t e p = lt
  · have hpl : p < e := hN_lt (t := t) (by rw [c]; intro w; have := eqI w; have z : (0 : Int32).toInt = 0 := (by decide); omega)
    rw [if_pos c, cb3_o, if_neg (by decide)]
    have hR2 : f_X12_clause (nI p) (nI e) 0 (nI i) (nI u) o0 m0 iso ib na nc nf ns nt st t lw = if lw = 0 then f_X12_clause_J97 (nI e) (nI i) iso nf nt t (upd ns i (nI u)) 0 (nI u) ib 0 (nI (p + 1)) 0 na nc st else cb9 (f_X12_value (nI (p + 1)) (nI e) 0 (nI u) 0 0 ib na nc st t) (fun p1 d1 k1 o1 m1 ib1 na1 nc1 st1 => f_X12_clause_J97 (nI e) (nI i) iso nf nt t (upd ns i (nI u)) d1 k1 ib1 o1 p1 m1 na1 nc1 st1) := by
      rw [hR, f_X12_clause_J15, if_pos c, if_neg hne12, f_X12_clause_J48, isGood_0, cb1_o, if_neg (by decide), wrI_o ji, nI_clamp (by omega), nmI_o, nI_1]
    rcases hlw with ⟨h0, h1⟩ | ⟨h0, h1⟩
    · rw [if_neg (by rw [h1]; decide), hR2, if_pos h0]
      have h := clause_C (lw := lw) (L1 := 0) (u := u) (p := p) (p1 := p + 1) (code0 := code) (na0 := na) (nc0 := nc) (mid := mid) (sta := sta) (nf := nf) (ns := ns) (nt := nt) (iso := iso) (ib := ib) (st := st) (f0 := f0) he hb hi (by omega) (by omega) (by omega) hup (fun _ _ => rfl) (fun _ _ => ⟨rfl, rfl⟩) (fun w => absurd h0 w) (fun _ => rfl)
      rw [nI_0] at h
      exact h
    · rw [if_pos h1, hR2, if_neg (by rw [h0]; decide)]
      have hE := (simE (b := b) he hb 100 0 (by omega)).2.2.2.2 (by omega) u u (p + 1) 0 f0 code na nc st (by omega) (by omega) (by omega) (by show ¬ isA (tpN st 0); rw [tpN_0]; unfold isA; decide)
      have hE : Sf (f_X6_rowStands 200 (nI e) (nI (p + 1)) (nI u) f0 b code 2 0) (ePost e t 2 code u u 0 (p + 1) 0 na nc st) := hE
      refine Sf_cb5 hE (fun r a' u' f' code' hp => ?_)
      have hbd : ∀ d : Int32, ¬ d = 0 → ∀ (p1 k1 o1 m1 ib1 : Int32) (na1 nc1 st1 : Nat → Int32), f_X12_value (nI (p + 1)) (nI e) 0 (nI u) 0 0 ib na nc st t = some (p1, d, k1, o1, m1, ib1, na1, nc1, st1) → ∃ z, cb9 (f_X12_value (nI (p + 1)) (nI e) 0 (nI u) 0 0 ib na nc st t) (fun p1 d1 k1 o1 m1 ib1 na1 nc1 st1 => f_X12_clause_J97 (nI e) (nI i) iso nf nt t (upd ns i (nI u)) d1 k1 ib1 o1 p1 m1 na1 nc1 st1) = some z ∧ z.2.1 = d := by
        intro d hd p1 k1 o1 m1 ib1 na1 nc1 st1 h
        refine ⟨(p1, d, nI (i + 1), k1, o1, m1, iso, ib1, na1, nc1, upd nf i k1, upd ns i (nI u), upd nt i k1, st1), ?_, rfl⟩
        rw [h, cb9_o, f_X12_clause_J97, wrI_o ji, nI_clamp (by omega), isGood_n hd, cb1_o, if_pos rfl, f_X12_clause_J121, wrI_o ji, nI_clamp (by omega), nmI_o, nI_1]
      rcases hp with ⟨r0, a, ea, hae, hf, hv⟩ | ⟨r1, a, k1, j1, na1, nc1, st1, ea, q1, q2, q3, q4, q5, q6, q7, q8, q9, q10, ⟨f, fC, fR⟩, q12⟩
      · have r0 : r = 0 := r0
        have ea : a' = nI a := ea
        rw [if_pos r0]
        obtain ⟨x1, x2, x3, x4, x5, x6, x7, x8, hx⟩ := val_bad ib he hv
        exact Sf_some (Or.inl ⟨rfl, a, ea, hae, hf, hbd _ (badC_ne hf.1 hf.2 (by omega)) _ _ _ _ _ _ _ _ hx⟩)
      · have r1 : r = 1 := r1
        have ea : a' = nI a := ea
        have q8 : u' = nI (u + (k1 + j1 - u)) := q8
        have hpd : j1 ≤ 2 ∧ ∀ i, i < j1 → isA (st1 (0 + i)) := by
          rcases q7 with h | h | h
          · exact absurd h.1 (by omega)
          · exact absurd h.1 (by omega)
          · exact h.2
        have hV := val_run ib he q2 q5 (q12.2 rfl) (by rw [tpN_0]; unfold isA; decide) (by rw [tpN_0]; decide) hpd.2 (by omega) (by omega)
        rw [if_neg (by rw [r1]; decide), ea, q8]
        by_cases d93 : hN t e a = 93
        · have hx := hV.2 d93
          rw [f_X6_clauseStands_J25, wrI_o ji, sign_n he q2 hb (by decide), if_neg (by rw [d93]; decide), cb3_o, if_pos rfl]
          exact Sf_some (Or.inl ⟨rfl, a, rfl, q2, f1, hbd _ (badC_ne (f := 1) (by decide) (by decide) (by omega)) _ _ _ _ _ _ _ _ hx⟩)
        · have hx : f_X12_value (nI (p + 1)) (nI e) 0 (nI u) 0 0 ib na nc st t = some (nI a, 0, nI (u + (k1 + j1 - u)), nI 0, nI 0, 0, emC z0 0 j1 na1 k1, emC st1 0 j1 nc1 k1, st1) := by rw [show u + (k1 + j1 - u) = k1 + j1 by omega]; exact hV.1 d93
          rw [hx, cb9_o]
          refine clause_C (lw := lw) (L1 := k1 + j1 - u) (u := u) (p := p) (p1 := a) (code0 := code) (na0 := na) (nc0 := nc) he hb hi q2 (by omega) (by omega) hup q9 (fun i hi => ?_) (fun _ => ⟨f, CR_mono fC (by unfold bd; omega), fR⟩) (fun w => absurd (w.symm.trans h0) (by decide))
          rw [emC_lo (by omega), emC_lo (by omega)]; exact q10 i hi
  · rw [if_neg c, cb3_o, if_pos rfl]
    refine Sf_some (Or.inl ⟨rfl, p, rfl, hp, f1, ?_⟩)
    rw [hR, f_X12_clause_J15, if_neg c, wrongs_n, cb1_o, f_X12_clause_J48, isGood_n (badC_ne (by decide) (by decide) (by omega)), cb1_o, if_pos rfl]
    exact ⟨_, rfl, rfl⟩
end S10
