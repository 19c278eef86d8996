/-! a whole text of clauses -/
abbrev R23 : Type := Int32 × Int32 × Int32 × Int32 × Int32 × Int32 × Int32 × Int32 × Int32 × Int32 × Int32 × (Nat → Int32) × (Nat → Int32) × (Nat → Int32) × (Nat → Int32) × (Nat → Int32) × (Nat → Int32) × (Nat → Int32) × (Nat → Int32) × (Nat → Int32) × (Nat → Int32) × (Nat → Int32) × (Nat → Int32)
abbrev KT86 : Type := Int32 → Int32 → Int32 → Int32 → Int32 → Int32 → Int32 → Int32 → (Nat → Int32) → (Nat → Int32) → (Nat → Int32) → (Nat → Int32) → (Nat → Int32) → (Nat → Int32) → Option R23
def txC (lw : Int32) (code nc na mid sta nf ns nt : Nat → Int32) (c u : Nat) : Prop := ∃ s L1 L2 : Nat, sta c = nI s ∧ mid c = nI (s + L1) ∧ sta (c + 1) = nI (s + L1 + L2) ∧ ns c = nI s ∧ nf c = nI (s + L1) ∧ nt c = nI (s + L1 + L2) ∧ s + L1 + L2 ≤ u ∧ txS lw code nc na s L1 L2
def tPost (e : Nat) (lw : Int32) (K : KT86) (R : Option R23) (y : Int32 × Int32 × Int32 × Int32 × (Nat → Int32) × (Nat → Int32) × (Nat → Int32) × Option kTv) : Prop :=
  (y.2.2.2.2.2.2.2 = none ∧ ∃ a : Nat, y.2.1 = nI a ∧ a ≤ e ∧ (1 ≤ y.2.2.2.1.toInt ∧ y.2.2.2.1.toInt ≤ 9) ∧ ∃ (cl k ib iso o p m : Int32) (na nc nf ns nt st : Nat → Int32), R = K (badC y.2.2.2.1 a) cl k ib iso o p m na nc nf ns nt st) ∨
  (∃ (c u' : Nat) (code' mid' sta' : Nat → Int32) (ib iso o p m : Int32) (na nc nf ns nt st : Nat → Int32), 1 ≤ c ∧ c ≤ 12 ∧ u' ≤ 120 ∧ y.2.2.2.2.2.2.2 = some (nI c, (u', code'), (c + 1, sta'), (c, mid')) ∧ R = K 0 (nI c) (nI u') ib iso o p m na nc nf ns nt st ∧ ∀ x, x < c → txC lw code' nc na mid' sta' nf ns nt x u')
theorem txC_add {lw : Int32} {code nc na mid sta nf ns nt code' nc' na' : Nat → Int32} {c u i u' : Nat} {x y z v w : Int32} (h : txC lw code nc na mid sta nf ns nt c u) (hc : c < i) (hcode : ∀ j, j < u → code' j = code j) (hnc : ∀ j, j < u → nc' j = nc j ∧ na' j = na j) (huu : u ≤ u') : txC lw code' nc' na' (upd mid i x) (upd sta (i + 1) y) (upd nf i z) (upd ns i v) (upd nt i w) c u' := by
  obtain ⟨s, L1, L2, h1, h2, h3, h4, h5, h6, h7, h8, g, gb, gC, gR⟩ := h
  refine ⟨s, L1, L2, by rw [upd_n (by omega)]; exact h1, by rw [upd_n (by omega)]; exact h2, by rw [upd_n (by omega)]; exact h3, by rw [upd_n (by omega)]; exact h4, by rw [upd_n (by omega)]; exact h5, by rw [upd_n (by omega)]; exact h6, by omega, fun hl => ?_, g, gb, CR_congr gC (fun j hj => hcode _ (by omega)), RR_congr gR (fun j hj => hnc _ (by omega))⟩
  obtain ⟨f, fC, fR⟩ := h8 hl
  exact ⟨f, CR_congr fC (fun j hj => hcode _ (by omega)), RR_congr fR (fun j hj => hnc _ (by omega))⟩
theorem written_n {code mid sta : Nat → Int32} {u i : Nat} (hu : u ≤ 120) (hi : i < 12) : f_X6_written (nI u) code mid sta (nI i + 1) = some (some (nI (i + 1), (u, code), (i + 1 + 1, sta), (i + 1, mid))) := by
  have h1 : (nI u).toInt = (u : Int) := nI_toInt (by omega)
  have h2 : (nI (i + 1)).toInt = ((i + 1 : Nat) : Int) := nI_toInt (by omega)
  unfold f_X6_written
  rw [nI_1, if_pos ⟨by omega, by omega, by omega, by omega⟩, nI_clamp (by omega), nI_1, nI_clamp (by omega), nI_clamp (by omega)]
set_option maxHeartbeats 4000000 in
theorem text_L {e : Nat} {b t : Nat → Int32} {lw lt : Int32} {K : KT86} (he : e ≤ 120) (hb : TBy b t) (hlw : (lw = 0 ∧ lt = 107) ∨ (lw = 1 ∧ lt = 104)) : ∀ (r i n n' p u : Nat) (fault o0 m0 iso ib : Int32) (code mid sta na nc nf ns nt st : Nat → Int32), i + r = 12 → p ≤ e → u ≤ p → sta i = nI u → (∀ c, c < i → txC lw code nc na mid sta nf ns nt c u) →
    Sf (f_X6_writeClauses_L9 200 b lt (nI e) (f_X6_writeClauses_J39 (nI e)) (f_X6_writeClauses_J65 200 b lt (nI e)) (n + r + 1) (nI i) (nI p) fault (nI u) code mid sta) (tPost e lw K (f_X12_readsText_L8 t lw (nI e) K (n' + r + 2) 1 0 (nI i) (nI u) ib iso o0 (nI p) m0 na nc nf ns nt st)) := by
  have hlt : 0 < lt.toInt := by rcases hlw with h | h <;> rw [h.2] <;> decide
  intro r
  induction r with
  | zero =>
    intro i n n' p u fault o0 m0 iso ib code mid sta na nc nf ns nt st h1 h2 h3 h4 h5
    have hi : i = 12 := by omega
    subst hi
    rw [Nat.add_zero, f_X6_writeClauses_L9, if_pos (by decide), f_X6_writeClauses_J65, next_n he h2, cb1_o]
    have hR : ∀ f : Int32, 1 ≤ f.toInt → f.toInt ≤ 9 → ((hN t e p = lt ∧ f = 4) ∨ (¬ hN t e p = lt ∧ f = 1)) → f_X12_readsText_L8 t lw (nI e) K (n' + 0 + 2) 1 0 (nI 12) (nI u) ib iso o0 (nI p) m0 na nc nf ns nt st = K (badC f p) (nI 12) (nI u) ib iso o0 (nI p) m0 na nc nf ns nt st := by
      intro f hf1 hf2 hf
      have hg := isGood_n (badC_ne (f := f) (a := p) hf1 hf2 (by omega))
      have hc : f_X12_clause (nI p) (nI e) 0 (nI 12) (nI u) o0 m0 iso ib na nc nf ns nt st t lw = some (nI p, badC f p, nI 12, nI u, o0, m0, iso, ib, na, nc, nf, ns, nt, st) := by
        have hJ : f_X12_clause (nI p) (nI e) 0 (nI 12) (nI u) o0 m0 iso ib na nc nf ns nt st t lw = f_X12_clause_J15 (nI p) (nI e) 0 (nI 12) (nI u) o0 m0 iso ib na nc nf ns nt st t lw (hN t e p) lt := by
          rw [f_X12_clause, here_n he h2, cb1_o]
          rcases hlw with h | h
          · rw [if_pos h.1, h.2]
          · rw [if_neg (by rw [h.1]; decide), h.2]
        rw [hJ, f_X12_clause_J15]
        rcases hf with ⟨d1, d2⟩ | ⟨d1, d2⟩
        · rw [if_pos d1, if_pos (by decide), wrongs_n, cb1_o, ← d2, f_X12_clause_J48, hg, cb1_o, if_pos rfl]
        · rw [if_neg d1, wrongs_n, cb1_o, ← d2, f_X12_clause_J48, hg, cb1_o, if_pos rfl]
      rw [f_X12_readsText_L8, if_neg (by decide), isGood_0, cb1_o, if_neg (by decide), hc, cb14_o, hg, cb1_o, if_pos rfl, f_X12_readsText_J48, if_pos rfl, f_X12_readsText_L8, if_pos rfl]
    refine Sf_ite (fun c => ?_) (fun c => ?_)
    · have hh := (nh_iff hb lt hlt).mp c
      rw [f_X6_writeClauses_J79, f_X6_fail, cb2_o]
      exact Sf_some (Or.inl ⟨rfl, p, rfl, h2, (show 1 ≤ (4 : Int32).toInt ∧ (4 : Int32).toInt ≤ 9 by decide), _, _, _, _, _, _, _, _, _, _, _, _, _, hR 4 (by decide) (by decide) (Or.inl ⟨hh, rfl⟩)⟩)
    · have hh : ¬ hN t e p = lt := fun w => c ((nh_iff hb lt hlt).mpr w)
      rw [f_X6_writeClauses_J79, f_X6_fail, cb2_o]
      exact Sf_some (Or.inl ⟨rfl, p, rfl, h2, (show 1 ≤ (1 : Int32).toInt ∧ (1 : Int32).toInt ≤ 9 by decide), _, _, _, _, _, _, _, _, _, _, _, _, _, hR 1 (by decide) (by decide) (Or.inr ⟨hh, rfl⟩)⟩)
  | succ r ih =>
    intro i n n' p u fault o0 m0 iso ib code mid sta na nc nf ns nt st h1 h2 h3 h4 h5
    have hi : i < 12 := by omega
    rw [show n + (r + 1) + 1 = (n + r + 1) + 1 by omega, f_X6_writeClauses_L9, if_neg (show ¬ (12 : Int32) ≤ nI i from nI_ge (a := i) (b := 12) hi (by omega))]
    refine Sf_cb7 (clause_sim (lw := lw) (na := na) (nc := nc) (nf := nf) (ns := ns) (nt := nt) (st := st) (o0 := o0) (m0 := m0) (iso := iso) (ib := ib) he hb hi h2 h3 hlw) (fun rr a' u' f' code' mid' sta' hp => ?_)
    have hL : f_X12_readsText_L8 t lw (nI e) K (n' + (r + 1) + 2) 1 0 (nI i) (nI u) ib iso o0 (nI p) m0 na nc nf ns nt st = cb14 (f_X12_clause (nI p) (nI e) 0 (nI i) (nI u) o0 m0 iso ib na nc nf ns nt st t lw) (fun z1 z2 z3 z4 z5 z6 z7 z8 z9 z10 z11 z12 z13 z14 => cb1 (f_X12_isGood z2) fun g => if g = 0 then f_X12_readsText_J48 t (nI e) z1 z2 z3 z4 z5 z6 z7 z8 z9 z10 z11 z12 z13 z14 (f_X12_readsText_L8 t lw (nI e) K (n' + r + 2)) 0 else if nI e ≤ z1 then f_X12_readsText_J48 t (nI e) z1 z2 z3 z4 z5 z6 z7 z8 z9 z10 z11 z12 z13 z14 (f_X12_readsText_L8 t lw (nI e) K (n' + r + 2)) 0 else f_X12_readsText_J48 t (nI e) z1 z2 z3 z4 z5 z6 z7 z8 z9 z10 z11 z12 z13 z14 (f_X12_readsText_L8 t lw (nI e) K (n' + r + 2)) 1) := by
      rw [show n' + (r + 1) + 2 = (n' + r + 2) + 1 by omega, f_X12_readsText_L8, if_neg (by decide), isGood_0, cb1_o, if_neg (by decide)]
    rcases hp with ⟨r0, a, ea, hae, hf, z, hz, hz2⟩ | ⟨r1, a, z, ea, hz, L1, L2, iso', ib', na', nc', st', q1, q2, q3, q4, q5, q6, q7, q8, q9, q10⟩
    · have r0 : rr = 0 := r0
      have ea : a' = nI a := ea
      rw [if_pos r0]
      obtain ⟨z1, z2, z3, z4, z5, z6, z7, z8, z9, z10, z11, z12, z13, z14⟩ := z
      have hz2 : z2 = badC f' a := hz2
      have hg : f_X12_isGood z2 = some 0 := by rw [hz2]; exact isGood_n (badC_ne hf.1 hf.2 (by omega))
      refine Sf_some (Or.inl ⟨rfl, a, ea, hae, hf, z3, z4, z8, z7, z5, z1, z6, z9, z10, z11, z12, z13, z14, ?_⟩)
      rw [hL, hz, cb14_o, hg, cb1_o, if_pos rfl, f_X12_readsText_J48, if_pos rfl, show n' + r + 2 = (n' + r + 1) + 1 by omega, f_X12_readsText_L8, if_pos rfl, hz2]
    · have r1' : rr = 1 := r1
      have ea' : a' = nI a := ea
      have q4' : u' = nI (u + L1 + L2) := q4
      have q5 : ∀ i, i < u → code' i = code i := q5
      have q7 : mid' = upd mid i (nI (u + L1)) := q7
      have q8 : sta' = upd sta (i + 1) (nI (u + L1 + L2)) := q8
      have q10 : txS lw code' nc' na' u L1 L2 := q10
      subst q7; subst q8; subst q9
      rw [if_neg (by rw [r1']; decide), ea', q4']
      have htx : ∀ c, c < i + 1 → txC lw code' nc' na' (upd mid i (nI (u + L1))) (upd sta (i + 1) (nI (u + L1 + L2))) (upd nf i (nI (u + L1))) (upd ns i (nI u)) (upd nt i (nI (u + L1 + L2))) c (u + L1 + L2) := by
        intro c hc
        by_cases d : c = i
        · subst d
          exact ⟨u, L1, L2, by rw [upd_n (by omega)]; exact h4, upd_s _ _ _, upd_s _ _ _, upd_s _ _ _, upd_s _ _ _, upd_s _ _ _, Nat.le_refl _, q10⟩
        · exact txC_add (h5 c (by omega)) (by omega) q5 q6 (by omega)
      rw [hL, hz, cb14_o, isGood_0, cb1_o, if_neg (show ¬ (1 : Int32) = 0 by decide)]
      refine Sf_ite (fun c => ?_) (fun c => ?_)
      · have hae : a = e := (nI_eq (by omega) (by omega)).mp c
        subst hae
        rw [f_X6_writeClauses_J39, written_n (by omega) hi, cb1_o]
        refine Sf_some (Or.inr ⟨i + 1, u + L1 + L2, code', upd mid i (nI (u + L1)), upd sta (i + 1) (nI (u + L1 + L2)), ib', iso', nI 0, nI a, nI 0, na', nc', upd nf i (nI (u + L1)), upd ns i (nI u), upd nt i (nI (u + L1 + L2)), st', by omega, by omega, by omega, rfl, ?_, htx⟩)
        rw [if_pos (nI_le (Nat.le_refl _) (by omega)), f_X12_readsText_J48, if_pos rfl, show n' + r + 2 = (n' + r + 1) + 1 by omega, f_X12_readsText_L8, if_pos rfl]
      · have hal : a < e := by
          by_cases w : a = e
          · subst w; exact absurd rfl c
          · omega
        rw [if_neg (nI_ge hal (by omega)), f_X12_readsText_J48, if_neg (show ¬ (1 : Int32) = 0 by decide), here_n he q2, cb1_o, sign_n he q2 hb (by decide)]
        by_cases d : hN t e a = 59
        · rw [if_pos d, if_pos d, cb3_o, if_neg (by decide), nmI_o, nI_1, f_X12_readsText_J73, nmI_o, nI_1]
          exact ih (i + 1) n n' (a + 1) (u + L1 + L2) _ _ _ _ _ code' _ _ na' nc' _ _ _ st' (by omega) (by omega) (by omega) (upd_s _ _ _) htx
        · rw [if_neg d, if_neg d, cb3_o, if_pos rfl, wrongs_n, cb1_o, f_X12_readsText_J73, nmI_o, show n' + r + 2 = (n' + r + 1) + 1 by omega, f_X12_readsText_L8, if_neg (by decide), isGood_n (badC_ne (by decide) (by decide) (by omega)), cb1_o, if_pos rfl]
          exact Sf_some (Or.inl ⟨rfl, a, rfl, q2, (show 1 ≤ (1 : Int32).toInt ∧ (1 : Int32).toInt ≤ 9 by decide), _, _, _, _, _, _, _, _, _, _, _, _, _, rfl⟩)
