theorem lo8 : ∀ i, i < 32 → (255#32).getLsbD i = decide (i < 8) := by decide
theorem byte_k (p k : Int32) (s : Nat) (hs : s ≤ 24) (h1 : (jshr p k).toBitVec = p.toBitVec.sshiftRight s) (h2 : (jushr p k).toBitVec = p.toBitVec >>> s) : (jushr p k) &&& 255 = (vp_nar .byte (ji2b (jshr p k))) &&& 255 := by
  apply Int32.toBitVec_inj.mp
  have e1 : ((jushr p k) &&& 255).toBitVec = (p.toBitVec >>> s) &&& 255#32 := by rw [← h2]; rfl
  have e2 : ((vp_nar .byte (ji2b (jshr p k))) &&& 255).toBitVec = (((((p.toBitVec.sshiftRight s).signExtend 8).signExtend 32).signExtend 8).signExtend 32) &&& 255#32 := by rw [← h1]; rfl
  rw [e1, e2]
  apply BitVec.eq_of_getLsbD_eq
  intro i hi
  rw [BitVec.getLsbD_and, BitVec.getLsbD_and, lo8 i hi]
  by_cases h : i < 8
  · have h5 : s + i < 32 := by omega
    have h6 : ¬ 32 ≤ i := by omega
    simp only [BitVec.getLsbD_signExtend, BitVec.getLsbD_sshiftRight, BitVec.getLsbD_ushiftRight, h, hi, h5, h6, decide_true, decide_false, Bool.true_and, Bool.not_false, if_true, Bool.and_true]
  · simp [h]
theorem byte_e (p k : Int32) (h : k.toInt = 0 ∨ k.toInt = 8 ∨ k.toInt = 16 ∨ k.toInt = 24) : (jushr p k) &&& 255 = (vp_nar .byte (ji2b (jshr p k))) &&& 255 := by
  rcases h with h | h | h | h
  · have e : k = 0 := Int32.toInt_inj.mp (h.trans (by decide))
    subst e
    exact byte_k p 0 0 (by omega) rfl rfl
  · have e : k = 8 := Int32.toInt_inj.mp (h.trans (by decide))
    subst e
    exact byte_k p 8 8 (by omega) rfl rfl
  · have e : k = 16 := Int32.toInt_inj.mp (h.trans (by decide))
    subst e
    exact byte_k p 16 16 (by omega) rfl rfl
  · have e : k = 24 := Int32.toInt_inj.mp (h.trans (by decide))
    subst e
    exact byte_k p 24 24 (by omega) rfl rfl
/-- the bytes of the class's tape and of the reference's -/
def TBy (b t : Nat → Int32) : Prop := ∀ j, b j = t j &&& 255
theorem put_pair (p : Int32) (c : Int) (hc : c ≤ 196) : ∀ (n : Nat) (x l : Int32) (b t : Nat → Int32), (x.toInt = -8 ∨ x.toInt = 0 ∨ x.toInt = 8 ∨ x.toInt = 16 ∨ x.toInt = 24) → 0 ≤ l.toInt → 8 * l.toInt + x.toInt = 8 * c + 24 → TBy b t → x.toInt + 9 < (n : Int) → ∃ (l' : Int32) (b' t' : Nat → Int32), f_X9_put_L3 p n x l b = some (l', b') ∧ f_X12_push_L3 p n x l t = some (l', t') ∧ TBy b' t' ∧ l'.toInt = c + 4 := by
  intro n
  induction n with
  | zero => intro x l b t h1 h2 h3 h4 h5; exact absurd h5 (by omega)
  | succ n ih =>
    intro x l b t h1 h2 h3 h4 h5
    have z : (0 : Int32).toInt = 0 := by decide
    have z2 : (200 : Int32).toInt = 200 := by decide
    rw [f_X9_put_L3, f_X12_push_L3]
    by_cases h : x < 0
    · rw [if_pos h, if_pos h]
      have := ltI h
      exact ⟨l, b, t, rfl, rfl, h4, by omega⟩
    · have h6 := nltI h
      have h7 : ¬ (200 : Int32) ≤ l := fun w => by have := leI w; omega
      have jl : jin l 200 = true := jin_of (by omega) (by omega)
      rw [if_neg h, if_neg h, if_neg h7]
      have e1 := adN l 1 1 (by decide) (by omega) (by omega)
      have e2 := adN x (-8) (-8) (by decide) (by omega) (by omega)
      obtain ⟨v, hv⟩ : ∃ v, v = x + -8 := ⟨_, rfl⟩
      have e3 : v.toInt = x.toInt + -8 := (eqI hv).trans e2
      have hb : TBy (upd b l.toNatClampNeg ((jushr p x) &&& 255)) (upd t l.toNatClampNeg (vp_nar .byte (ji2b (jshr p x)))) := by
        intro j
        unfold upd
        by_cases hj : j = l.toNatClampNeg
        · rw [if_pos hj, if_pos hj]; exact byte_e p x (by omega)
        · rw [if_neg hj, if_neg hj]; exact h4 j
      obtain ⟨l', b', t', q1, q2, q3, q4⟩ := ih v (l + 1) _ _ (by clear e2; omega) (by omega) (by clear e2; omega) hb (by clear e2; omega)
      refine ⟨l', b', t', ?_, ?_, q3, q4⟩
      · rw [← q1, hv]
        unfold nmI wrI
        exact if_pos jl
      · rw [← q2, hv]
        unfold nmI wrB
        exact if_pos jl
theorem put_2 (p l : Int32) (b t : Nat → Int32) (h1 : 0 ≤ l.toInt) (h2 : l.toInt ≤ 196) (h : TBy b t) : ∃ (l' : Int32) (b' t' : Nat → Int32), f_X9_put l b p = some (l', b') ∧ f_X12_push l t p = some (l', t') ∧ TBy b' t' ∧ l'.toInt = l.toInt + 4 := by
  have hFU : (100000 : Int) ≤ (FU : Int) := Int.ofNat_le.mpr FU_ge
  have z : (24 : Int32).toInt = 24 := by decide
  rw [f_X9_put, f_X12_push]
  exact put_pair p l.toInt h2 FU 24 l b t (by omega) h1 (by omega) h (by omega)
theorem pe_2 (l y1 y2 y3 y4 y5 : Int32) (b t : Nat → Int32) (h1 : 0 ≤ l.toInt) (h2 : l.toInt ≤ 200) (h : TBy b t) : ∃ (r l' : Int32) (b' t' : Nat → Int32), f_X11_feed l b y1 y2 y3 y4 y5 = some (r, l', b') ∧ f_X12_feed l t y1 y2 y3 y4 y5 = some (r, l', t') ∧ TBy b' t' := by
  have z : (180 : Int32).toInt = 180 := by decide
  have z2 : (200 : Int32).toInt = 200 := by decide
  have e1 := adN l 20 20 (by decide) (by omega) (by omega)
  rw [f_X11_feed, f_X12_feed]
  by_cases c : l ≤ 180
  · have c1 := leI c
    have c2 : l + 20 ≤ 200 := Int32.le_iff_toInt_le.mpr (by omega)
    rw [if_pos c, if_pos c2]
    obtain ⟨l1, b1, t1, p1, q1, s1, w1⟩ := put_2 y1 l b t (by omega) (by omega) h
    obtain ⟨l2, b2, t2, p2, q2, s2, w2⟩ := put_2 y2 l1 b1 t1 (by omega) (by omega) s1
    obtain ⟨l3, b3, t3, p3, q3, s3, w3⟩ := put_2 y3 l2 b2 t2 (by omega) (by omega) s2
    obtain ⟨l4, b4, t4, p4, q4, s4, w4⟩ := put_2 y4 l3 b3 t3 (by omega) (by omega) s3
    obtain ⟨l5, b5, t5, p5, q5, s5, w5⟩ := put_2 y5 l4 b4 t4 (by omega) (by omega) s4
    refine ⟨l5, l5, b5, t5, ?_, ?_, s5⟩
    · simp only [cb2, p1, p2, p3, p4, p5, Option.bind_some]
    · simp only [cb2, q1, q2, q3, q4, q5, Option.bind_some]
  · have c1 := nleI c
    have c2 : ¬ l + 20 ≤ 200 := fun w => by have := leI w; omega
    rw [if_neg c, if_neg c2]
    exact ⟨-1, l, b, t, rfl, rfl, h⟩
theorem e_X12_law {tp so pl en bd cl co op stk iso ib p1 p2 : Int32} {t code ca cf ct many na nc nf ns nt st sf : Nat → Int32} (h1 : 0 ≤ so.toInt) (h2 : so.toInt ≤ 10) (hR : rOK code cf ct sf many) :
    Sf (f_X12_law tp so pl en bd cl co op stk iso ib code ca cf ct many na nc nf ns nt st sf t p1 p2) (fun y => (y.2.1.toInt = 0 ∧ (0 ≤ p1.toInt ∧ p1.toInt < so.toInt ∧ 1 ≤ p2.toInt ∧ p2.toInt ≤ 120 ∧ p2.toInt ≤ tp.toInt)) ∨ (y.1.toInt = -1 ∧ y.2.1.toInt = tp.toInt ∧ ¬ (0 ≤ p1.toInt ∧ p1.toInt < so.toInt ∧ 1 ≤ p2.toInt ∧ p2.toInt ≤ 120 ∧ p2.toInt ≤ tp.toInt))) := by
  have z : (0 : Int32).toInt = 0 := by decide
  have l : (120 : Int32).toInt = 120 := by decide
  rw [f_X12_law]
  refine Sf_cb1 (e_X12_isSource so p1 h1 h2) (fun r hr => ?_)
  have hr := hr.2
  refine Sf_ite (fun g => Sf_some (Or.inr ⟨show (-1 : Int32).toInt = -1 by decide, rfl, ?_⟩)) (fun g => ?_)
  · have := eqI g
    omega
  have g := neI g
  refine Sf_cb1 (e_X12_canRead tp p2 120) (fun r2 hr2 => ?_)
  have hr2 := hr2.2
  refine Sf_ite (fun g2 => Sf_some (Or.inr ⟨show (-1 : Int32).toInt = -1 by decide, rfl, ?_⟩)) (fun g2 => ?_)
  · have := eqI g2
    omega
  have g2 := neI g2
  have e1 := adX 0 p1 (by omega) (by omega)
  refine Sf_cb23 (readsText_s (p1 := 0 + p1) (e := p2) (by omega) (by omega) (by omega) (by omega) hR) (fun y1 y2 y3 y4 y5 y6 y7 y8 y9 y10 y11 y12 y13 y14 y15 y16 y17 y18 y19 y20 y21 y22 y23 hq => Sf_some (Or.inl ⟨?_, by omega⟩))
  have hq1 := hq.1
  exact (eqI hq1).trans z
theorem e_X12_way {tp pl en bd cl co op stk iso ib p1 p2 : Int32} {t code ca cf ct many na nc nf ns nt st sf : Nat → Int32} (hR : rOK code cf ct sf many) :
    Sf (f_X12_way tp pl en bd cl co op stk iso ib code ca cf ct many na nc nf ns nt st sf t p1 p2) (fun y => (y.2.1.toInt = 0 ∧ (0 ≤ p1.toInt ∧ p1.toInt ≤ 3 ∧ 1 ≤ p2.toInt ∧ p2.toInt ≤ 120 ∧ p2.toInt ≤ tp.toInt)) ∨ (y.1.toInt = -1 ∧ y.2.1.toInt = tp.toInt ∧ ¬ (0 ≤ p1.toInt ∧ p1.toInt ≤ 3 ∧ 1 ≤ p2.toInt ∧ p2.toInt ≤ 120 ∧ p2.toInt ≤ tp.toInt))) := by
  have z : (0 : Int32).toInt = 0 := by decide
  have l : (120 : Int32).toInt = 120 := by decide
  have l10 : (10 : Int32).toInt = 10 := by decide
  rw [f_X12_way]
  refine Sf_cb1 (s_X12_isReader p1) (fun r hr => ?_)
  have hr := hr.2
  refine Sf_ite (fun g => Sf_some (Or.inr ⟨show (-1 : Int32).toInt = -1 by decide, rfl, ?_⟩)) (fun g => ?_)
  · have := eqI g
    omega
  have g := neI g
  refine Sf_cb1 (e_X12_canRead tp p2 120) (fun r2 hr2 => ?_)
  have hr2 := hr2.2
  refine Sf_ite (fun g2 => Sf_some (Or.inr ⟨show (-1 : Int32).toInt = -1 by decide, rfl, ?_⟩)) (fun g2 => ?_)
  · have := eqI g2
    omega
  have g2 := neI g2
  have e1 := adX 10 p1 (by omega) (by omega)
  refine Sf_cb23 (readsText_s (p1 := 10 + p1) (e := p2) (by omega) (by omega) (by omega) (by omega) hR) (fun y1 y2 y3 y4 y5 y6 y7 y8 y9 y10 y11 y12 y13 y14 y15 y16 y17 y18 y19 y20 y21 y22 y23 hq => Sf_some (Or.inl ⟨?_, by omega⟩))
  have hq1 := hq.1
  exact (eqI hq1).trans z
theorem e_X12_story {tp pl en bd cl co op stk ib p1 p2 : Int32} {t code ca cf ct many na nc nf ns nt st sf : Nat → Int32} (hR : rOK code cf ct sf many) :
    Sf (f_X12_story tp pl en bd cl co op stk ib code ca cf ct many na nc nf ns nt st sf t p1 p2) (fun y => (y.2.1.toInt = 0 ∧ (0 ≤ p1.toInt ∧ p1.toInt ≤ 5 ∧ 1 ≤ p2.toInt ∧ p2.toInt ≤ 60 ∧ p2.toInt ≤ tp.toInt)) ∨ (y.1.toInt = -1 ∧ y.2.1.toInt = tp.toInt ∧ ¬ (0 ≤ p1.toInt ∧ p1.toInt ≤ 5 ∧ 1 ≤ p2.toInt ∧ p2.toInt ≤ 60 ∧ p2.toInt ≤ tp.toInt))) := by
  have z : (0 : Int32).toInt = 0 := by decide
  have l : (60 : Int32).toInt = 60 := by decide
  have zn : (0 : Int32).toNatClampNeg = 0 := by decide
  rw [f_X12_story]
  refine Sf_cb1 (s_X12_isTale p1) (fun r hr => ?_)
  refine Sf_ite (fun g => Sf_some (Or.inr ⟨show (-1 : Int32).toInt = -1 by decide, rfl, ?_⟩)) (fun g => ?_)
  · have := eqI g
    have := hr.2
    omega
  have g := neI g
  have hr := hr.2.resolve_right (fun w => by have := w.1; omega)
  refine Sf_cb1 (e_X12_canRead tp p2 60) (fun r2 hr2 => ?_)
  have hr2 := hr2.2
  refine Sf_ite (fun g2 => Sf_some (Or.inr ⟨show (-1 : Int32).toInt = -1 by decide, rfl, ?_⟩)) (fun g2 => ?_)
  · have := eqI g2
    omega
  have g2 := neI g2
  have hr2 := hr2.resolve_right (fun w => by have := w.1; omega)
  rw [f_X12_begins, cb8_o]
  have hD : DP 0 nc (0 : Int32).toNatClampNeg (0 : Int32).toNatClampNeg nc st 0 := DP_cast (DP_new 0 nc st) zn.symm zn.symm
  refine Sf_cb9 (value_s (w := 0) (b := 0) (N := nc) (Or.inl rfl) (by omega) ⟨by omega, by omega, by omega, by omega, by omega⟩ hD) (fun p3 d3 k3 o3 m3 ib3 na3 nc3 st3 hq => ?_)
  have hq : VP 0 nc 0 p2 0 st 0 p3 d3 k3 m3 nc3 st3 := hq
  have J : ∀ d : Int32, Bd d → (d = 0 → d3 = 0) → Sf (f_X12_story_J55 code ca cf ct many nf ns nt sf p1 0 p2 0 p3 k3 o3 m3 ib3 na3 nc3 st3 d) (fun y => (y.2.1.toInt = 0 ∧ (0 ≤ p1.toInt ∧ p1.toInt ≤ 5 ∧ 1 ≤ p2.toInt ∧ p2.toInt ≤ 60 ∧ p2.toInt ≤ tp.toInt)) ∨ (y.1.toInt = -1 ∧ y.2.1.toInt = tp.toInt ∧ ¬ (0 ≤ p1.toInt ∧ p1.toInt ≤ 5 ∧ 1 ≤ p2.toInt ∧ p2.toInt ≤ 60 ∧ p2.toInt ≤ tp.toInt))) := by
    intro d hb hd
    refine Sf_mono (story_J55 (tp := 0) hr.2.1 hr.2.2 hR d z hb (fun w => ?_)) (fun y hy => Or.inl ⟨by have := hy.1; omega, by omega⟩)
    obtain ⟨⟨n1, n2, n3, n4, n5⟩, q2, q3, q4, -⟩ := hq.2 (hd w)
    exact ⟨n1, by omega, ⟨_, q4.2.1⟩⟩
  by_cases hd3 : d3 = 0
  · subst hd3
    obtain ⟨⟨n1, n2, n3, n4, n5⟩, q2, q3, q4, -⟩ := hq.2 rfl
    rw [isGood_0, cb1_o, if_neg (by decide)]
    refine Sf_ite (fun _ => J 0 (Or.inl rfl) (fun _ => rfl)) (fun _ => ?_)
    exact Sf_cb1 (wrongs_s 0 1 p3 (by decide) (by decide) (by omega) (by omega)) (fun d hd => J d (Or.inr hd) (fun w => absurd w (ne_lt hd)))
  · rw [isGood_n hd3, cb1_o, if_pos rfl]
    exact J d3 hq.1 (fun w => w)
