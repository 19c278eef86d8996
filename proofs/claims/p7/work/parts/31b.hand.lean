section
theorem lo8 : ∀ i, i < 32 → (255#32).getLsbD i = decide (i < 8) := by decide
theorem byte_k (p k : Int32) (s : Nat) (hs : s ≤ 24) (h1 : (jshr p k).toBitVec = p.toBitVec.sshiftRight s) (h2 : (jushr p k).toBitVec = p.toBitVec >>> s) : (jushr p k) &&& 255 = (vp_nar .byte (ji2b (jshr p k))) &&& 255 := by
  apply Int32.toBitVec_inj.mp
  have e1 : ((jushr p k) &&& 255).toBitVec = (p.toBitVec >>> s) &&& 255#32 := by rw [← h2]; rfl
  have e2 : ((vp_nar .byte (ji2b (jshr p k))) &&& 255).toBitVec = (((((p.toBitVec.sshiftRight s).signExtend 8).signExtend 32).signExtend 8).signExtend 32) &&& 255#32 := by rw [← h1]; rfl
  rw [e1, e2]
  apply BitVec.eq_of_getLsbD_eq
  intro i hi
  rw [BitVec.getLsbD_and, BitVec.getLsbD_and, lo8 i hi]
  by_cases h : i < 8
  · have h5 : s + i < 32 := by omega
    have h6 : ¬ 32 ≤ i := by omega
    simp only [BitVec.getLsbD_signExtend, BitVec.getLsbD_sshiftRight, BitVec.getLsbD_ushiftRight, h, hi, h5, h6, decide_true, decide_false, Bool.true_and, Bool.not_false, if_true, Bool.and_true]
  · simp [h]
theorem byte_e (p k : Int32) (h : k.toInt = 0 ∨ k.toInt = 8 ∨ k.toInt = 16 ∨ k.toInt = 24) : (jushr p k) &&& 255 = (vp_nar .byte (ji2b (jshr p k))) &&& 255 := by
  rcases h with h | h | h | h
  · have e : k = 0 := Int32.toInt_inj.mp (h.trans (by decide))
    subst e
    exact byte_k p 0 0 (by omega) rfl rfl
  · have e : k = 8 := Int32.toInt_inj.mp (h.trans (by decide))
    subst e
    exact byte_k p 8 8 (by omega) rfl rfl
  · have e : k = 16 := Int32.toInt_inj.mp (h.trans (by decide))
    subst e
    exact byte_k p 16 16 (by omega) rfl rfl
  · have e : k = 24 := Int32.toInt_inj.mp (h.trans (by decide))
    subst e
    exact byte_k p 24 24 (by omega) rfl rfl
/-- the bytes of the class's tape and of the reference's -/
def TBy (b t : Nat → Int32) : Prop := ∀ j, b j = t j &&& 255
theorem put_pair (p : Int32) (c : Int) (hc : c ≤ 196) : ∀ (n : Nat) (x l : Int32) (b t : Nat → Int32), (x.toInt = -8 ∨ x.toInt = 0 ∨ x.toInt = 8 ∨ x.toInt = 16 ∨ x.toInt = 24) → 0 ≤ l.toInt → 8 * l.toInt + x.toInt = 8 * c + 24 → TBy b t → x.toInt + 9 < (n : Int) → ∃ (l' : Int32) (b' t' : Nat → Int32), f_X9_put_L3 p n x l b = some (l', b') ∧ f_X12_push_L3 p n x l t = some (l', t') ∧ TBy b' t' ∧ l'.toInt = c + 4 := by
  intro n
  induction n with
  | zero => intro x l b t h1 h2 h3 h4 h5; exact absurd h5 (by omega)
  | succ n ih =>
    intro x l b t h1 h2 h3 h4 h5
    have z : (0 : Int32).toInt = 0 := by decide
    have z2 : (200 : Int32).toInt = 200 := by decide
    rw [f_X9_put_L3, f_X12_push_L3]
    by_cases h : x < 0
    · rw [if_pos h, if_pos h]
      have := ltI h
      exact ⟨l, b, t, rfl, rfl, h4, by omega⟩
    · have h6 := nltI h
      have h7 : ¬ (200 : Int32) ≤ l := fun w => by have := leI w; omega
      have jl : jin l 200 = true := jin_of (by omega) (by omega)
      rw [if_neg h, if_neg h, if_neg h7]
      have e1 := adN l 1 1 (by decide) (by omega) (by omega)
      have e2 := adN x (-8) (-8) (by decide) (by omega) (by omega)
      obtain ⟨v, hv⟩ : ∃ v, v = x + -8 := ⟨_, rfl⟩
      have e3 : v.toInt = x.toInt + -8 := (eqI hv).trans e2
      have hb : TBy (upd b l.toNatClampNeg ((jushr p x) &&& 255)) (upd t l.toNatClampNeg (vp_nar .byte (ji2b (jshr p x)))) := by
        intro j
        unfold upd
        by_cases hj : j = l.toNatClampNeg
        · rw [if_pos hj, if_pos hj]; exact byte_e p x (by omega)
        · rw [if_neg hj, if_neg hj]; exact h4 j
      obtain ⟨l', b', t', q1, q2, q3, q4⟩ := ih v (l + 1) _ _ (by clear e2; omega) (by omega) (by clear e2; omega) hb (by clear e2; omega)
      refine ⟨l', b', t', ?_, ?_, q3, q4⟩
      · rw [← q1, hv]
        unfold nmI wrI
        exact if_pos jl
      · rw [← q2, hv]
        unfold nmI wrB
        exact if_pos jl
theorem put_2 (p l : Int32) (b t : Nat → Int32) (h1 : 0 ≤ l.toInt) (h2 : l.toInt ≤ 196) (h : TBy b t) : ∃ (l' : Int32) (b' t' : Nat → Int32), f_X9_put l b p = some (l', b') ∧ f_X12_push l t p = some (l', t') ∧ TBy b' t' ∧ l'.toInt = l.toInt + 4 := by
  have hFU : (100000 : Int) ≤ (FU : Int) := Int.ofNat_le.mpr FU_ge
  have z : (24 : Int32).toInt = 24 := by decide
  rw [f_X9_put, f_X12_push]
  exact put_pair p l.toInt h2 FU 24 l b t (by omega) h1 (by omega) h (by omega)
theorem pe_2 (l y1 y2 y3 y4 y5 : Int32) (b t : Nat → Int32) (h1 : 0 ≤ l.toInt) (h2 : l.toInt ≤ 200) (h : TBy b t) : ∃ (r l' : Int32) (b' t' : Nat → Int32), f_X11_feed l b y1 y2 y3 y4 y5 = some (r, l', b') ∧ f_X12_feed l t y1 y2 y3 y4 y5 = some (r, l', t') ∧ TBy b' t' := by
  have z : (180 : Int32).toInt = 180 := by decide
  have z2 : (200 : Int32).toInt = 200 := by decide
  have e1 := adN l 20 20 (by decide) (by omega) (by omega)
  rw [f_X11_feed, f_X12_feed]
  by_cases c : l ≤ 180
  · have c1 := leI c
    have c2 : l + 20 ≤ 200 := Int32.le_iff_toInt_le.mpr (by omega)
    rw [if_pos c, if_pos c2]
    obtain ⟨l1, b1, t1, p1, q1, s1, w1⟩ := put_2 y1 l b t (by omega) (by omega) h
    obtain ⟨l2, b2, t2, p2, q2, s2, w2⟩ := put_2 y2 l1 b1 t1 (by omega) (by omega) s1
    obtain ⟨l3, b3, t3, p3, q3, s3, w3⟩ := put_2 y3 l2 b2 t2 (by omega) (by omega) s2
    obtain ⟨l4, b4, t4, p4, q4, s4, w4⟩ := put_2 y4 l3 b3 t3 (by omega) (by omega) s3
    obtain ⟨l5, b5, t5, p5, q5, s5, w5⟩ := put_2 y5 l4 b4 t4 (by omega) (by omega) s4
    refine ⟨l5, l5, b5, t5, ?_, ?_, s5⟩
    · simp only [cb2, p1, p2, p3, p4, p5, Option.bind_some]
    · simp only [cb2, q1, q2, q3, q4, q5, Option.bind_some]
  · have c1 := nleI c
    have c2 : ¬ l + 20 ≤ 200 := fun w => by have := leI w; omega
    rw [if_neg c, if_neg c2]
    exact ⟨-1, l, b, t, rfl, rfl, h⟩
theorem e_X12_law {tp so pl en bd cl co op stk iso ib p1 p2 : Int32} {t code ca cf ct many na nc nf ns nt st sf : Nat → Int32} (h1 : 0 ≤ so.toInt) (h2 : so.toInt ≤ 10) (hR : rOK code cf ct sf many) :
    Sf (f_X12_law tp so pl en bd cl co op stk iso ib code ca cf ct many na nc nf ns nt st sf t p1 p2) (fun y => (y.2.1.toInt = 0 ∧ (0 ≤ p1.toInt ∧ p1.toInt < so.toInt ∧ 1 ≤ p2.toInt ∧ p2.toInt ≤ 120 ∧ p2.toInt ≤ tp.toInt)) ∨ (y.1.toInt = -1 ∧ y.2.1.toInt = tp.toInt ∧ ¬ (0 ≤ p1.toInt ∧ p1.toInt < so.toInt ∧ 1 ≤ p2.toInt ∧ p2.toInt ≤ 120 ∧ p2.toInt ≤ tp.toInt))) := by
  have z : (0 : Int32).toInt = 0 := by decide
  have l : (120 : Int32).toInt = 120 := by decide
  rw [f_X12_law]
  refine Sf_cb1 (e_X12_isSource so p1 h1 h2) (fun r hr => ?_)
  have hr := hr.2
  refine Sf_ite (fun g => Sf_some (Or.inr ⟨show (-1 : Int32).toInt = -1 by decide, rfl, ?_⟩)) (fun g => ?_)
  · have := eqI g
    omega
  have g := neI g
  refine Sf_cb1 (e_X12_canRead tp p2 120) (fun r2 hr2 => ?_)
  have hr2 := hr2.2
  refine Sf_ite (fun g2 => Sf_some (Or.inr ⟨show (-1 : Int32).toInt = -1 by decide, rfl, ?_⟩)) (fun g2 => ?_)
  · have := eqI g2
    omega
  have g2 := neI g2
  have e1 := adX 0 p1 (by omega) (by omega)
  refine Sf_cb23 (readsText_s (p1 := 0 + p1) (e := p2) (by omega) (by omega) (by omega) (by omega) hR) (fun y1 y2 y3 y4 y5 y6 y7 y8 y9 y10 y11 y12 y13 y14 y15 y16 y17 y18 y19 y20 y21 y22 y23 hq => Sf_some (Or.inl ⟨?_, by omega⟩))
  have hq1 := hq.1
  exact (eqI hq1).trans z
theorem e_X12_way {tp pl en bd cl co op stk iso ib p1 p2 : Int32} {t code ca cf ct many na nc nf ns nt st sf : Nat → Int32} (hR : rOK code cf ct sf many) :
    Sf (f_X12_way tp pl en bd cl co op stk iso ib code ca cf ct many na nc nf ns nt st sf t p1 p2) (fun y => (y.2.1.toInt = 0 ∧ (0 ≤ p1.toInt ∧ p1.toInt ≤ 3 ∧ 1 ≤ p2.toInt ∧ p2.toInt ≤ 120 ∧ p2.toInt ≤ tp.toInt)) ∨ (y.1.toInt = -1 ∧ y.2.1.toInt = tp.toInt ∧ ¬ (0 ≤ p1.toInt ∧ p1.toInt ≤ 3 ∧ 1 ≤ p2.toInt ∧ p2.toInt ≤ 120 ∧ p2.toInt ≤ tp.toInt))) := by
  have z : (0 : Int32).toInt = 0 := by decide
  have l : (120 : Int32).toInt = 120 := by decide
  have l10 : (10 : Int32).toInt = 10 := by decide
  rw [f_X12_way]
  refine Sf_cb1 (s_X12_isReader p1) (fun r hr => ?_)
  have hr := hr.2
  refine Sf_ite (fun g => Sf_some (Or.inr ⟨show (-1 : Int32).toInt = -1 by decide, rfl, ?_⟩)) (fun g => ?_)
  · have := eqI g
    omega
  have g := neI g
  refine Sf_cb1 (e_X12_canRead tp p2 120) (fun r2 hr2 => ?_)
  have hr2 := hr2.2
  refine Sf_ite (fun g2 => Sf_some (Or.inr ⟨show (-1 : Int32).toInt = -1 by decide, rfl, ?_⟩)) (fun g2 => ?_)
  · have := eqI g2
    omega
  have g2 := neI g2
  have e1 := adX 10 p1 (by omega) (by omega)
  refine Sf_cb23 (readsText_s (p1 := 10 + p1) (e := p2) (by omega) (by omega) (by omega) (by omega) hR) (fun y1 y2 y3 y4 y5 y6 y7 y8 y9 y10 y11 y12 y13 y14 y15 y16 y17 y18 y19 y20 y21 y22 y23 hq => Sf_some (Or.inl ⟨?_, by omega⟩))
  have hq1 := hq.1
  exact (eqI hq1).trans z
theorem e_X12_story {tp pl en bd cl co op stk ib p1 p2 : Int32} {t code ca cf ct many na nc nf ns nt st sf : Nat → Int32} (hR : rOK code cf ct sf many) :
    Sf (f_X12_story tp pl en bd cl co op stk ib code ca cf ct many na nc nf ns nt st sf t p1 p2) (fun y => (y.2.1.toInt = 0 ∧ (0 ≤ p1.toInt ∧ p1.toInt ≤ 5 ∧ 1 ≤ p2.toInt ∧ p2.toInt ≤ 60 ∧ p2.toInt ≤ tp.toInt)) ∨ (y.1.toInt = -1 ∧ y.2.1.toInt = tp.toInt ∧ ¬ (0 ≤ p1.toInt ∧ p1.toInt ≤ 5 ∧ 1 ≤ p2.toInt ∧ p2.toInt ≤ 60 ∧ p2.toInt ≤ tp.toInt))) := by
  have z : (0 : Int32).toInt = 0 := by decide
  have l : (60 : Int32).toInt = 60 := by decide
  have zn : (0 : Int32).toNatClampNeg = 0 := by decide
  rw [f_X12_story]
  refine Sf_cb1 (s_X12_isTale p1) (fun r hr => ?_)
  refine Sf_ite (fun g => Sf_some (Or.inr ⟨show (-1 : Int32).toInt = -1 by decide, rfl, ?_⟩)) (fun g => ?_)
  · have := eqI g
    have := hr.2
    omega
  have g := neI g
  have hr := hr.2.resolve_right (fun w => by have := w.1; omega)
  refine Sf_cb1 (e_X12_canRead tp p2 60) (fun r2 hr2 => ?_)
  have hr2 := hr2.2
  refine Sf_ite (fun g2 => Sf_some (Or.inr ⟨show (-1 : Int32).toInt = -1 by decide, rfl, ?_⟩)) (fun g2 => ?_)
  · have := eqI g2
    omega
  have g2 := neI g2
  have hr2 := hr2.resolve_right (fun w => by have := w.1; omega)
  rw [f_X12_begins, cb8_o]
  have hD : DP 0 nc (0 : Int32).toNatClampNeg (0 : Int32).toNatClampNeg nc st 0 := DP_cast (DP_new 0 nc st) zn.symm zn.symm
  refine Sf_cb9 (value_s (w := 0) (b := 0) (N := nc) (Or.inl rfl) (by omega) ⟨by omega, by omega, by omega, by omega, by omega⟩ hD) (fun p3 d3 k3 o3 m3 ib3 na3 nc3 st3 hq => ?_)
  have hq : VP 0 nc 0 p2 0 st 0 p3 d3 k3 m3 nc3 st3 := hq
  have J : ∀ d : Int32, Bd d → (d = 0 → d3 = 0) → Sf (f_X12_story_J55 code ca cf ct many nf ns nt sf p1 0 p2 0 p3 k3 o3 m3 ib3 na3 nc3 st3 d) (fun y => (y.2.1.toInt = 0 ∧ (0 ≤ p1.toInt ∧ p1.toInt ≤ 5 ∧ 1 ≤ p2.toInt ∧ p2.toInt ≤ 60 ∧ p2.toInt ≤ tp.toInt)) ∨ (y.1.toInt = -1 ∧ y.2.1.toInt = tp.toInt ∧ ¬ (0 ≤ p1.toInt ∧ p1.toInt ≤ 5 ∧ 1 ≤ p2.toInt ∧ p2.toInt ≤ 60 ∧ p2.toInt ≤ tp.toInt))) := by
    intro d hb hd
    refine Sf_mono (story_J55 (tp := 0) hr.2.1 hr.2.2 hR d z hb (fun w => ?_)) (fun y hy => Or.inl ⟨by have := hy.1; omega, by omega⟩)
    obtain ⟨⟨n1, n2, n3, n4, n5⟩, q2, q3, q4, -⟩ := hq.2 (hd w)
    exact ⟨n1, by omega, ⟨_, q4.2.1⟩⟩
  by_cases hd3 : d3 = 0
  · subst hd3
    obtain ⟨⟨n1, n2, n3, n4, n5⟩, q2, q3, q4, -⟩ := hq.2 rfl
    rw [isGood_0, cb1_o, if_neg (by decide)]
    refine Sf_ite (fun _ => J 0 (Or.inl rfl) (fun _ => rfl)) (fun _ => ?_)
    exact Sf_cb1 (wrongs_s 0 1 p3 (by decide) (by decide) (by omega) (by omega)) (fun d hd => J d (Or.inr hd) (fun w => absurd w (ne_lt hd)))
  · rw [isGood_n hd3, cb1_o, if_pos rfl]
    exact J d3 hq.1 (fun w => w)
end
section
/-! the two sides, from like states: like answers, like states -/
theorem i32_eq {x y : Int32} (h : x.toInt = y.toInt) : x = y := Int32.toInt_inj.mp h
theorem pe_1 {pd sd y1 rx pd' sd' rm sd2 : Int32} (ex : f_X11_seed pd sd y1 = some (rx, pd', sd')) (em : f_X12_seed sd y1 = some (rm, sd2)) (hb : 0 ≤ sd.toInt ∧ sd.toInt ≤ 999) : rx = rm ∧ sd' = sd2 ∧ (0 ≤ sd2.toInt ∧ sd2.toInt ≤ 999) ∧ (pd'.toInt = -1 ∨ (pd' = pd ∧ sd' = sd)) := by
  have px := Sf_det ex (e_X11_seed pd sd y1)
  have pm := Sf_det em (e_X12_seed sd y1)
  have px : (rx.toInt = 1 ∧ 0 ≤ y1.toInt ∧ y1.toInt ≤ 999 ∧ sd' = y1 ∧ pd'.toInt = -1) ∨ (rx.toInt = 0 ∧ (y1.toInt < 0 ∨ 999 < y1.toInt) ∧ sd' = sd ∧ pd' = pd) := px
  have pm : (rm.toInt = 1 ∧ 0 ≤ y1.toInt ∧ y1.toInt ≤ 999 ∧ sd2 = y1) ∨ (rm.toInt = 0 ∧ (y1.toInt < 0 ∨ 999 < y1.toInt) ∧ sd2 = sd) := pm
  rcases px with ⟨a1, a2, a3, a4, a5⟩ | ⟨a1, a2, a3, a4⟩ <;> rcases pm with ⟨b1, b2, b3, b4⟩ | ⟨b1, b2, b3⟩
  · subst a4; subst b4; exact ⟨i32_eq (by omega), rfl, ⟨b2, b3⟩, Or.inl a5⟩
  · exfalso; omega
  · exfalso; omega
  · subst a3; subst b3; exact ⟨i32_eq (by omega), rfl, hb, Or.inr ⟨a4, rfl⟩⟩
theorem pf_2 {l y1 y2 y3 y4 y5 rx l' rm m' : Int32} {b t b' t' : Nat → Int32} (ex : f_X11_feed l b y1 y2 y3 y4 y5 = some (rx, l', b')) (em : f_X12_feed l t y1 y2 y3 y4 y5 = some (rm, m', t')) (h1 : 0 ≤ l.toInt) (h2 : l.toInt ≤ 200) (h : TBy b t) : rx = rm ∧ l' = m' ∧ TBy b' t' := by
  obtain ⟨r, l3, b3, t3, q1, q2, q3⟩ := pe_2 l y1 y2 y3 y4 y5 b t h1 h2 h
  rw [ex] at q1
  rw [em] at q2
  cases q1
  cases q2
  exact ⟨rfl, rfl, q3⟩
theorem pe_11 {no y1 y2 y3 rx no' rm nm' : Int32} {D M S D' M' S' D2 M2 S2 : Nat → Int32} (ex : f_X11_note no D M S y1 y2 y3 = some (rx, no', D', M', S')) (em : f_X12_note no D M S y1 y2 y3 = some (rm, nm', D2, M2, S2)) (h1 : 0 ≤ no.toInt) (h2 : no.toInt ≤ 40) (hb : ∀ j, (0 ≤ (D j).toInt ∧ (D j).toInt ≤ 399) ∧ (0 ≤ (M j).toInt ∧ (M j).toInt ≤ 1439) ∧ (0 ≤ (S j).toInt ∧ (S j).toInt ≤ 3)) :
    rx = rm ∧ no' = nm' ∧ D' = D2 ∧ M' = M2 ∧ S' = S2 ∧ (∀ j, (0 ≤ (D2 j).toInt ∧ (D2 j).toInt ≤ 399) ∧ (0 ≤ (M2 j).toInt ∧ (M2 j).toInt ≤ 1439) ∧ (0 ≤ (S2 j).toInt ∧ (S2 j).toInt ≤ 3)) := by
  have px := Sf_det ex (e_X11_note no D M S y1 y2 y3 h1 h2)
  have pm := Sf_det em (e_X12_note no D M S y1 y2 y3 h1 h2)
  dsimp only at px pm
  rcases px with ⟨a1, a2, a3, a4, a5, a6⟩ | ⟨a1, a2, a3, a4, a5, a6⟩ <;> rcases pm with ⟨b1, b2, b3, b4, b5, b6⟩ | ⟨b1, b2, b3, b4, b5, b6⟩
  · subst a4; subst a5; subst a6; subst b4; subst b5; subst b6; exact ⟨i32_eq (by omega), i32_eq (by omega), rfl, rfl, rfl, hb⟩
  · exact absurd b3 a3
  · exact absurd a3 b3
  · subst a4; subst a5; subst a6; subst b4; subst b5; subst b6
    refine ⟨i32_eq (by omega), i32_eq (by omega), rfl, rfl, rfl, fun j => ?_⟩
    unfold upd
    by_cases c : j = no.toNatClampNeg
    · rw [if_pos c, if_pos c, if_pos c]; omega
    · rw [if_neg c, if_neg c, if_neg c]; exact hb j
theorem pe_15 {no y1 rx no' rm nm' : Int32} {T T' T2 : Nat → Int32} (ex : f_X11_blip no T y1 = some (rx, no', T')) (em : f_X12_blip no T y1 = some (rm, nm', T2)) (h1 : 0 ≤ no.toInt) (h2 : no.toInt ≤ 40) (hb : ∀ j, 0 ≤ (T j).toInt ∧ (T j).toInt ≤ 1000000000) :
    rx = rm ∧ no' = nm' ∧ T' = T2 ∧ (∀ j, 0 ≤ (T2 j).toInt ∧ (T2 j).toInt ≤ 1000000000) := by
  have px := Sf_det ex (e_X11_blip no T y1 h1 h2)
  have pm := Sf_det em (e_X12_blip no T y1 h1 h2)
  dsimp only at px pm
  rcases px with ⟨a1, a2, a3, a4⟩ | ⟨a1, a2, a3, a4⟩ <;> rcases pm with ⟨b1, b2, b3, b4⟩ | ⟨b1, b2, b3, b4⟩
  · subst a4; subst b4; exact ⟨i32_eq (by omega), i32_eq (by omega), rfl, hb⟩
  · exact absurd b3 a3
  · exact absurd a3 b3
  · subst a4; subst b4
    refine ⟨i32_eq (by omega), i32_eq (by omega), rfl, fun j => ?_⟩
    unfold upd
    by_cases c : j = no.toNatClampNeg
    · rw [if_pos c]; omega
    · rw [if_neg c]; exact hb j
theorem pe_21 {no y1 y2 rx no' rm nm' : Int32} {D F D' F' D2 F2 : Nat → Int32} (ex : f_X11_night no D F y1 y2 = some (rx, no', D', F')) (em : f_X12_night no F D y1 y2 = some (rm, nm', F2, D2)) (h1 : 0 ≤ no.toInt) (h2 : no.toInt ≤ 30) (hb : ∀ j, (0 ≤ (D j).toInt ∧ (D j).toInt ≤ 399) ∧ (-100000 ≤ (F j).toInt ∧ (F j).toInt ≤ 100000)) :
    rx = rm ∧ no' = nm' ∧ D' = D2 ∧ F' = F2 ∧ (∀ j, (0 ≤ (D2 j).toInt ∧ (D2 j).toInt ≤ 399) ∧ (-100000 ≤ (F2 j).toInt ∧ (F2 j).toInt ≤ 100000)) := by
  have px := Sf_det ex (e_X11_night no D F y1 y2 h1 h2)
  have pm := Sf_det em (e_X12_night no F D y1 y2 h1 h2)
  dsimp only at px pm
  rcases px with ⟨a1, a2, a3, a4, a5⟩ | ⟨a1, a2, a3, a4, a5⟩ <;> rcases pm with ⟨b1, b2, b3, b4, b5⟩ | ⟨b1, b2, b3, b4, b5⟩
  · subst a4; subst a5; subst b4; subst b5; exact ⟨i32_eq (by omega), i32_eq (by omega), rfl, rfl, hb⟩
  · exact absurd b3 a3
  · exact absurd a3 b3
  · subst a4; subst a5; subst b4; subst b5
    refine ⟨i32_eq (by omega), i32_eq (by omega), rfl, rfl, fun j => ?_⟩
    unfold upd
    by_cases c : j = no.toNatClampNeg
    · rw [if_pos c, if_pos c]; omega
    · rw [if_neg c, if_neg c]; exact hb j
theorem pe_26 {y1 y2 rx rm : Int32} {T T' T2 : Nat → Int32} (ex : f_X11_there T y1 y2 = some (rx, T')) (em : f_X12_there T y1 y2 = some (rm, T2)) : rx = rm ∧ T' = T2 := by
  have px := Sf_det ex (e_X11_there T y1 y2)
  have pm := Sf_det em (e_X12_there T y1 y2)
  dsimp only at px pm
  rcases px with ⟨a1, a2, a3⟩ | ⟨a1, a2, a3⟩ <;> rcases pm with ⟨b1, b2, b3⟩ | ⟨b1, b2, b3⟩
  · subst a3; subst b3; exact ⟨i32_eq (by omega), rfl⟩
  · exact absurd b2 a2
  · exact absurd a2 b2
  · subst a3; subst b3; exact ⟨i32_eq (by omega), rfl⟩
/-- the sources of both sides -/
def SRC (G : kG) (sk : Int32) (bs mo wi sh wd : Nat → Int32) : Prop := ∀ i : Nat, (i : Int) < sk.toInt → ∃ a : Nat, G.1 i = some (a, Int32.ofNat i, bs i, mo i, wi i, sh i, wd i) ∧ (bs i = 0 ∨ bs i = 1) ∧ (0 ≤ (mo i).toInt ∧ (mo i).toInt ≤ 1439) ∧ (0 ≤ (wi i).toInt ∧ (wi i).toInt ≤ 30) ∧ (0 ≤ (sh i).toInt ∧ (sh i).toInt ≤ 3) ∧ (0 ≤ (wd i).toInt ∧ (wd i).toInt ≤ 127)
theorem SRC_s {G : kG} {sk : Int32} {bs mo wi sh wd : Nat → Int32} (h : SRC G sk bs mo wi sh wd) : ∀ i : Nat, (i : Int) < sk.toInt → ∃ s, G.1 i = some s := fun i hi => by
  obtain ⟨a, e, -⟩ := h i hi
  exact ⟨_, e⟩
theorem SRC_T {G G' : kG} {nt : Option (Nat × kTv)} {sk : Int32} {bs mo wi sh wd : Nat → Int32} (h : SRC G sk bs mo wi sh wd) (hG : kGT G nt G') : SRC G' sk bs mo wi sh wd := by
  cases nt with
  | none =>
    have e : G' = G := hG
    rw [e]; exact h
  | some q =>
    obtain ⟨ta, e⟩ := hG
    rw [e]
    exact h
theorem ofN_t {x : Int32} (h : 0 ≤ x.toInt) : Int32.ofNat x.toNatClampNeg = x := by
  have g := rgI x
  have t := tN x h
  exact i32_eq (by rw [ofN _ (by omega)]; exact t)
theorem zb {y : Int32} (h : y.toInt = 0 ∨ y.toInt = 1) : vp_nar .boolean y = y ∧ (y = 0 ∨ y = 1) := by
  rcases h with h | h
  · have e : y = 0 := i32_eq (h.trans (by decide))
    subst e
    exact ⟨by decide, Or.inl rfl⟩
  · have e : y = 1 := i32_eq (h.trans (by decide))
    subst e
    exact ⟨by decide, Or.inr rfl⟩
theorem pe_0 {G G' : kG} {pd sk y1 y2 y3 y4 y5 rx pd' sk' rm so' : Int32} {nt : Option (Nat × Int32 × Int32 × Int32 × Int32 × Int32 × Int32)} {bs mo sh wd wi bs' mo' sh' wd' wi' : Nat → Int32}
    (ex : f_X11_source G pd sk y1 y2 y3 y4 y5 = some (rx, pd', sk', nt)) (em : f_X12_source sk bs mo sh wd wi y1 y2 y3 y4 y5 = some (rm, so', bs', mo', sh', wd', wi')) (h1 : 0 ≤ sk.toInt ∧ sk.toInt ≤ 10) (hy : y1.toInt = 0 ∨ y1.toInt = 1) (h2 : ∀ i : Nat, sk.toInt ≤ (i : Int) → i < 10 → G.1 i = none ∧ G.2 i = none) (hS : SRC G sk bs mo wi sh wd) (hG : kGS G nt G') :
    rx = rm ∧ sk' = so' ∧ SRC G' sk' bs' mo' wi' sh' wd' := by
  have px := Sf_det ex (e_X11_source G pd sk y1 y2 y3 y4 y5 h1.1 h1.2 hy h2)
  have pm := Sf_det em (e_X12_source sk bs mo sh wd wi y1 y2 y3 y4 y5 h1.1 h1.2)
  dsimp only at px pm
  rcases px with ⟨a1, a2, a3, a4, a5⟩ | ⟨a1, a2, a3, a4, a5⟩ <;> rcases pm with ⟨b1, b2, b3, b4, b5, b6, b7, b8⟩ | ⟨b1, b2, b3, b4, b5, b6, b7, b8⟩
  · subst b4; subst b5; subst b6; subst b7; subst b8; subst a1
    have e : G' = G := hG
    have e2 : sk' = sk := i32_eq a3
    rw [e, e2]
    exact ⟨i32_eq (by omega), i32_eq (by omega), hS⟩
  · exact absurd b3 a5
  · exact absurd a5 b3
  · subst b4; subst b5; subst b6; subst b7; subst b8; subst a1
    obtain ⟨a, e⟩ := hG
    refine ⟨i32_eq (by omega), i32_eq (by omega), fun i hi => ?_⟩
    have tk := tN sk h1.1
    rw [e]
    show ∃ a_1, (if i = sk.toNatClampNeg then some (a, (sk, y1, y2, y3, y4, y5)) else G.1 i) = _ ∧ _
    obtain ⟨z1, z2⟩ := zb hy
    unfold upd
    by_cases c : i = sk.toNatClampNeg
    · refine ⟨a, ?_⟩
      rw [if_pos c, if_pos c, if_pos c, if_pos c, if_pos c, if_pos c, c, ofN_t h1.1, z1]
      refine ⟨rfl, z2, ?_, ?_, ?_, ?_⟩ <;> omega
    · rw [if_neg c, if_neg c, if_neg c, if_neg c, if_neg c, if_neg c]
      exact hS i (by omega)
theorem tape_e {P Q : Prop} {a b : Int32} {t : Int} (hpq : P ↔ Q) (h1 : (a.toInt = 0 ∧ P) ∨ (a.toInt = t ∧ ¬ P)) (h2 : (b.toInt = 0 ∧ Q) ∨ (b.toInt = t ∧ ¬ Q)) : a = b := by
  rcases h1 with ⟨a1, a2⟩ | ⟨a1, a2⟩ <;> rcases h2 with ⟨b1, b2⟩ | ⟨b1, b2⟩
  · exact i32_eq (by omega)
  · exact absurd (hpq.mp a2) b2
  · exact absurd (hpq.mpr b2) a2
  · exact i32_eq (by omega)
end
section
/-! arcs; blips -/
def isB (r : Int32) (P : Prop) : Prop := (r = 1 ∧ P) ∨ (r = 0 ∧ ¬ P)
theorem isB_eq {r q : Int32} {P Q : Prop} (h : isB r P) (h2 : isB q Q) (hpq : P ↔ Q) : r = q := by
  rcases h with ⟨a1, a2⟩ | ⟨a1, a2⟩ <;> rcases h2 with ⟨b1, b2⟩ | ⟨b1, b2⟩
  · rw [a1, b1]
  · exact absurd (hpq.mp a2) b2
  · exact absurd (hpq.mpr b2) a2
  · rw [a1, b1]
theorem isB_0 {r : Int32} {P : Prop} (h : isB r P) (e : r = 0) : ¬ P := by
  rcases h with ⟨a1, a2⟩ | ⟨a1, a2⟩
  · rw [e] at a1; exact absurd a1 (by decide)
  · exact a2
theorem isB_1 {r : Int32} {P : Prop} (h : isB r P) (e : ¬ r = 0) : P := by
  rcases h with ⟨a1, a2⟩ | ⟨a1, a2⟩
  · exact a2
  · exact absurd a1 e
theorem isB_mk {r : Int32} {P : Prop} (h : (r.toInt = 1 ∧ P) ∨ (r.toInt = 0 ∧ ¬ P)) : isB r P := by
  rcases h with ⟨a1, a2⟩ | ⟨a1, a2⟩
  · exact Or.inl ⟨i32_eq (a1.trans (by decide)), a2⟩
  · exact Or.inr ⟨i32_eq (a1.trans (by decide)), a2⟩
theorem all_step {P : Nat → Prop} {x x' : Int32} (h : ∀ k : Nat, (k : Int) < x.toInt → P k) (h0 : 0 ≤ x.toInt) (hx : x'.toInt = x.toInt + 1) (hn : P x.toNatClampNeg) : ∀ k : Nat, (k : Int) < x'.toInt → P k := by
  intro k hk
  have tx := tN x h0
  by_cases c : k = x.toNatClampNeg
  · rw [c]; exact hn
  · exact h k (by omega)
theorem all_upd {P : Nat → Int32 → Prop} {f : Nat → Int32} {x x' v : Int32} (h : ∀ k : Nat, (k : Int) < x.toInt → P k (f k)) (h0 : 0 ≤ x.toInt) (hx : x'.toInt = x.toInt + 1) (hn : P x.toNatClampNeg v) : ∀ k : Nat, (k : Int) < x'.toInt → P k (upd f x.toNatClampNeg v k) := by
  intro k hk
  have tx := tN x h0
  unfold upd
  by_cases c : k = x.toNatClampNeg
  · rw [if_pos c, c]; exact hn
  · rw [if_neg c]; exact h k (by omega)
def arcA (v b m : Int) : Int := if v - b < 0 then v - b + m else v - b
def arcQ (s : Nat → Int32) (p3 p1 p4 p5 : Int32) : Prop := ∀ k : Nat, (k : Int) < p3.toInt → arcA (s k).toInt p1.toInt p4.toInt ≤ p5.toInt
def arcE (s : Nat → Int32) (p2 p3 p4 : Int32) : Prop := ∃ i : Nat, (i : Int) < p2.toInt ∧ arcQ s p2 (s i) p3 p4
theorem arcFrom_L {nn : Nat} {s : Nat → Int32} {p1 p3 p4 p5 : Int32} (hn : p3.toInt ≤ nn) (hp : p3.toInt ≤ 40) (h4 : p4.toInt ≤ 1000000) (hb : ∀ k : Nat, (k : Int) < p3.toInt → 0 ≤ (s k).toInt ∧ (s k).toInt < p4.toInt) (h1 : 0 ≤ p1.toInt ∧ p1.toInt < p4.toInt) :
    ∀ (n : Nat) (x : Int32), 0 ≤ x.toInt → x.toInt ≤ 41 → (∀ k : Nat, (k : Int) < x.toInt → arcA (s k).toInt p1.toInt p4.toInt ≤ p5.toInt) → 42 - x.toInt < (n : Int) → Sf (f_X11_lieOnArcFrom_L3 nn s p1 p3 p4 p5 n x) (fun r => isB r (arcQ s p3 p1 p4 p5)) := by
  intro n
  induction n with
  | zero => intro x h0 h1 h2 hm; exact absurd hm (by omega)
  | succ n ih =>
    intro x h0 hx h2 hme
    rw [f_X11_lieOnArcFrom_L3]
    refine Sf_ite (fun g => ?_) (fun g => ?_)
    · have g := leI g
      exact Sf_some (Or.inl ⟨rfl, fun k hk => h2 k (by omega)⟩)
    · have g := nleI g
      have tx := tN x h0
      refine Sf_rdI (by omega) (by omega) (fun v hv => ?_)
      have hb1 := hb x.toNatClampNeg (by omega)
      rw [← hv] at hb1
      refine Sf_nmI (fun w hw => ?_)
      have ew : w.toInt = v.toInt - p1.toInt := (eqI hw).trans (sbX v p1 (by omega) (by omega))
      have e1 := adN x 1 1 (by decide) (by omega) (by omega)
      have z : (0 : Int32).toInt = 0 := by decide
      have J : ∀ t : Int32, t.toInt = arcA v.toInt p1.toInt p4.toInt → Sf (f_X11_lieOnArcFrom_J31 p5 x (f_X11_lieOnArcFrom_L3 nn s p1 p3 p4 p5 n) t) (fun r => isB r (arcQ s p3 p1 p4 p5)) := by
        intro t ht
        rw [f_X11_lieOnArcFrom_J31]
        refine Sf_ite (fun g2 => ?_) (fun g2 => ?_)
        · have g2 := leI g2
          exact ih (x + 1) (by omega) (by omega) (all_step h2 h0 e1 (by rw [← hv, ← ht]; exact g2)) (by omega)
        · have g2 := nleI g2
          refine Sf_some (Or.inr ⟨rfl, fun w => ?_⟩)
          have := w x.toNatClampNeg (by omega)
          rw [← hv, ← ht] at this
          omega
      refine Sf_ite (fun g3 => J w ?_) (fun g3 => J (w + p4) ?_)
      · have g3 := leI g3
        unfold arcA; rw [if_neg (by omega)]; exact ew
      · have g3 := nleI g3
        rw [adX w p4 (by omega) (by omega), ew]; unfold arcA; rw [if_pos (by omega)]
theorem arcFrom_e {nn : Nat} {s : Nat → Int32} {p1 p3 p4 p5 : Int32} (hn : p3.toInt ≤ nn) (hp : p3.toInt ≤ 40) (h4 : p4.toInt ≤ 1000000) (hb : ∀ k : Nat, (k : Int) < p3.toInt → 0 ≤ (s k).toInt ∧ (s k).toInt < p4.toInt) (h1 : 0 ≤ p1.toInt ∧ p1.toInt < p4.toInt) : Sf (f_X11_lieOnArcFrom nn s p1 p3 p4 p5) (fun r => isB r (arcQ s p3 p1 p4 p5)) := by
  have hFU : (100000 : Int) ≤ (FU : Int) := Int.ofNat_le.mpr FU_ge
  have z : (0 : Int32).toInt = 0 := by decide
  rw [f_X11_lieOnArcFrom]
  exact arcFrom_L hn hp h4 hb h1 FU 0 (by omega) (by omega) (fun k hk => absurd hk (by omega)) (by omega)
theorem arc_L {nn : Nat} {s : Nat → Int32} {p2 p3 p4 : Int32} (hn : p2.toInt ≤ nn) (hp : p2.toInt ≤ 40) (h4 : p3.toInt ≤ 1000000) (hb : ∀ k : Nat, (k : Int) < p2.toInt → 0 ≤ (s k).toInt ∧ (s k).toInt < p3.toInt) :
    ∀ (n : Nat) (x : Int32), 0 ≤ x.toInt → x.toInt ≤ 41 → (∀ k : Nat, (k : Int) < x.toInt → ¬ arcQ s p2 (s k) p3 p4) → 42 - x.toInt < (n : Int) → Sf (f_X11_lieOnArc_L3 nn s p2 p3 p4 n x) (fun r => isB r (arcE s p2 p3 p4)) := by
  intro n
  induction n with
  | zero => intro x h0 h1 h2 hm; exact absurd hm (by omega)
  | succ n ih =>
    intro x h0 hx h2 hme
    rw [f_X11_lieOnArc_L3]
    refine Sf_ite (fun g => ?_) (fun g => ?_)
    · have g := leI g
      refine Sf_some (Or.inr ⟨rfl, fun w => ?_⟩)
      obtain ⟨i, h3, h5⟩ := w
      exact h2 i (by omega) h5
    · have g := nleI g
      have tx := tN x h0
      refine Sf_rdI (by omega) (by omega) (fun v hv => ?_)
      have hb1 := hb x.toNatClampNeg (by omega)
      rw [← hv] at hb1
      have e1 := adN x 1 1 (by decide) (by omega) (by omega)
      refine Sf_cb1 (arcFrom_e hn hp h4 hb hb1) (fun r hr => ?_)
      refine Sf_ite (fun g2 => ?_) (fun g2 => ?_)
      · refine Sf_nmI (fun w hw => ?_)
        subst hw
        exact ih (x + 1) (by omega) (by omega) (all_step h2 h0 e1 (by rw [← hv]; exact isB_0 hr g2)) (by omega)
      · exact Sf_some (Or.inl ⟨rfl, x.toNatClampNeg, by omega, by rw [← hv]; exact isB_1 hr g2⟩)
theorem arc_e {nn : Nat} {s : Nat → Int32} {p2 p3 p4 : Int32} (hn : p2.toInt ≤ nn) (hp : p2.toInt ≤ 40) (h4 : p3.toInt ≤ 1000000) (hb : ∀ k : Nat, (k : Int) < p2.toInt → 0 ≤ (s k).toInt ∧ (s k).toInt < p3.toInt) : Sf (f_X11_lieOnArc nn s p2 p3 p4) (fun r => isB r (arcE s p2 p3 p4)) := by
  have hFU : (100000 : Int) ≤ (FU : Int) := Int.ofNat_le.mpr FU_ge
  have z : (0 : Int32).toInt = 0 := by decide
  rw [f_X11_lieOnArc]
  exact arc_L hn hp h4 hb FU 0 (by omega) (by omega) (fun k hk => absurd hk (by omega)) (by omega)
theorem jrem_nn (x y : Int32) (hx : 0 ≤ x.toInt) (hy : 0 < y.toInt) : (jrem x y).toInt = x.toInt % y.toInt := by
  have hd := dv_ x y y.toInt hy rfl
  have h1 := ub x.toInt y.toInt hy
  have hr := rgI y
  unfold jrem
  have e : (x - x / y * y).toInt = x.toInt - x.toInt.tdiv y.toInt * y.toInt := by
    rw [Int32.toInt_sub, Int32.toInt_mul, hd, Int.sub_bmod_bmod]
    exact Int.bmod_eq_of_le (by omega) (by omega)
  rw [e, Int.tdiv_eq_ediv_of_nonneg hx, Int.emod_def, Int.mul_comm]
/-- the reference's way round -/
theorem arc_m {v b m : Int} (h1 : 0 ≤ v ∧ v < m) (h2 : 0 ≤ b ∧ b < m) : (v - b + m) % m = arcA v b m := by
  unfold arcA
  by_cases c : v - b < 0
  · rw [if_pos c]; exact Int.emod_eq_of_lt (by omega) (by omega)
  · rw [if_neg c, Int.add_emod_right]; exact Int.emod_eq_of_lt (by omega) (by omega)
def FitP (T : Nat → Int32) (many : Int32) (p e : Int) : Prop := ∃ i : Nat, (i : Int) < many.toInt ∧ ∀ k : Nat, (k : Int) < many.toInt → arcA ((T k).toInt % p) ((T i).toInt % p) p ≤ 2 * e
theorem fitTo_L {many p : Int32} {T : Nat → Int32} {K : (Nat → Int32) → Option (Int32 × (Nat → Int32))} {P : Int32 × (Nat → Int32) → Prop} (hm : 0 ≤ many.toInt) (hm2 : many.toInt ≤ 40) (hp : 1 ≤ p.toInt) (hK : ∀ g : Nat → Int32, (∀ k : Nat, (k : Int) < many.toInt → g k = jrem (T k) p) → Sf (K g) P) :
    ∀ (n : Nat) (x : Int32) (g : Nat → Int32), 0 ≤ x.toInt → x.toInt ≤ 40 → (∀ k : Nat, (k : Int) < x.toInt → g k = jrem (T k) p) → 41 - x.toInt < (n : Int) → Sf (f_X0_fitTo_L9 many T p K n x g) P := by
  intro n
  induction n with
  | zero => intro x g h0 h1 h2 hm; exact absurd hm (by omega)
  | succ n ih =>
    intro x g h0 hx h2 hme
    rw [f_X0_fitTo_L9]
    refine Sf_ite (fun c => ?_) (fun c => ?_)
    · have c := leI c
      exact hK g (fun k hk => h2 k (by omega))
    · have c := nleI c
      have e1 := adN x 1 1 (by decide) (by omega) (by omega)
      refine Sf_rdI (by omega) (by omega) (fun v hv => ?_)
      refine Sf_dvI (by omega) ?_
      refine Sf_nmI (fun w hw => ?_)
      refine Sf_wrI (by omega) (by omega) (fun g2 hg => ?_)
      refine Sf_nmI (fun w2 hw2 => ?_)
      subst hw2
      refine ih (x + 1) g2 (by omega) (by omega) ?_ (by omega)
      rw [hg]
      exact all_upd (P := fun k z => z = jrem (T k) p) h2 h0 e1 (by rw [hw, hv])
theorem fitTo_e {many p e : Int32} {rs T : Nat → Int32} (hm : 0 ≤ many.toInt) (hm2 : many.toInt ≤ 40) (hp : 1 ≤ p.toInt) (hp2 : p.toInt ≤ 1000000) (he : 0 ≤ e.toInt) (he2 : e.toInt ≤ 1000) (hb : ∀ j, 0 ≤ (T j).toInt ∧ (T j).toInt ≤ 1000000000) : Sf (f_X0_fitTo many rs T p e) (fun y => isB y.1 (FitP T many p.toInt e.toInt)) := by
  have hFU : (100000 : Int) ≤ (FU : Int) := Int.ofNat_le.mpr FU_ge
  have z : (0 : Int32).toInt = 0 := by decide
  have o : (1 : Int32).toInt = 1 := by decide
  rw [f_X0_fitTo]
  refine Sf_ite (fun c => ?_) (fun c => absurd (nleI c) (by omega))
  refine fitTo_L hm hm2 hp (fun g hg => ?_) FU 0 rs (by omega) (by omega) (fun k hk => absurd hk (by omega)) (by omega)
  rw [f_X0_fitTo_J37]
  have e2 := mlY 2 e 2 (by decide) (by omega) (by omega)
  have hv : ∀ k : Nat, (k : Int) < many.toInt → (g k).toInt = (T k).toInt % p.toInt := fun k hk => by rw [hg k hk]; exact jrem_nn _ _ (hb k).1 (by omega)
  refine Sf_cb1 (arc_e (p2 := many) (by omega) hm2 hp2 (fun k hk => ?_)) (fun r hr => ?_)
  · rw [hv k hk]
    exact ⟨Int.emod_nonneg _ (by omega), Int.emod_lt_of_pos _ (by omega)⟩
  · have hq : isB r (FitP T many p.toInt e.toInt) := by
      have hiff : arcE g many p (2 * e) ↔ FitP T many p.toInt e.toInt := by
        unfold arcE FitP arcQ
        constructor
        · rintro ⟨i, h1, h2⟩
          refine ⟨i, h1, fun k hk => ?_⟩
          have := h2 k hk
          rw [hv k hk, hv i h1, e2] at this
          exact this
        · rintro ⟨i, h1, h2⟩
          refine ⟨i, h1, fun k hk => ?_⟩
          rw [hv k hk, hv i h1, e2]
          exact h2 k hk
      rcases hr with ⟨a1, a2⟩ | ⟨a1, a2⟩
      · exact Or.inl ⟨a1, hiff.mp a2⟩
      · exact Or.inr ⟨a1, fun w => a2 (hiff.mpr w)⟩
    refine Sf_bo ?_ (Sf_some hq)
    rcases hr with ⟨a1, a2⟩ | ⟨a1, a2⟩
    · rw [a1]; exact Or.inr rfl
    · rw [a1]; exact Or.inl rfl
theorem isFit_L16 {many p e i : Int32} {T : Nat → Int32} {K : Int32 → Option Int32} {P : Int32 → Prop} (hm : 0 ≤ many.toInt) (hm2 : many.toInt ≤ 40) (hp : 1 ≤ p.toInt) (hp2 : p.toInt ≤ 1000000) (he : 0 ≤ e.toInt) (he2 : e.toInt ≤ 1000) (hb : ∀ j, 0 ≤ (T j).toInt ∧ (T j).toInt ≤ 1000000000) (hi : 0 ≤ i.toInt) (hi2 : i.toInt < many.toInt)
    (hK : ∀ c : Int32, (c.toInt = many.toInt ↔ ∀ k : Nat, (k : Int) < many.toInt → arcA ((T k).toInt % p.toInt) ((T i.toNatClampNeg).toInt % p.toInt) p.toInt ≤ 2 * e.toInt) → Sf (K c) P) :
    ∀ (n : Nat) (c x : Int32), 0 ≤ x.toInt → x.toInt ≤ many.toInt → 0 ≤ c.toInt → c.toInt ≤ x.toInt → (c.toInt = x.toInt ↔ ∀ k : Nat, (k : Int) < x.toInt → arcA ((T k).toInt % p.toInt) ((T i.toNatClampNeg).toInt % p.toInt) p.toInt ≤ 2 * e.toInt) → 41 - x.toInt < (n : Int) → Sf (f_X12_isFit_L16 many T p e i K n c x) P := by
  intro n
  induction n with
  | zero => intro c x h0 h1 h2 h3 h4 hm; exact absurd hm (by omega)
  | succ n ih =>
    intro c x h0 hx h2 h3 h4 hme
    rw [f_X12_isFit_L16]
    refine Sf_ite (fun g => ?_) (fun g => ?_)
    · have g := leI g
      have ex : x.toInt = many.toInt := by omega
      rw [ex] at h4
      exact hK c h4
    · have g := nleI g
      have tx := tN x h0
      have e1 := adN x 1 1 (by decide) (by omega) (by omega)
      have e0 := adN c 0 0 (by decide) (by omega) (by omega)
      have ec := adN c 1 1 (by decide) (by omega) (by omega)
      have e2 := mlY 2 e 2 (by decide) (by omega) (by omega)
      refine Sf_rdI (by omega) (by omega) (fun v hv => ?_)
      refine Sf_dvI (by omega) ?_
      refine Sf_rdI (by omega) (by omega) (fun w hw => ?_)
      refine Sf_dvI (by omega) (Sf_dvI (by omega) ?_)
      have ev : (jrem v p).toInt = (T x.toNatClampNeg).toInt % p.toInt := by rw [hv]; exact jrem_nn _ _ (hb _).1 (by omega)
      have ew : (jrem w p).toInt = (T i.toNatClampNeg).toInt % p.toInt := by rw [hw]; exact jrem_nn _ _ (hb _).1 (by omega)
      have n1 := Int.emod_nonneg (T x.toNatClampNeg).toInt (show p.toInt ≠ 0 by omega)
      have n2 := Int.emod_lt_of_pos (T x.toNatClampNeg).toInt (show 0 < p.toInt by omega)
      have n3 := Int.emod_nonneg (T i.toNatClampNeg).toInt (show p.toInt ≠ 0 by omega)
      have n4 := Int.emod_lt_of_pos (T i.toNatClampNeg).toInt (show 0 < p.toInt by omega)
      have es := sbX (jrem v p) (jrem w p) (by omega) (by omega)
      have ea := adX (jrem v p - jrem w p) p (by omega) (by omega)
      have er : (jrem (jrem v p - jrem w p + p) p).toInt = arcA ((T x.toNatClampNeg).toInt % p.toInt) ((T i.toNatClampNeg).toInt % p.toInt) p.toInt := by
        rw [jrem_nn _ _ (by omega) (by omega), ea, es, ev, ew]
        exact arc_m ⟨n1, n2⟩ ⟨n3, n4⟩
      refine Sf_ite (fun g2 => ?_) (fun g2 => ?_)
      · have g2 := ltI g2
        rw [er, e2] at g2
        refine Sf_nmI (fun c2 hc2 => Sf_nmI (fun x2 hx2 => ?_))
        subst hc2; subst hx2
        refine ih (c + 0) (x + 1) (by omega) (by omega) (by omega) (by omega) ⟨fun w => absurd w (by omega), fun w => ?_⟩ (by omega)
        have := w x.toNatClampNeg (by omega)
        omega
      · have g2 := nltI g2
        rw [er, e2] at g2
        refine Sf_nmI (fun c2 hc2 => Sf_nmI (fun x2 hx2 => ?_))
        subst hc2; subst hx2
        refine ih (c + 1) (x + 1) (by omega) (by omega) (by omega) (by omega) ⟨fun w => ?_, fun w => ?_⟩ (by omega)
        · exact all_step (h4.mp (by omega)) h0 e1 g2
        · have := h4.mpr (fun k hk => w k (by omega))
          omega
theorem isFit_L2 {many p e : Int32} {T : Nat → Int32} (hm : 0 ≤ many.toInt) (hm2 : many.toInt ≤ 40) (hp : 1 ≤ p.toInt) (hp2 : p.toInt ≤ 1000000) (he : 0 ≤ e.toInt) (he2 : e.toInt ≤ 1000) (hb : ∀ j, 0 ≤ (T j).toInt ∧ (T j).toInt ≤ 1000000000) :
    ∀ (n : Nat) (x : Int32), 0 ≤ x.toInt → x.toInt ≤ many.toInt → (∀ i : Nat, (i : Int) < x.toInt → ¬ ∀ k : Nat, (k : Int) < many.toInt → arcA ((T k).toInt % p.toInt) ((T i).toInt % p.toInt) p.toInt ≤ 2 * e.toInt) → 41 - x.toInt < (n : Int) → Sf (f_X12_isFit_L2 many T p e n x) (fun r => isB r (FitP T many p.toInt e.toInt)) := by
  have hFU : (100000 : Int) ≤ (FU : Int) := Int.ofNat_le.mpr FU_ge
  have z : (0 : Int32).toInt = 0 := by decide
  intro n
  induction n with
  | zero => intro x h0 h1 h2 hm; exact absurd hm (by omega)
  | succ n ih =>
    intro x h0 hx h2 hme
    rw [f_X12_isFit_L2]
    refine Sf_ite (fun g => ?_) (fun g => ?_)
    · have g := leI g
      refine Sf_some (Or.inr ⟨rfl, fun w => ?_⟩)
      obtain ⟨i, h3, h5⟩ := w
      exact h2 i (by omega) h5
    · have g := nleI g
      have tx := tN x h0
      have e1 := adN x 1 1 (by decide) (by omega) (by omega)
      refine isFit_L16 hm hm2 hp hp2 he he2 hb h0 g (fun c hc => ?_) FU 0 0 (by omega) (by omega) (by omega) (by omega) ⟨fun _ k hk => absurd hk (by omega), fun _ => rfl⟩ (by omega)
      rw [f_X12_isFit_J69]
      refine Sf_ite (fun g2 => ?_) (fun g2 => ?_)
      · exact Sf_some (Or.inl ⟨rfl, x.toNatClampNeg, by omega, hc.mp (eqI g2)⟩)
      · refine Sf_nmI (fun w hw => ?_)
        subst hw
        exact ih (x + 1) (by omega) (by omega) (all_step h2 h0 e1 (fun w => neI g2 (hc.mpr w))) (by omega)
theorem isFit_e {many p e : Int32} {T : Nat → Int32} (hm : 0 ≤ many.toInt) (hm2 : many.toInt ≤ 40) (hp : 1 ≤ p.toInt) (hp2 : p.toInt ≤ 1000000) (he : 0 ≤ e.toInt) (he2 : e.toInt ≤ 1000) (hb : ∀ j, 0 ≤ (T j).toInt ∧ (T j).toInt ≤ 1000000000) : Sf (f_X12_isFit many T p e) (fun r => isB r (FitP T many p.toInt e.toInt)) := by
  have hFU : (100000 : Int) ≤ (FU : Int) := Int.ofNat_le.mpr FU_ge
  have z : (0 : Int32).toInt = 0 := by decide
  rw [f_X12_isFit]
  exact isFit_L2 hm hm2 hp hp2 he he2 hb FU 0 (by omega) (by omega) (fun k hk => absurd hk (by omega)) (by omega)
/-- both at once -/
theorem fit_2 {many p e : Int32} {T : Nat → Int32} (rs : Nat → Int32) (hm : 0 ≤ many.toInt) (hm2 : many.toInt ≤ 40) (hp : 1 ≤ p.toInt) (hp2 : p.toInt ≤ 1000000) (he : 0 ≤ e.toInt) (he2 : e.toInt ≤ 1000) (hb : ∀ j, 0 ≤ (T j).toInt ∧ (T j).toInt ≤ 1000000000) : ∃ (r : Int32) (rs' : Nat → Int32), f_X0_fitTo many rs T p e = some (r, rs') ∧ f_X12_isFit many T p e = some r := by
  obtain ⟨⟨r, rs'⟩, e1, h1⟩ := fitTo_e (rs := rs) hm hm2 hp hp2 he he2 hb
  obtain ⟨q, e2, h2⟩ := isFit_e hm hm2 hp hp2 he he2 hb
  have : r = q := isB_eq h1 h2 Iff.rfl
  exact ⟨r, rs', e1, by rw [e2, this]⟩
def scQ (c l g : Int32) : Prop := (c.toInt = 0 ∧ l.toInt = -1 ∧ g.toInt = -1) ∨ (1 ≤ c.toInt ∧ 1 ≤ l.toInt ∧ l.toInt ≤ g.toInt ∧ g.toInt ≤ 1000000 ∧ (c.toInt = 1 → l.toInt = g.toInt) ∧ (2 ≤ c.toInt → l.toInt < g.toInt))
theorem scan_2 {many to e : Int32} {T : Nat → Int32} (hm : 0 ≤ many.toInt) (hm2 : many.toInt ≤ 40) (ht : to.toInt ≤ 1000000) (he : 0 ≤ e.toInt) (he2 : e.toInt ≤ 1000) (hb : ∀ j, 0 ≤ (T j).toInt ∧ (T j).toInt ≤ 1000000000) :
    ∀ (n : Nat) (x c g l : Int32) (rs : Nat → Int32), 1 ≤ x.toInt → x.toInt ≤ to.toInt + 1 → c.toInt ≤ x.toInt → g.toInt < x.toInt → scQ c l g → to.toInt - x.toInt + 2 < (n : Int) →
    ∃ (c' l' g' : Int32) (rs' : Nat → Int32), f_X0_scan_L18 many T to e n x c g l rs = some (c', l', g', rs') ∧ f_X12_fitsAll_L18 many T to e n x l c g = some (c', l', g') ∧ scQ c' l' g' := by
  intro n
  induction n with
  | zero => intro x c g l rs h0 h1 h2 h3 h4 hm; exact absurd hm (by omega)
  | succ n ih =>
    intro x c g l rs h0 hx h2 h3 h4 hme
    rw [f_X0_scan_L18, f_X12_fitsAll_L18]
    by_cases c1 : to < x
    · rw [if_pos c1, if_pos c1]
      exact ⟨c, l, g, rs, rfl, rfl, h4⟩
    · have c2 := nltI c1
      rw [if_neg c1, if_neg c1]
      have e1 := adN x 1 1 (by decide) (by omega) (by omega)
      have z : (0 : Int32).toInt = 0 := by decide
      have zm : (-1 : Int32).toInt = -1 := by decide
      obtain ⟨r, rs', q1, q2⟩ := fit_2 (p := x) (e := e) (T := T) rs hm hm2 (by omega) (by omega) he he2 hb
      rw [q1, q2]
      show ∃ c' l' g' rs'', (if r = 0 then _ else _) = _ ∧ (if r = 0 then _ else _) = _ ∧ _
      by_cases c3 : r = 0
      · rw [if_pos c3, if_pos c3]
        exact ih (x + 1) c g l rs' (by omega) (by omega) (by omega) (by omega) h4 (by omega)
      · rw [if_neg c3, if_neg c3]
        have ec : (c + 1).toInt = c.toInt + 1 := adN c 1 1 (by decide) (by rcases h4 with h | h <;> omega) (by omega)
        show ∃ c' l' g' rs'', _ = _ ∧ (if l = -1 then _ else _) = _ ∧ _
        by_cases c4 : c = 0
        · have c5 : l = -1 := by
            have := eqI c4
            rcases h4 with h | h
            · exact i32_eq (by omega)
            · exfalso; omega
          rw [if_pos c4, if_pos c5]
          have := eqI c4
          exact ih (x + 1) (c + 1) x x rs' (by omega) (by omega) (by omega) (by omega) (Or.inr ⟨by omega, by omega, by omega, by omega, fun _ => rfl, fun w => by omega⟩) (by omega)
        · have c5 : ¬ l = -1 := fun w => by
            have h5 := eqI w
            have h6 := neI c4
            rcases h4 with h | h <;> omega
          rw [if_neg c4, if_neg c5]
          have h6 := neI c4
          have h7 := h4.resolve_left (fun w => by omega)
          exact ih (x + 1) (c + 1) x l rs' (by omega) (by omega) (by omega) (by omega) (Or.inr ⟨by omega, by omega, by omega, by omega, fun w => by omega, fun w => by omega⟩) (by omega)
theorem scan_e {many fr to e c0 l0 g0 c1 l1 g1 : Int32} {T : Nat → Int32} (rs : Nat → Int32) (hm : 0 ≤ many.toInt) (hm2 : many.toInt ≤ 40) (hf : 1 ≤ fr.toInt) (hf2 : fr.toInt ≤ to.toInt) (hf3 : to.toInt ≤ fr.toInt + 2000) (ht : to.toInt ≤ 1000000) (he : 0 ≤ e.toInt) (he2 : e.toInt ≤ 1000) (hb : ∀ j, 0 ≤ (T j).toInt ∧ (T j).toInt ≤ 1000000000) :
    ∃ (c l g : Int32) (rs' : Nat → Int32), f_X0_scan many c0 l0 g0 rs T fr to e = some (c, l, g, rs') ∧ f_X12_fitsAll many c1 l1 g1 T fr to e = some (c, l, g) ∧ scQ c l g := by
  have hFU : (100000 : Int) ≤ (FU : Int) := Int.ofNat_le.mpr FU_ge
  have z : (0 : Int32).toInt = 0 := by decide
  have zm : (-1 : Int32).toInt = -1 := by decide
  rw [f_X0_scan, f_X12_fitsAll]
  exact scan_2 hm hm2 ht he he2 hb FU fr 0 (-1) (-1) rs hf (by omega) (by omega) (by omega) (Or.inl ⟨z, zm, zm⟩) (by omega)
end
section
def FOK (many p e : Int32) : Prop := 1 ≤ p.toInt ∧ p.toInt ≤ 1000000 ∧ 0 ≤ e.toInt ∧ e.toInt ≤ 1000 ∧ 2 * e.toInt < p.toInt ∧ 2 ≤ many.toInt
theorem fits_x {many p e : Int32} {rs T : Nat → Int32} (hm : 0 ≤ many.toInt) (hm2 : many.toInt ≤ 40) (hb : ∀ j, 0 ≤ (T j).toInt ∧ (T j).toInt ≤ 1000000000) : Sf (f_X11_fits many rs T p e) (fun y => (FOK many p e ∧ isB y.1 (FitP T many p.toInt e.toInt)) ∨ (¬ FOK many p e ∧ y.1 = -1)) := by
  have z : (0 : Int32).toInt = 0 := by decide
  have z2 : (2 : Int32).toInt = 2 := by decide
  have z1000 : (1000 : Int32).toInt = 1000 := by decide
  rw [f_X11_fits]
  refine Sf_cb1 (s_X11_isBeat p) (fun r hr => ?_)
  have hr := hr.2
  refine Sf_ite (fun g => Sf_some (Or.inr ⟨fun w => ?_, rfl⟩)) (fun g => ?_)
  · have := eqI g; have := w.1; have := w.2.1; omega
  have g := neI g
  refine Sf_cb1 (s_X11_isWithin e 0 1000) (fun r2 hr2 => ?_)
  have hr2 := hr2.2
  refine Sf_ite (fun g2 => Sf_some (Or.inr ⟨fun w => ?_, rfl⟩)) (fun g2 => ?_)
  · have := eqI g2; have := w.2.2.1; have := w.2.2.2.1; omega
  have g2 := neI g2
  have e2 := mlY 2 e 2 (by decide) (by omega) (by omega)
  refine Sf_ite (fun g3 => Sf_some (Or.inr ⟨fun w => ?_, rfl⟩)) (fun g3 => ?_)
  · have := leI g3; have := w.2.2.2.2.1; omega
  have g3 := nleI g3
  refine Sf_ite (fun g4 => ?_) (fun g4 => Sf_some (Or.inr ⟨fun w => ?_, rfl⟩))
  · have g4 := leI g4
    refine Sf_cb2 (fitTo_e hm hm2 (by omega) (by omega) (by omega) (by omega) hb) (fun q rs' hq => ?_)
    have hF : FOK many p e := ⟨by omega, by omega, by omega, by omega, by omega, by omega⟩
    refine Sf_ite (fun g5 => Sf_some (Or.inl ⟨hF, Or.inr ⟨rfl, isB_0 hq g5⟩⟩)) (fun g5 => Sf_some (Or.inl ⟨hF, Or.inl ⟨rfl, isB_1 hq g5⟩⟩))
  · have := nleI g4; have := w.2.2.2.2.2; omega
theorem fits_m {many p e : Int32} {T : Nat → Int32} (hm : 0 ≤ many.toInt) (hm2 : many.toInt ≤ 40) (hb : ∀ j, 0 ≤ (T j).toInt ∧ (T j).toInt ≤ 1000000000) : Sf (f_X12_fits many T p e) (fun y => (FOK many p e ∧ isB y (FitP T many p.toInt e.toInt)) ∨ (¬ FOK many p e ∧ y = -1)) := by
  have z : (0 : Int32).toInt = 0 := by decide
  have z1 : (1 : Int32).toInt = 1 := by decide
  have a0 : (0 : Int64).toInt = 0 := by decide
  have a1000 : (1000 : Int64).toInt = 1000 := by decide
  have t1 := t64 e
  rw [f_X12_fits]
  refine Sf_cb1 (s_X12_isBeat p) (fun r hr => ?_)
  have hr := hr.2
  refine Sf_ite (fun g => Sf_some (Or.inr ⟨fun w => ?_, rfl⟩)) (fun g => ?_)
  · have := eqI g; have := w.1; have := w.2.1; omega
  have g := neI g
  refine Sf_cb1 (s_X12_lies (Int32.toInt64 e) 0 1000) (fun r2 hr2 => ?_)
  have hr2 := hr2.2
  refine Sf_ite (fun g2 => Sf_some (Or.inr ⟨fun w => ?_, rfl⟩)) (fun g2 => ?_)
  · have := eqI g2; have := w.2.2.1; have := w.2.2.2.1; omega
  have g2 := neI g2
  have e2 := mlY 2 e 2 (by decide) (by omega) (by omega)
  refine Sf_ite (fun g3 => Sf_some (Or.inr ⟨fun w => ?_, rfl⟩)) (fun g3 => ?_)
  · have := leI g3; have := w.2.2.2.2.1; omega
  have g3 := nleI g3
  refine Sf_ite (fun g4 => Sf_some (Or.inr ⟨fun w => ?_, rfl⟩)) (fun g4 => ?_)
  · have := leI g4; have := w.2.2.2.2.2; omega
  · have g4 := nleI g4
    refine Sf_cb1 (isFit_e hm hm2 (by omega) (by omega) (by omega) (by omega) hb) (fun q hq => ?_)
    have hF : FOK many p e := ⟨by omega, by omega, by omega, by omega, by omega, by omega⟩
    refine Sf_ite (fun g5 => Sf_some (Or.inl ⟨hF, Or.inr ⟨rfl, isB_0 hq g5⟩⟩)) (fun g5 => Sf_some (Or.inl ⟨hF, Or.inl ⟨rfl, isB_1 hq g5⟩⟩))
theorem pe_16 {many y1 y2 rx rm : Int32} {rs rs' T : Nat → Int32} (ex : f_X11_fits many rs T y1 y2 = some (rx, rs')) (em : f_X12_fits many T y1 y2 = some rm) (hm : 0 ≤ many.toInt) (hm2 : many.toInt ≤ 40) (hb : ∀ j, 0 ≤ (T j).toInt ∧ (T j).toInt ≤ 1000000000) : rx = rm := by
  have px := Sf_det ex (fits_x hm hm2 hb)
  have pm := Sf_det em (fits_m hm hm2 hb)
  dsimp only at px pm
  rcases px with ⟨a1, a2⟩ | ⟨a1, a2⟩ <;> rcases pm with ⟨b1, b2⟩ | ⟨b1, b2⟩
  · exact isB_eq a2 b2 Iff.rfl
  · exact absurd a1 b1
  · exact absurd b1 a1
  · rw [a2, b2]
def SCK (many p1 p2 p3 : Int32) : Prop := 1 ≤ p1.toInt ∧ p1.toInt ≤ 1000000 ∧ 1 ≤ p2.toInt ∧ p2.toInt ≤ 1000000 ∧ 0 ≤ p3.toInt ∧ p3.toInt ≤ 1000 ∧ p1.toInt ≤ p2.toInt ∧ p2.toInt ≤ p1.toInt + 2000 ∧ 2 * p3.toInt < p1.toInt ∧ 2 ≤ many.toInt
theorem can_2 {many p1 p2 p3 : Int32} (hm : 0 ≤ many.toInt) (hm2 : many.toInt ≤ 40) : ∃ r : Int32, f_X11_canScan many p1 p2 p3 = some r ∧ f_X12_canBeat many p1 p2 p3 = some r ∧ isB r (SCK many p1 p2 p3) := by
  obtain ⟨r, e1, h1⟩ := e_X11_canScan many p1 p2 p3 hm hm2
  obtain ⟨q, e2, h2⟩ := e_X12_canBeat many p1 p2 p3 hm hm2
  have h1 : isB r (SCK many p1 p2 p3) := isB_mk h1.2
  have h2 : isB q (SCK many p1 p2 p3) := isB_mk h2.2
  have : r = q := isB_eq h1 h2 Iff.rfl
  exact ⟨r, e1, by rw [e2, this], h1⟩
theorem within_2 {p : Int32} (a b : Int32) (A B : Int64) (hA : A.toInt = a.toInt) (hB : B.toInt = b.toInt) : ∃ r : Int32, f_X11_isWithin p a b = some r ∧ f_X12_lies (Int32.toInt64 p) A B = some r ∧ isB r (a.toInt ≤ p.toInt ∧ p.toInt ≤ b.toInt) := by
  obtain ⟨r, e1, h1⟩ := s_X11_isWithin p a b
  obtain ⟨q, e2, h2⟩ := s_X12_lies (Int32.toInt64 p) A B
  have h1 := h1.2
  have h2 := h2.2
  rw [t64, hA, hB] at h2
  have h1 : isB r (a.toInt ≤ p.toInt ∧ p.toInt ≤ b.toInt) := isB_mk (by omega)
  have h2 : isB q (a.toInt ≤ p.toInt ∧ p.toInt ≤ b.toInt) := isB_mk (by omega)
  have : r = q := isB_eq h1 h2 Iff.rfl
  exact ⟨r, e1, by rw [e2, this], h1⟩
theorem pe_17 {many y1 y2 y3 y4 c0 l0 g0 c1 l1 g1 rx c2 l2 g2 rm c3 l3 g3 : Int32} {rs rs' T : Nat → Int32} (ex : f_X11_beats many c0 l0 g0 rs T y1 y2 y3 y4 = some (rx, c2, l2, g2, rs')) (em : f_X12_beats many c1 l1 g1 T y1 y2 y3 y4 = some (rm, c3, l3, g3)) (hm : 0 ≤ many.toInt) (hm2 : many.toInt ≤ 40) (hb : ∀ j, 0 ≤ (T j).toInt ∧ (T j).toInt ≤ 1000000000) : rx = rm := by
  obtain ⟨r, q1, q2, hr⟩ := can_2 (many := many) (p1 := y1) (p2 := y2) (p3 := y3) hm hm2
  obtain ⟨r2, q3, q4, hr2⟩ := within_2 (p := y4) 0 2 0 2 (by decide) (by decide)
  rw [f_X11_beats, q1, cb1_o, q3] at ex
  rw [f_X12_beats, q2, cb1_o, q4] at em
  by_cases c : r = 0
  · rw [if_pos c] at ex em
    cases ex; cases em; rfl
  · rw [if_neg c, cb1_o] at ex em
    obtain ⟨s1, s2, s3, s4, s5, s6, s7, s8, s9, s10⟩ := isB_1 hr c
    by_cases d : r2 = 0
    · rw [if_pos d] at ex em
      cases ex; cases em; rfl
    · rw [if_neg d] at ex em
      obtain ⟨c', l', g', rs3, w1, w2, w3⟩ := scan_e (T := T) (c0 := c0) (l0 := l0) (g0 := g0) (c1 := c1) (l1 := l1) (g1 := g1) rs hm hm2 s1 s7 s8 s4 s5 s6 hb
      rw [w1, cb4_o] at ex
      rw [w2, cb3_o] at em
      by_cases f : y4 = 0
      · rw [if_pos f] at ex em
        cases ex; cases em; rfl
      · rw [if_neg f] at ex em
        by_cases f2 : y4 = 1
        · rw [if_pos f2] at ex em
          cases ex; cases em; rfl
        · rw [if_neg f2] at ex em
          cases ex; cases em; rfl
theorem beatsTo_e {T : Nat → Int32} {i p : Int32} (hp : 1 ≤ p.toInt) : f_X0_beatsTo T i p = f_X12_countOf T i p := by
  have o : (1 : Int32).toInt = 1 := by decide
  rw [f_X0_beatsTo, f_X12_countOf, if_pos (Int32.le_iff_toInt_le.mpr (by omega))]
  rfl
theorem pe_18 {many y1 y2 rx rm : Int32} {T : Nat → Int32} (ex : f_X11_counted many T y1 y2 = some rx) (em : f_X12_counted many T y1 y2 = some rm) (hm : 0 ≤ many.toInt) (hm2 : many.toInt ≤ 40) : rx = rm := by
  have em1 := sbN many 1 1 (by decide) (by omega) (by omega)
  obtain ⟨r, q1, q2, hr⟩ := within_2 (p := y1) 0 (many - 1) 0 (Int32.toInt64 (many - 1)) (by decide) (t64 _)
  obtain ⟨b1, p1, h1⟩ := s_X11_isBeat y2
  obtain ⟨b2, p2, h2⟩ := s_X12_isBeat y2
  have hbb : b1 = b2 := i32_eq (by have := h1.2; have := h2.2; omega)
  rw [f_X11_counted, p1, cb1_o, q1] at ex
  rw [f_X12_counted, q2, cb1_o, p2] at em
  by_cases c : b1 = 0
  · rw [if_pos c] at ex
    by_cases d : r = 0
    · rw [if_pos d] at em
      cases ex; cases em; rfl
    · rw [if_neg d, cb1_o, if_pos (by rw [← hbb]; exact c)] at em
      cases ex; cases em; rfl
  · rw [if_neg c, cb1_o] at ex
    by_cases d : r = 0
    · rw [if_pos d] at ex em
      cases ex; cases em; rfl
    · rw [if_neg d] at ex
      rw [if_neg d, cb1_o, if_neg (by rw [← hbb]; exact c)] at em
      have hy : 1 ≤ y2.toInt := by
        have := h1.2
        have := neI c
        have z : (0 : Int32).toInt = 0 := by decide
        omega
      rw [beatsTo_e hy] at ex
      rw [ex] at em
      cases em
      rfl
theorem alike_2 {many l g c : Int32} {T : Nat → Int32} (hm : 0 ≤ many.toInt) (hm2 : many.toInt ≤ 40) (hl : 1 ≤ l.toInt) (hg : 1 ≤ g.toInt) : ∀ (n : Nat) (x : Int32), 0 ≤ x.toInt → x.toInt ≤ 40 → 41 - x.toInt < (n : Int) → ∃ r : Int32, f_X0_countAlike_L2 many T l g n x = some r ∧ f_X12_sure_L32 many T c l g n x = some (r, c, l, g) ∧ (r = 0 ∨ r = 1) := by
  intro n
  induction n with
  | zero => intro x h0 h1 hm; exact absurd hm (by omega)
  | succ n ih =>
    intro x h0 hx hme
    rw [f_X0_countAlike_L2, f_X12_sure_L32]
    by_cases c1 : many ≤ x
    · rw [if_pos c1, if_pos c1]
      exact ⟨1, rfl, rfl, Or.inr rfl⟩
    · have c2 := nleI c1
      have e1 := adN x 1 1 (by decide) (by omega) (by omega)
      rw [if_neg c1, if_neg c1, beatsTo_e hl, beatsTo_e hg]
      obtain ⟨a, p1, -⟩ := s_X12_countOf T x l (by omega) (by omega) (by omega)
      obtain ⟨b, p2, -⟩ := s_X12_countOf T x g (by omega) (by omega) (by omega)
      rw [p1, p2, cb1_o, cb1_o, cb1_o, cb1_o]
      by_cases d : a = b
      · rw [if_pos d, if_pos d]
        exact ih (x + 1) (by omega) (by omega) (by omega)
      · rw [if_neg d, if_neg d]
        exact ⟨0, rfl, rfl, Or.inl rfl⟩
theorem pe_19 {many y1 y2 y3 c0 l0 g0 c1 l1 g1 rx c2 l2 g2 rm c3 l3 g3 : Int32} {rs rs' T : Nat → Int32} (ex : f_X11_sure many c0 l0 g0 rs T y1 y2 y3 = some (rx, c2, l2, g2, rs')) (em : f_X12_sure many c1 l1 g1 T y1 y2 y3 = some (rm, c3, l3, g3)) (hm : 0 ≤ many.toInt) (hm2 : many.toInt ≤ 40) (hb : ∀ j, 0 ≤ (T j).toInt ∧ (T j).toInt ≤ 1000000000) : rx = rm := by
  have hFU : (100000 : Int) ≤ (FU : Int) := Int.ofNat_le.mpr FU_ge
  have z : (0 : Int32).toInt = 0 := by decide
  obtain ⟨r, q1, q2, hr⟩ := can_2 (many := many) (p1 := y1) (p2 := y2) (p3 := y3) hm hm2
  rw [f_X11_sure, q1, cb1_o] at ex
  rw [f_X12_sure, q2, cb1_o] at em
  by_cases c : r = 0
  · rw [if_pos c] at ex em
    cases ex; cases em; rfl
  · rw [if_neg c] at ex em
    obtain ⟨s1, s2, s3, s4, s5, s6, s7, s8, s9, s10⟩ := isB_1 hr c
    obtain ⟨c', l', g', rs3, w1, w2, w3⟩ := scan_e (T := T) (c0 := c0) (l0 := l0) (g0 := g0) (c1 := c1) (l1 := l1) (g1 := g1) rs hm hm2 s1 s7 s8 s4 s5 s6 hb
    rw [w1, cb4_o] at ex
    rw [w2, cb3_o] at em
    by_cases f : c' = 0
    · rw [if_pos f] at ex em
      cases ex; cases em; rfl
    · rw [if_neg f] at ex em
      have f := neI f
      have w4 := w3.resolve_left (fun w => by have := w.1; omega)
      obtain ⟨r3, v1, v2, v3⟩ := alike_2 (many := many) (l := l') (g := g') (c := c') (T := T) hm hm2 (by omega) (by omega) FU 0 (by omega) (by omega) (by omega)
      rw [f_X0_countAlike, v1, cb1_o] at ex
      rw [v2] at em
      by_cases k : r3 = 0
      · rw [if_pos k] at ex
        cases ex; cases em; rw [k]
      · rw [if_neg k] at ex
        have k2 := v3.resolve_left k
        cases ex; cases em; rw [k2]
theorem pe_20 {many y1 y2 y3 c0 l0 g0 c1 l1 g1 rx c2 l2 g2 rm c3 l3 g3 : Int32} {rs rs' T : Nat → Int32} (ex : f_X11_lost many c0 l0 g0 rs T y1 y2 y3 = some (rx, c2, l2, g2, rs')) (em : f_X12_lost many c1 l1 g1 T y1 y2 y3 = some (rm, c3, l3, g3)) (hm : 0 ≤ many.toInt) (hm2 : many.toInt ≤ 40) (hb : ∀ j, 0 ≤ (T j).toInt ∧ (T j).toInt ≤ 1000000000) : rx = rm := by
  have z : (0 : Int32).toInt = 0 := by decide
  have z2 : (2 : Int32).toInt = 2 := by decide
  obtain ⟨r, q1, q2, hr⟩ := can_2 (many := many) (p1 := y1) (p2 := y2) (p3 := y3) hm hm2
  rw [f_X11_lost, q1, cb1_o] at ex
  rw [f_X12_lost, q2, cb1_o] at em
  by_cases c : r = 0
  · rw [if_pos c] at ex em
    cases ex; cases em; rfl
  · rw [if_neg c] at ex em
    obtain ⟨s1, s2, s3, s4, s5, s6, s7, s8, s9, s10⟩ := isB_1 hr c
    obtain ⟨c', l', g', rs3, w1, w2, w3⟩ := scan_e (T := T) (c0 := c0) (l0 := l0) (g0 := g0) (c1 := c1) (l1 := l1) (g1 := g1) rs hm hm2 s1 s7 s8 s4 s5 s6 hb
    rw [w1, cb4_o, f_X0_beatsTillLost, nmI_o] at ex
    rw [w2, cb3_o] at em
    have gl := sbX g' l' (by rcases w3 with h | h <;> omega) (by rcases w3 with h | h <;> omega)
    have tw := mlY 2 (g' - l') 2 (by decide) (by rcases w3 with h | h <;> omega) (by rcases w3 with h | h <;> omega)
    by_cases f : 2 ≤ c'
    · have f1 := leI f
      have w4 := w3.resolve_left (fun w => by have := w.1; omega)
      have hlt : 0 < 2 * (g' - l') := Int32.lt_iff_toInt_lt.mpr (by have := w4.2.2.2.2.2 (by omega); omega)
      rw [if_pos hlt] at ex
      rw [if_pos f, nmI_o] at em
      unfold dvI at ex em
      by_cases k : 2 * (g' - l') = 0
      · have := eqI k
        have := ltI hlt
        exfalso; omega
      · rw [if_neg k] at ex em
        rw [cb1_o] at ex
        cases ex; cases em; rfl
    · have f1 := nleI f
      have hlt : ¬ 0 < 2 * (g' - l') := fun w => by
        have := ltI w
        rcases w3 with h | h
        · omega
        · have := h.2.2.2.2.1 (by omega); omega
      rw [if_neg hlt] at ex
      rw [if_neg f] at em
      rw [cb1_o] at ex
      cases ex; cases em; rfl
end
section
/-! counting; notes -/
def cnt (Q : Nat → Bool) : Nat → Nat
  | 0 => 0
  | n + 1 => cnt Q n + (if Q n = true then 1 else 0)
theorem cnt_s {Q : Nat → Bool} {n : Nat} (h : Q n = true) : cnt Q (n + 1) = cnt Q n + 1 := by rw [cnt, if_pos h]
theorem cnt_n {Q : Nat → Bool} {n : Nat} (h : ¬ Q n = true) : cnt Q (n + 1) = cnt Q n := by rw [cnt, if_neg h]; rfl
theorem cnt_congr {Q R : Nat → Bool} : ∀ {n : Nat}, (∀ k, k < n → Q k = R k) → cnt Q n = cnt R n := by
  intro n
  induction n with
  | zero => intro _; rfl
  | succ n ih =>
    intro h
    rw [cnt, cnt, ih (fun k hk => h k (by omega)), h n (by omega)]
theorem cnt_le (Q : Nat → Bool) : ∀ n : Nat, cnt Q n ≤ n := by
  intro n
  induction n with
  | zero => exact Nat.le_refl _
  | succ n ih => rw [cnt]; split <;> omega
theorem cnt_pos {Q : Nat → Bool} : ∀ {n i : Nat}, i < n → Q i = true → 1 ≤ cnt Q n := by
  intro n
  induction n with
  | zero => intro i h; exact absurd h (by omega)
  | succ n ih =>
    intro i h hq
    by_cases c : i = n
    · subst c; rw [cnt_s hq]; omega
    · have := ih (i := i) (by omega) hq
      rw [cnt]; omega
theorem cnt_ex {Q : Nat → Bool} : ∀ {n : Nat}, 1 ≤ cnt Q n → ∃ i, i < n ∧ Q i = true := by
  intro n
  induction n with
  | zero => intro h; exact absurd h (by rw [cnt]; omega)
  | succ n ih =>
    intro h
    by_cases c : Q n = true
    · exact ⟨n, by omega, c⟩
    · rw [cnt_n c] at h
      obtain ⟨i, h1, h2⟩ := ih h
      exact ⟨i, by omega, h2⟩
theorem cnt_and_le (A B : Nat → Bool) : ∀ n : Nat, cnt (fun i => A i && B i) n ≤ cnt A n := by
  intro n
  induction n with
  | zero => exact Nat.le_refl _
  | succ n ih =>
    rw [cnt, cnt]
    by_cases c : A n = true
    · rw [if_pos c]; split <;> omega
    · rw [if_neg c, if_neg (by simp [c])]; omega
theorem cnt_all {A B : Nat → Bool} : ∀ {n : Nat}, cnt (fun i => A i && B i) n = cnt A n ↔ ∀ i, i < n → A i = true → B i = true := by
  intro n
  induction n with
  | zero => exact ⟨fun _ i h => absurd h (by omega), fun _ => rfl⟩
  | succ n ih =>
    have hle := cnt_and_le A B n
    rw [cnt, cnt]
    by_cases c : A n = true
    · rw [if_pos c]
      by_cases d : B n = true
      · rw [if_pos (by simp [c, d])]
        constructor
        · intro h i hi ha
          by_cases e : i = n
          · subst e; exact d
          · exact ih.mp (by omega) i (by omega) ha
        · intro h
          have := ih.mpr (fun i hi ha => h i (by omega) ha)
          omega
      · rw [if_neg (by simp [d])]
        constructor
        · intro h; exfalso; omega
        · intro h; exact absurd (h n (by omega) c) d
    · rw [if_neg c, if_neg (by simp [c])]
      constructor
      · intro h i hi ha
        by_cases e : i = n
        · subst e; exact absurd ha c
        · exact ih.mp (by omega) i (by omega) ha
      · intro h
        have := ih.mpr (fun i hi ha => h i (by omega) ha)
        omega
def mtB (D S : Nat → Int32) (s d : Int32) : Nat → Bool := fun i => decide (S i = s) && decide ((D i).toInt ≤ d.toInt)
def vOf (D M : Nat → Int32) (st : Int32) (i : Nat) : Int32 := if st = 0 then M i else jrem (M i + 4 * D i) 1440
def nBd (D M : Nat → Int32) : Prop := ∀ j, (0 ≤ (D j).toInt ∧ (D j).toInt ≤ 399) ∧ (0 ≤ (M j).toInt ∧ (M j).toInt ≤ 1439)
theorem vOf_b {D M : Nat → Int32} (h : nBd D M) (st : Int32) (i : Nat) : 0 ≤ (vOf D M st i).toInt ∧ (vOf D M st i).toInt < 1440 := by
  obtain ⟨h1, h2⟩ := h i
  unfold vOf
  by_cases c : st = 0
  · rw [if_pos c]; omega
  · rw [if_neg c]
    have e1 := mlY 4 (D i) 4 (by decide) (by omega) (by omega)
    have e2 := adX (M i) (4 * D i) (by omega) (by omega)
    have z : (1440 : Int32).toInt = 1440 := by decide
    have m := rm_ (M i + 4 * D i) 1440 (by decide)
    have := m.2.2.1 (by omega)
    omega
theorem mtB_t {D S : Nat → Int32} {s d : Int32} {i : Nat} (h1 : S i = s) (h2 : ¬ d < D i) : mtB D S s d i = true := by
  have := nltI h2
  simp [mtB, h1, this]
theorem mtB_f1 {D S : Nat → Int32} {s d : Int32} {i : Nat} (h1 : ¬ S i = s) : ¬ mtB D S s d i = true := by simp [mtB, h1]
theorem mtB_f2 {D S : Nat → Int32} {s d : Int32} {i : Nat} (h2 : d < D i) : ¬ mtB D S s d i = true := by
  have := ltI h2
  simp [mtB]
  intro _; omega
/-- what gather leaves -/
def gaP (D M S : Nat → Int32) (s d st : Int32) (g : Nat → Int32) (f n : Nat) : Prop := ∀ Q : Int32 → Bool, cnt (fun k => Q (g k)) f = cnt (fun i => mtB D S s d i && Q (vOf D M st i)) n
theorem gaP_skip {D M S : Nat → Int32} {s d st : Int32} {g : Nat → Int32} {f n : Nat} (h : gaP D M S s d st g f n) (hm : ¬ mtB D S s d n = true) : gaP D M S s d st g f (n + 1) := by
  intro Q
  rw [h Q, cnt_n (by simp [hm])]
theorem gaP_put {D M S : Nat → Int32} {s d st v : Int32} {g : Nat → Int32} {f n : Nat} (h : gaP D M S s d st g f n) (hm : mtB D S s d n = true) (hv : v = vOf D M st n) : gaP D M S s d st (upd g f v) (f + 1) (n + 1) := by
  intro Q
  have e : cnt (fun k => Q (upd g f v k)) f = cnt (fun k => Q (g k)) f := cnt_congr (fun k hk => by
    show Q (upd g f v k) = Q (g k)
    unfold upd
    rw [if_neg (by omega)])
  have e2 : upd g f v f = v := if_pos rfl
  by_cases c : Q v = true
  · rw [cnt_s (by show Q (upd g f v f) = true; rw [e2]; exact c), cnt_s (by show (mtB D S s d n && Q (vOf D M st n)) = true; rw [← hv, hm, c]; rfl), e, h Q]
  · rw [cnt_n (by show ¬ Q (upd g f v f) = true; rw [e2]; exact c), cnt_n (by show ¬ (mtB D S s d n && Q (vOf D M st n)) = true; rw [← hv]; simp [c]), e, h Q]
theorem gather_L {no s d st : Int32} {D M S : Nat → Int32} (h1 : 0 ≤ no.toInt) (h2 : no.toInt ≤ 40) :
    ∀ (n : Nat) (f x : Int32) (g : Nat → Int32), 0 ≤ x.toInt → x.toInt ≤ no.toInt → 0 ≤ f.toInt → f.toInt ≤ x.toInt → gaP D M S s d st g f.toNatClampNeg x.toNatClampNeg → 41 - x.toInt < (n : Int) → Sf (f_X3_gather_L6 no D M S s d st n f x g) (fun y => 0 ≤ y.1.toInt ∧ y.1.toInt ≤ no.toInt ∧ gaP D M S s d st y.2 y.1.toNatClampNeg no.toNatClampNeg) := by
  intro n
  induction n with
  | zero => intro f x g a1 a2 a3 a4 a5 hm; exact absurd hm (by omega)
  | succ n ih =>
    intro f x g a1 a2 a3 a4 a5 hme
    rw [f_X3_gather_L6]
    have tn := tN no h1
    have tx := tN x a1
    have tf := tN f a3
    refine Sf_ite (fun c => ?_) (fun c => ?_)
    · have c := leI c
      have e : x.toNatClampNeg = no.toNatClampNeg := by omega
      rw [e] at a5
      exact Sf_some ⟨a3, show f.toInt ≤ no.toInt by omega, a5⟩
    · have c := nleI c
      have e1 := adN x 1 1 (by decide) (by omega) (by omega)
      have e2 := adN f 1 1 (by decide) (by omega) (by omega)
      have tx1 : (x + 1).toNatClampNeg = x.toNatClampNeg + 1 := by have := tN (x + 1) (by omega); omega
      have tf1 : (f + 1).toNatClampNeg = f.toNatClampNeg + 1 := by have := tN (f + 1) (by omega); omega
      refine Sf_rdI (by omega) (by omega) (fun v hv => ?_)
      refine Sf_ite (fun c2 => ?_) (fun c2 => ?_)
      · rw [hv] at c2
        refine Sf_rdI (by omega) (by omega) (fun w hw => ?_)
        refine Sf_ite (fun c3 => ?_) (fun c3 => ?_)
        · rw [hw] at c3
          refine Sf_nmI (fun x2 hx2 => ?_)
          subst hx2
          refine ih f (x + 1) g (by omega) (by omega) a3 (by omega) ?_ (by omega)
          rw [tx1]
          exact gaP_skip a5 (mtB_f2 c3)
        · rw [hw] at c3
          refine Sf_ite (fun c4 => ?_) (fun c4 => ?_)
          · refine Sf_rdI (by omega) (by omega) (fun u hu => ?_)
            refine Sf_wrI (by omega) (by omega) (fun g2 hg => ?_)
            refine Sf_nmI (fun f2 hf2 => Sf_nmI (fun x2 hx2 => ?_))
            subst hf2; subst hx2
            refine ih (f + 1) (x + 1) g2 (by omega) (by omega) (by omega) (by omega) ?_ (by omega)
            rw [tx1, tf1, hg]
            exact gaP_put a5 (mtB_t c2 c3) (by rw [hu]; unfold vOf; rw [if_pos c4])
          · refine Sf_rdI (by omega) (by omega) (fun u hu => ?_)
            refine Sf_rdI (by omega) (by omega) (fun t ht => ?_)
            rw [f_X11_starMinute, cb1_o]
            refine Sf_wrI (by omega) (by omega) (fun g2 hg => ?_)
            refine Sf_nmI (fun f2 hf2 => Sf_nmI (fun x2 hx2 => ?_))
            subst hf2; subst hx2
            refine ih (f + 1) (x + 1) g2 (by omega) (by omega) (by omega) (by omega) ?_ (by omega)
            rw [tx1, tf1, hg]
            exact gaP_put a5 (mtB_t c2 c3) (by rw [hu, ht]; unfold vOf; rw [if_neg c4])
      · rw [hv] at c2
        refine Sf_nmI (fun x2 hx2 => ?_)
        subst hx2
        refine ih f (x + 1) g (by omega) (by omega) a3 (by omega) ?_ (by omega)
        rw [tx1]
        exact gaP_skip a5 (mtB_f1 c2)
theorem gather_e {no s d st : Int32} {D M S g : Nat → Int32} (h1 : 0 ≤ no.toInt) (h2 : no.toInt ≤ 40) : Sf (f_X3_gather no D g M S s d st) (fun y => 0 ≤ y.1.toInt ∧ y.1.toInt ≤ no.toInt ∧ gaP D M S s d st y.2 y.1.toNatClampNeg no.toNatClampNeg) := by
  have hFU : (100000 : Int) ≤ (FU : Int) := Int.ofNat_le.mpr FU_ge
  have z : (0 : Int32).toInt = 0 := by decide
  have zn : (0 : Int32).toNatClampNeg = 0 := by decide
  rw [f_X3_gather]
  refine gather_L h1 h2 FU 0 0 g (by omega) (by omega) (by omega) (by omega) ?_ (by omega)
  rw [zn]
  intro Q
  rfl
theorem gaP_n {D M S : Nat → Int32} {s d st : Int32} {g : Nat → Int32} {f n : Nat} (h : gaP D M S s d st g f n) : f = cnt (mtB D S s d) n := by
  have h1 := h (fun _ => true)
  have e1 : ∀ f : Nat, cnt (fun _ => true) f = f := by
    intro f
    induction f with
    | zero => rfl
    | succ f ih => rw [cnt_s rfl, ih]
  rw [e1] at h1
  rw [h1]
  exact cnt_congr (fun k _ => by simp)
theorem gaP_to {D M S : Nat → Int32} {s d st : Int32} {g : Nat → Int32} {f n : Nat} (h : gaP D M S s d st g f n) {k : Nat} (hk : k < f) : ∃ i, i < n ∧ mtB D S s d i = true ∧ vOf D M st i = g k := by
  have h1 := h (fun v => decide (v = g k))
  have h2 : 1 ≤ cnt (fun j => decide (g j = g k)) f := cnt_pos hk (by simp)
  obtain ⟨i, h3, h4⟩ := cnt_ex (by rw [← h1]; exact h2)
  simp at h4
  exact ⟨i, h3, h4.1, h4.2⟩
theorem gaP_of {D M S : Nat → Int32} {s d st : Int32} {g : Nat → Int32} {f n : Nat} (h : gaP D M S s d st g f n) {i : Nat} (hi : i < n) (hm : mtB D S s d i = true) : ∃ k, k < f ∧ g k = vOf D M st i := by
  have h1 := h (fun v => decide (v = vOf D M st i))
  have h2 : 1 ≤ cnt (fun j => mtB D S s d j && decide (vOf D M st j = vOf D M st i)) n := cnt_pos hi (by simp [hm])
  obtain ⟨k, h3, h4⟩ := cnt_ex (by rw [h1]; exact h2)
  simp at h4
  exact ⟨k, h3, h4⟩
/-- ONE -/
def OneP (D M S : Nat → Int32) (s d st w : Int32) (n : Nat) : Prop := ∃ i, i < n ∧ mtB D S s d i = true ∧ ∀ j, j < n → mtB D S s d j = true → arcA (vOf D M st j).toInt (vOf D M st i).toInt 1440 ≤ w.toInt
theorem arcE_one {D M S : Nat → Int32} {s d st w r : Int32} {g : Nat → Int32} {n : Nat} (h : gaP D M S s d st g r.toNatClampNeg n) (h0 : 0 ≤ r.toInt) : arcE g r 1440 w ↔ OneP D M S s d st w n := by
  have tr := tN r h0
  have z : (1440 : Int32).toInt = 1440 := by decide
  unfold arcE arcQ OneP
  rw [z]
  constructor
  · rintro ⟨k, h1, h2⟩
    obtain ⟨i, h3, h4, h5⟩ := gaP_to h (k := k) (by omega)
    refine ⟨i, h3, h4, fun j hj hm => ?_⟩
    obtain ⟨k2, h6, h7⟩ := gaP_of h hj hm
    rw [h5, ← h7]
    exact h2 k2 (by omega)
  · rintro ⟨i, h1, h2, h3⟩
    obtain ⟨k, h6, h7⟩ := gaP_of h h1 h2
    refine ⟨k, by omega, fun k2 hk2 => ?_⟩
    obtain ⟨j, h8, h9, h10⟩ := gaP_to h (k := k2) (by omega)
    rw [h7, ← h10]
    exact h3 j h8 h9
theorem gaP_b {D M S : Nat → Int32} {s d st r : Int32} {g : Nat → Int32} {n : Nat} (h : gaP D M S s d st g r.toNatClampNeg n) (h0 : 0 ≤ r.toInt) (hb : nBd D M) : ∀ k : Nat, (k : Int) < r.toInt → 0 ≤ (g k).toInt ∧ (g k).toInt < (1440 : Int32).toInt := by
  intro k hk
  have tr := tN r h0
  have z : (1440 : Int32).toInt = 1440 := by decide
  obtain ⟨i, h3, h4, h5⟩ := gaP_to h (k := k) (by omega)
  rw [← h5, z]
  exact vOf_b hb st i
def bitP (r : Int32) (P Q : Prop) : Prop := (r = 3 ∧ P ∧ Q) ∨ (r = 1 ∧ P ∧ ¬ Q) ∨ (r = 2 ∧ ¬ P ∧ Q) ∨ (r = 0 ∧ ¬ P ∧ ¬ Q)
theorem bitP_eq {r q : Int32} {P Q : Prop} (h : bitP r P Q) (h2 : bitP q P Q) : r = q := by
  rcases h with ⟨a, b, c⟩ | ⟨a, b, c⟩ | ⟨a, b, c⟩ | ⟨a, b, c⟩ <;> rcases h2 with ⟨d, e, f⟩ | ⟨d, e, f⟩ | ⟨d, e, f⟩ | ⟨d, e, f⟩ <;> first | (rw [a, d]; done) | exact absurd b e | exact absurd e b | exact absurd c f | exact absurd f c
def onQ (D M S : Nat → Int32) (s d w : Int32) (n : Nat) (r : Int32) : Prop := (2 ≤ cnt (mtB D S s d) n ∧ bitP r (OneP D M S s d 1 w n) (OneP D M S s d 0 w n)) ∨ (cnt (mtB D S s d) n < 2 ∧ r = -1)
theorem oneBy_e {no s w d : Int32} {D M S g : Nat → Int32} (h1 : 0 ≤ no.toInt) (h2 : no.toInt ≤ 40) (hb : nBd D M) : Sf (f_X3_oneBy no D g M S s w d) (fun y => onQ D M S s d w no.toNatClampNeg y.1) := by
  have z2 : (2 : Int32).toInt = 2 := by decide
  rw [f_X3_oneBy]
  refine Sf_cb2 (gather_e h1 h2) (fun r g1 hg => ?_)
  obtain ⟨a1, a2, a3⟩ := hg
  have a1 : 0 ≤ r.toInt := a1
  have a2 : r.toInt ≤ no.toInt := a2
  have a3 : gaP D M S s d 1 g1 r.toNatClampNeg no.toNatClampNeg := a3
  have hn := gaP_n a3
  have tr := tN r a1
  have z1440 : (1440 : Int32).toInt = 1440 := by decide
  refine Sf_ite (fun c => ?_) (fun c => ?_)
  · have c := leI c
    have J : ∀ t : Int32, isB t (OneP D M S s d 1 w no.toNatClampNeg) → Sf (f_X3_oneBy_J38 no D M S s w d r g1 t) (fun y => onQ D M S s d w no.toNatClampNeg y.1) := by
      intro t ht
      rw [f_X3_oneBy_J38]
      refine Sf_cb2 (gather_e h1 h2) (fun r2 g2 hg2 => ?_)
      obtain ⟨b1, b2, b3⟩ := hg2
      have b1 : 0 ≤ r2.toInt := b1
      have b3 : gaP D M S s d 0 g2 r2.toNatClampNeg no.toNatClampNeg := b3
      have hn2 := gaP_n b3
      have er : r2 = r := by
        have := tN r2 b1
        exact i32_eq (by omega)
      rw [er] at b3
      refine Sf_cb1 (arc_e (by omega) (by omega) (by omega) (gaP_b b3 a1 hb)) (fun q hq => ?_)
      have hi := arcE_one (w := w) b3 a1
      refine Sf_ite (fun c2 => Sf_some (Or.inl ⟨by omega, ?_⟩)) (fun c2 => Sf_some (Or.inl ⟨by omega, ?_⟩))
      · have q0 : ¬ OneP D M S s d 0 w no.toNatClampNeg := fun w => isB_0 hq c2 (hi.mpr w)
        rcases ht with ⟨t1, t2⟩ | ⟨t1, t2⟩
        · exact Or.inr (Or.inl ⟨t1, t2, q0⟩)
        · exact Or.inr (Or.inr (Or.inr ⟨t1, t2, q0⟩))
      · have q1 := hi.mp (isB_1 hq c2)
        rcases ht with ⟨t1, t2⟩ | ⟨t1, t2⟩
        · rw [t1]; exact Or.inl ⟨show (1 ||| 2 : Int32) = 3 by decide, t2, q1⟩
        · rw [t1]; exact Or.inr (Or.inr (Or.inl ⟨show (0 ||| 2 : Int32) = 2 by decide, t2, q1⟩))
    refine Sf_cb1 (arc_e (by omega) (by omega) (by omega) (gaP_b a3 a1 hb)) (fun q hq => ?_)
    have hi := arcE_one (w := w) a3 a1
    exact Sf_ite (fun c2 => J 0 (Or.inr ⟨rfl, fun w => isB_0 hq c2 (hi.mpr w)⟩)) (fun c2 => J 1 (Or.inl ⟨rfl, hi.mp (isB_1 hq c2)⟩))
  · have c := nleI c
    exact Sf_some (Or.inr ⟨by omega, rfl⟩)
/-! the reference -/
theorem minuteBy_e {D M : Nat → Int32} {i st : Int32} (h1 : 0 ≤ i.toInt) (h2 : i.toInt < 40) : f_X12_minuteBy D M i st = some (vOf D M st i.toNatClampNeg) := by
  have jl : jin i 40 = true := jin_of h1 (by omega)
  rw [f_X12_minuteBy]
  unfold vOf
  by_cases c : st = 0
  · rw [if_pos c, if_pos c, rdI_o jl]
  · rw [if_neg c, if_neg c, rdI_o jl, rdI_o jl, f_X12_starAt, cb1_o]
theorem manyOf_L {no s d : Int32} {D S : Nat → Int32} (h1 : 0 ≤ no.toInt) (h2 : no.toInt ≤ 40) :
    ∀ (n : Nat) (c x : Int32), 0 ≤ x.toInt → x.toInt ≤ no.toInt → 0 ≤ c.toInt → c.toInt = (cnt (mtB D S s d) x.toNatClampNeg : Int) → 41 - x.toInt < (n : Int) → Sf (f_X12_manyOf_L5 no D S s d n c x) (fun r => r.toInt = (cnt (mtB D S s d) no.toNatClampNeg : Int)) := by
  intro n
  induction n with
  | zero => intro c x a1 a2 a3 a4 hm; exact absurd hm (by omega)
  | succ n ih =>
    intro c x a1 a2 a3 a4 hme
    rw [f_X12_manyOf_L5]
    have tn := tN no h1
    have tx := tN x a1
    have hle := cnt_le (mtB D S s d) x.toNatClampNeg
    refine Sf_ite (fun g => ?_) (fun g => ?_)
    · have g := leI g
      have e : x.toNatClampNeg = no.toNatClampNeg := by omega
      rw [e] at a4
      exact Sf_some a4
    · have g := nleI g
      have e1 := adN x 1 1 (by decide) (by omega) (by omega)
      have e2 := adN c 1 1 (by decide) (by omega) (by omega)
      have e0 := adN c 0 0 (by decide) (by omega) (by omega)
      have tx1 : (x + 1).toNatClampNeg = x.toNatClampNeg + 1 := by have := tN (x + 1) (by omega); omega
      refine Sf_rdI (by omega) (by omega) (fun v hv => ?_)
      refine Sf_ite (fun c2 => ?_) (fun c2 => ?_)
      · rw [hv] at c2
        refine Sf_rdI (by omega) (by omega) (fun w hw => ?_)
        refine Sf_ite (fun c3 => ?_) (fun c3 => ?_)
        · rw [hw] at c3
          refine Sf_nmI (fun f2 hf2 => Sf_nmI (fun x2 hx2 => ?_))
          subst hf2; subst hx2
          refine ih (c + 0) (x + 1) (by omega) (by omega) (by omega) ?_ (by omega)
          rw [tx1, cnt_n (mtB_f2 c3)]; omega
        · rw [hw] at c3
          refine Sf_nmI (fun f2 hf2 => Sf_nmI (fun x2 hx2 => ?_))
          subst hf2; subst hx2
          refine ih (c + 1) (x + 1) (by omega) (by omega) (by omega) ?_ (by omega)
          rw [tx1, cnt_s (mtB_t c2 c3)]; omega
      · rw [hv] at c2
        refine Sf_nmI (fun f2 hf2 => Sf_nmI (fun x2 hx2 => ?_))
        subst hf2; subst hx2
        refine ih (c + 0) (x + 1) (by omega) (by omega) (by omega) ?_ (by omega)
        rw [tx1, cnt_n (mtB_f1 c2)]; omega
theorem manyOf_e {no s d : Int32} {D S : Nat → Int32} (h1 : 0 ≤ no.toInt) (h2 : no.toInt ≤ 40) : Sf (f_X12_manyOf no D S s d) (fun r => r.toInt = (cnt (mtB D S s d) no.toNatClampNeg : Int)) := by
  have hFU : (100000 : Int) ≤ (FU : Int) := Int.ofNat_le.mpr FU_ge
  have z : (0 : Int32).toInt = 0 := by decide
  have zn : (0 : Int32).toNatClampNeg = 0 := by decide
  rw [f_X12_manyOf]
  refine manyOf_L h1 h2 FU 0 0 (by omega) (by omega) (by omega) ?_ (by omega)
  rw [zn]; rfl
def arB (D M : Nat → Int32) (st b w : Int32) : Nat → Bool := fun i => decide (arcA (vOf D M st i).toInt b.toInt 1440 ≤ w.toInt)
theorem onArc_L {no s d st b w : Int32} {D M S : Nat → Int32} (h1 : 0 ≤ no.toInt) (h2 : no.toInt ≤ 40) (hB : nBd D M) (hb : 0 ≤ b.toInt ∧ b.toInt < 1440) :
    ∀ (n : Nat) (c x : Int32), 0 ≤ x.toInt → x.toInt ≤ no.toInt → 0 ≤ c.toInt → c.toInt = (cnt (fun i => mtB D S s d i && arB D M st b w i) x.toNatClampNeg : Int) → 41 - x.toInt < (n : Int) → Sf (f_X12_onArc_L6 no D M S s d st b w n c x) (fun r => r.toInt = (cnt (fun i => mtB D S s d i && arB D M st b w i) no.toNatClampNeg : Int)) := by
  intro n
  induction n with
  | zero => intro c x a1 a2 a3 a4 hm; exact absurd hm (by omega)
  | succ n ih =>
    intro c x a1 a2 a3 a4 hme
    rw [f_X12_onArc_L6]
    have tn := tN no h1
    have tx := tN x a1
    have hle := cnt_le (fun i => mtB D S s d i && arB D M st b w i) x.toNatClampNeg
    refine Sf_ite (fun g => ?_) (fun g => ?_)
    · have g := leI g
      have e : x.toNatClampNeg = no.toNatClampNeg := by omega
      rw [e] at a4
      exact Sf_some a4
    · have g := nleI g
      have e1 := adN x 1 1 (by decide) (by omega) (by omega)
      have e2 := adN c 1 1 (by decide) (by omega) (by omega)
      have e0 := adN c 0 0 (by decide) (by omega) (by omega)
      have tx1 : (x + 1).toNatClampNeg = x.toNatClampNeg + 1 := by have := tN (x + 1) (by omega); omega
      refine Sf_rdI (by omega) (by omega) (fun v hv => ?_)
      refine Sf_ite (fun c2 => ?_) (fun c2 => ?_)
      · rw [hv] at c2
        refine Sf_rdI (by omega) (by omega) (fun u hu => ?_)
        refine Sf_ite (fun c3 => ?_) (fun c3 => ?_)
        · rw [hu] at c3
          refine Sf_nmI (fun x2 hx2 => ?_)
          subst hx2
          refine ih c (x + 1) (by omega) (by omega) (by omega) ?_ (by omega)
          rw [tx1, cnt_n (by simp [mtB_f2 c3])]; omega
        · rw [hu] at c3
          rw [minuteBy_e a1 (by omega), cb1_o]
          have hV := vOf_b hB st x.toNatClampNeg
          have z : (1440 : Int32).toInt = 1440 := by decide
          have es := sbX (vOf D M st x.toNatClampNeg) b (by omega) (by omega)
          have ea := adX (vOf D M st x.toNatClampNeg - b) 1440 (by omega) (by omega)
          have er : (jrem (vOf D M st x.toNatClampNeg - b + 1440) 1440).toInt = arcA (vOf D M st x.toNatClampNeg).toInt b.toInt 1440 := by
            rw [jrem_nn _ _ (by omega) (by omega), ea, es, z]
            exact arc_m hV hb
          refine Sf_ite (fun c4 => ?_) (fun c4 => ?_)
          · have c4 := ltI c4
            rw [er] at c4
            refine Sf_nmI (fun f2 hf2 => Sf_nmI (fun x2 hx2 => ?_))
            subst hf2; subst hx2
            refine ih (c + 0) (x + 1) (by omega) (by omega) (by omega) ?_ (by omega)
            rw [tx1, cnt_n (by simp [arB]; intro _; omega)]; omega
          · have c4 := nltI c4
            rw [er] at c4
            refine Sf_nmI (fun f2 hf2 => Sf_nmI (fun x2 hx2 => ?_))
            subst hf2; subst hx2
            refine ih (c + 1) (x + 1) (by omega) (by omega) (by omega) ?_ (by omega)
            rw [tx1, cnt_s (by simp [arB, mtB_t c2 c3]; omega)]; omega
      · rw [hv] at c2
        refine Sf_nmI (fun x2 hx2 => ?_)
        subst hx2
        refine ih c (x + 1) (by omega) (by omega) (by omega) ?_ (by omega)
        rw [tx1, cnt_n (by simp [mtB_f1 c2])]; omega
theorem onArc_e {no s d st b w : Int32} {D M S : Nat → Int32} (h1 : 0 ≤ no.toInt) (h2 : no.toInt ≤ 40) (hB : nBd D M) (hb : 0 ≤ b.toInt ∧ b.toInt < 1440) : Sf (f_X12_onArc no D M S s d st b w) (fun r => r.toInt = (cnt (fun i => mtB D S s d i && arB D M st b w i) no.toNatClampNeg : Int)) := by
  have hFU : (100000 : Int) ≤ (FU : Int) := Int.ofNat_le.mpr FU_ge
  have z : (0 : Int32).toInt = 0 := by decide
  have zn : (0 : Int32).toNatClampNeg = 0 := by decide
  rw [f_X12_onArc]
  refine onArc_L h1 h2 hB hb FU 0 0 (by omega) (by omega) (by omega) ?_ (by omega)
  rw [zn]; rfl
theorem isOne_L {no s d st w q : Int32} {D M S : Nat → Int32} (h1 : 0 ≤ no.toInt) (h2 : no.toInt ≤ 40) (hB : nBd D M) (hq : q.toInt = (cnt (mtB D S s d) no.toNatClampNeg : Int)) :
    ∀ (n : Nat) (x : Int32), 0 ≤ x.toInt → x.toInt ≤ no.toInt → (∀ i : Nat, (i : Int) < x.toInt → ¬ (mtB D S s d i = true ∧ ∀ j, j < no.toNatClampNeg → mtB D S s d j = true → arcA (vOf D M st j).toInt (vOf D M st i).toInt 1440 ≤ w.toInt)) → 41 - x.toInt < (n : Int) → Sf (f_X12_isOne_L11 no D M S s d st w q n x) (fun r => isB r (OneP D M S s d st w no.toNatClampNeg)) := by
  intro n
  induction n with
  | zero => intro x a1 a2 a3 hm; exact absurd hm (by omega)
  | succ n ih =>
    intro x a1 a2 a3 hme
    rw [f_X12_isOne_L11]
    have tn := tN no h1
    have tx := tN x a1
    refine Sf_ite (fun g => ?_) (fun g => ?_)
    · have g := leI g
      refine Sf_some (Or.inr ⟨rfl, fun w => ?_⟩)
      obtain ⟨i, b1, b2, b3⟩ := w
      exact a3 i (by omega) ⟨b2, b3⟩
    · have g := nleI g
      have e1 := adN x 1 1 (by decide) (by omega) (by omega)
      refine Sf_rdI (by omega) (by omega) (fun v hv => ?_)
      refine Sf_ite (fun c2 => ?_) (fun c2 => ?_)
      · rw [hv] at c2
        refine Sf_rdI (by omega) (by omega) (fun u hu => ?_)
        refine Sf_ite (fun c3 => ?_) (fun c3 => ?_)
        · rw [hu] at c3
          refine Sf_nmI (fun x2 hx2 => ?_)
          subst hx2
          exact ih (x + 1) (by omega) (by omega) (all_step a3 a1 e1 (fun w => mtB_f2 c3 w.1)) (by omega)
        · rw [hu] at c3
          rw [minuteBy_e a1 (by omega), cb1_o]
          refine Sf_cb1 (onArc_e h1 h2 hB (vOf_b hB st _)) (fun r hr => ?_)
          have hr : r.toInt = (cnt (fun i => mtB D S s d i && arB D M st (vOf D M st x.toNatClampNeg) w i) no.toNatClampNeg : Int) := hr
          have hall := cnt_all (A := mtB D S s d) (B := arB D M st (vOf D M st x.toNatClampNeg) w) (n := no.toNatClampNeg)
          refine Sf_ite (fun c4 => ?_) (fun c4 => ?_)
          · have c4 := eqI c4
            refine Sf_some (Or.inl ⟨rfl, x.toNatClampNeg, by omega, mtB_t c2 c3, fun j hj hm => ?_⟩)
            have := hall.mp (by omega) j hj hm
            simpa [arB] using this
          · have c4 := neI c4
            refine Sf_nmI (fun x2 hx2 => ?_)
            subst hx2
            refine ih (x + 1) (by omega) (by omega) (all_step a3 a1 e1 (fun w => c4 ?_)) (by omega)
            have := hall.mpr (fun j hj hm => by simpa [arB] using w.2 j hj hm)
            omega
      · rw [hv] at c2
        refine Sf_nmI (fun x2 hx2 => ?_)
        subst hx2
        exact ih (x + 1) (by omega) (by omega) (all_step a3 a1 e1 (fun w => mtB_f1 c2 w.1)) (by omega)
theorem isOne_e {no s d st w : Int32} {D M S : Nat → Int32} (h1 : 0 ≤ no.toInt) (h2 : no.toInt ≤ 40) (hB : nBd D M) : Sf (f_X12_isOne no D M S s d st w) (fun r => isB r (OneP D M S s d st w no.toNatClampNeg)) := by
  have hFU : (100000 : Int) ≤ (FU : Int) := Int.ofNat_le.mpr FU_ge
  have z : (0 : Int32).toInt = 0 := by decide
  rw [f_X12_isOne]
  refine Sf_cb1 (manyOf_e h1 h2) (fun q hq => ?_)
  exact isOne_L h1 h2 hB hq FU 0 (by omega) (by omega) (fun i hi => absurd hi (by omega)) (by omega)
theorem oneBits_e {no s d w : Int32} {D M S : Nat → Int32} (h1 : 0 ≤ no.toInt) (h2 : no.toInt ≤ 40) (hB : nBd D M) : Sf (f_X12_oneBits no D M S s d w) (fun r => bitP r (OneP D M S s d 1 w no.toNatClampNeg) (OneP D M S s d 0 w no.toNatClampNeg)) := by
  have J : ∀ t : Int32, isB t (OneP D M S s d 1 w no.toNatClampNeg) → Sf (f_X12_oneBits_J16 no D M S s d w t) (fun r => bitP r (OneP D M S s d 1 w no.toNatClampNeg) (OneP D M S s d 0 w no.toNatClampNeg)) := by
    intro t ht
    rw [f_X12_oneBits_J16]
    refine Sf_cb1 (isOne_e h1 h2 hB) (fun q hq => ?_)
    refine Sf_ite (fun c => Sf_some ?_) (fun c => Sf_some ?_)
    · have q0 := isB_0 hq c
      rcases ht with ⟨t1, t2⟩ | ⟨t1, t2⟩
      · rw [t1]; exact Or.inr (Or.inl ⟨by decide, t2, q0⟩)
      · rw [t1]; exact Or.inr (Or.inr (Or.inr ⟨by decide, t2, q0⟩))
    · have q1 := isB_1 hq c
      rcases ht with ⟨t1, t2⟩ | ⟨t1, t2⟩
      · rw [t1]; exact Or.inl ⟨by decide, t2, q1⟩
      · rw [t1]; exact Or.inr (Or.inr (Or.inl ⟨by decide, t2, q1⟩))
  rw [f_X12_oneBits]
  refine Sf_cb1 (isOne_e h1 h2 hB) (fun q hq => ?_)
  exact Sf_ite (fun c => J 0 (Or.inr ⟨rfl, isB_0 hq c⟩)) (fun c => J 1 (Or.inl ⟨rfl, isB_1 hq c⟩))
end
section
theorem shape_2 (y : Int32) : ∃ r : Int32, f_X11_isShape y = some r ∧ f_X12_isShape y = some r ∧ (r = 0 ∨ r = 1) := by
  obtain ⟨a, q1, h1⟩ := s_X11_isShape y
  obtain ⟨b, q2, h2⟩ := s_X12_isShape y
  have h1 := h1.2
  have h2 := h2.2
  have e : a = b := i32_eq (by omega)
  refine ⟨a, q1, by rw [q2, e], ?_⟩
  rcases h1 with h | h
  · exact Or.inr (i32_eq (h.1.trans (by decide)))
  · exact Or.inl (i32_eq (h.1.trans (by decide)))
theorem arcw_2 (y : Int32) : ∃ r : Int32, f_X11_isWithin y 0 700 = some r ∧ f_X12_isWithin y = some r ∧ isB r (0 ≤ y.toInt ∧ y.toInt ≤ 700) := by
  have z : (0 : Int32).toInt = 0 := by decide
  have z7 : (700 : Int32).toInt = 700 := by decide
  obtain ⟨a, q1, h1⟩ := s_X11_isWithin y 0 700
  obtain ⟨b, q2, h2⟩ := s_X12_isWithin y
  have h1 := h1.2
  have h2 := h2.2
  have e : a = b := i32_eq (by omega)
  exact ⟨a, q1, by rw [q2, e], isB_mk (by omega)⟩
theorem pe_12 {no y1 y2 rx rm : Int32} {D M S g g' : Nat → Int32} (ex : f_X11_one no D g M S y1 y2 = some (rx, g')) (em : f_X12_one no D M S y1 y2 = some rm) (h1 : 0 ≤ no.toInt) (h2 : no.toInt ≤ 40) (hB : nBd D M) : rx = rm := by
  have o : (1 : Int32).toInt = 1 := by decide
  obtain ⟨r, q1, q2, hr⟩ := shape_2 y1
  obtain ⟨r2, q3, q4, hr2⟩ := arcw_2 y2
  rw [f_X11_one, q1, cb1_o, q3] at ex
  rw [f_X12_one, q2, cb1_o, q4] at em
  by_cases c : r = 0
  · rw [if_pos c] at ex em
    cases ex; cases em; rfl
  · rw [if_neg c, cb1_o] at ex em
    by_cases d : r2 = 0
    · rw [if_pos d] at ex em
      cases ex; cases em; rfl
    · rw [if_neg d] at ex em
      obtain ⟨⟨u, gu⟩, q5, hu⟩ := oneBy_e (g := g) (S := S) (s := y1) (w := y2) (d := 400) h1 h2 hB
      obtain ⟨m, q6, hm⟩ := manyOf_e (D := D) (S := S) (s := y1) (d := 400) h1 h2
      obtain ⟨v, q7, hv⟩ := oneBits_e (S := S) (s := y1) (w := y2) (d := 400) h1 h2 hB
      have hu : onQ D M S y1 400 y2 no.toNatClampNeg u := hu
      rw [q5, cb2_o] at ex
      rw [q6, cb1_o, q7, cb1_o] at em
      by_cases k : m ≤ 1
      · rw [if_pos k] at em
        have k := leI k
        have hu2 := hu.resolve_left (fun w => by have := w.1; omega)
        cases ex; cases em; exact hu2.2
      · rw [if_neg k] at em
        have k := nleI k
        have hu2 := hu.resolve_right (fun w => by have := w.1; omega)
        cases ex; cases em; exact bitP_eq hu2.2 hv
theorem known_2 {no s w : Int32} {D M S : Nat → Int32} (h1 : 0 ≤ no.toInt) (h2 : no.toInt ≤ 40) (hB : nBd D M) : ∀ (n : Nat) (x : Int32) (g : Nat → Int32), 0 ≤ x.toInt → x.toInt ≤ 40 → 41 - x.toInt < (n : Int) → ∃ (r : Int32) (g' : Nat → Int32), f_X3_knownDay_L2 no D M S s w n x g = some (r, g') ∧ f_X12_known_L18 no D M S s w n x = some r := by
  have o : (2 : Int32).toInt = 2 := by decide
  intro n
  induction n with
  | zero => intro x g a1 a2 hm; exact absurd hm (by omega)
  | succ n ih =>
    intro x g a1 a2 hme
    rw [f_X3_knownDay_L2, f_X12_known_L18]
    by_cases c : no ≤ x
    · rw [if_pos c, if_pos c]
      exact ⟨-1, g, rfl, rfl⟩
    · have c1 := nleI c
      have jl : jin x 40 = true := jin_of a1 (by omega)
      have e1 := adN x 1 1 (by decide) (by omega) (by omega)
      rw [if_neg c, if_neg c, rdI_o (f := S) jl, rdI_o (f := S) jl]
      by_cases d : S x.toNatClampNeg = s
      · rw [if_pos d, if_pos d, rdI_o jl, rdI_o jl]
        obtain ⟨⟨u, gu⟩, q5, hu⟩ := oneBy_e (g := g) (S := S) (s := s) (w := w) (d := D x.toNatClampNeg) h1 h2 hB
        obtain ⟨m, q6, hm⟩ := manyOf_e (D := D) (S := S) (s := s) (d := D x.toNatClampNeg) h1 h2
        obtain ⟨v, q7, hv⟩ := oneBits_e (S := S) (s := s) (w := w) (d := D x.toNatClampNeg) h1 h2 hB
        have hu : onQ D M S s (D x.toNatClampNeg) w no.toNatClampNeg u := hu
        rw [q5, cb2_o, q6, cb1_o]
        have next := ih (x + 1) gu (by omega) (by omega) (by omega)
        by_cases k : 2 ≤ m
        · have k1 := leI k
          have hu := hu.resolve_right (fun w => by have := w.1; omega)
          have euv : u = v := bitP_eq hu.2 hv
          rw [if_pos k]
          simp only [rdI_o jl, q7, cb1_o]
          rw [← euv]
          by_cases f : u = 1
          · rw [if_pos f, if_pos f]
            exact ⟨_, _, rfl, rfl⟩
          · rw [if_neg f, if_neg f]
            by_cases f2 : u = 2
            · rw [if_pos f2, if_pos f2]
              exact ⟨_, _, rfl, rfl⟩
            · rw [if_neg f2, if_neg f2]
              exact next
        · have k1 := nleI k
          have hu := hu.resolve_left (fun w => by have := w.1; omega)
          rw [if_neg k, if_neg (by rw [hu.2]; decide), if_neg (by rw [hu.2]; decide)]
          exact next
      · rw [if_neg d, if_neg d]
        exact ih (x + 1) g (by omega) (by omega) (by omega)
theorem pe_13 {no y1 y2 rx rm : Int32} {D M S g g' : Nat → Int32} (ex : f_X11_known no D g M S y1 y2 = some (rx, g')) (em : f_X12_known no D M S y1 y2 = some rm) (h1 : 0 ≤ no.toInt) (h2 : no.toInt ≤ 40) (hB : nBd D M) : rx = rm := by
  have hFU : (100000 : Int) ≤ (FU : Int) := Int.ofNat_le.mpr FU_ge
  have z : (0 : Int32).toInt = 0 := by decide
  obtain ⟨r, q1, q2, hr⟩ := shape_2 y1
  obtain ⟨r2, q3, q4, hr2⟩ := arcw_2 y2
  rw [f_X11_known, q1, cb1_o, q3] at ex
  rw [f_X12_known, q2, cb1_o, q4] at em
  by_cases c : r = 0
  · rw [if_pos c] at ex em
    cases ex; cases em; rfl
  · rw [if_neg c, cb1_o] at ex em
    by_cases d : r2 = 0
    · rw [if_pos d] at ex em
      cases ex; cases em; rfl
    · rw [if_neg d] at ex em
      obtain ⟨u, gu, q5, q6⟩ := known_2 (S := S) (s := y1) (w := y2) h1 h2 hB FU 0 g (by omega) (by omega) (by omega)
      rw [f_X3_knownDay, q5, cb2_o] at ex
      rw [q6] at em
      cases ex; cases em; rfl
/-! THE ROW -/
theorem floorMod_e (p : Int32) : Sf (f_J9_floorMod_7cf53 p 1440) (fun r => r.toInt = p.toInt % 1440) := by
  have z : (0 : Int32).toInt = 0 := by decide
  have c : (1440 : Int32).toInt = 1440 := by decide
  have gp := rgI p
  have hd := dv_ p 1440 1440 (by omega) c
  have h1 := ub p.toInt 1440 (by omega)
  have e : (jrem p 1440).toInt = p.toInt - p.toInt.tdiv 1440 * 1440 := by
    unfold jrem
    rw [Int32.toInt_sub, Int32.toInt_mul, hd, c, Int.sub_bmod_bmod]
    exact Int.bmod_eq_of_le (by omega) (by omega)
  rw [f_J9_floorMod_7cf53]
  refine Sf_dvI (by omega) (Sf_nmI (fun v hv => ?_))
  have q := (eqI hv).trans e
  have a := xo_ p 1440 (by omega)
  obtain ⟨t, ht⟩ : ∃ t, t = p.toInt.tdiv 1440 := ⟨_, rfl⟩
  rw [← ht] at q h1
  refine Sf_ite (fun g => Sf_some ?_) (fun g => Sf_ite (fun g2 => Sf_some ?_) (fun g2 => Sf_some ?_))
  · have g := leI g
    show v.toInt = _
    omega
  · have g := nleI g
    have g2 := eqI g2
    show v.toInt = _
    omega
  · have g := nleI g
    have g2 := neI g2
    have es := adX v 1440 (by omega) (by omega)
    show (v + 1440).toInt = _
    omega
theorem arc_f {v b : Int} (h1 : 0 ≤ v ∧ v < 1440) (h2 : 0 ≤ b ∧ b < 1440) : (v - b) % 1440 = arcA v b 1440 := by
  unfold arcA
  split <;> omega
theorem rowFrom_L {g : Nat → Int32} {b f w : Int32} (h1 : 0 ≤ f.toInt) (h2 : f.toInt ≤ 40) (hb : 0 ≤ b.toInt ∧ b.toInt < 1440) (hg : ∀ k : Nat, (k : Int) < f.toInt → 0 ≤ (g k).toInt ∧ (g k).toInt < 1440) :
    ∀ (n : Nat) (c x : Int32), 0 ≤ x.toInt → x.toInt ≤ f.toInt → 0 ≤ c.toInt → c.toInt = (cnt (fun k => decide (arcA (g k).toInt b.toInt 1440 ≤ w.toInt)) x.toNatClampNeg : Int) → 41 - x.toInt < (n : Int) → Sf (f_X3_rowFrom_L6 g b f w n c x) (fun r => r.toInt = (cnt (fun k => decide (arcA (g k).toInt b.toInt 1440 ≤ w.toInt)) f.toNatClampNeg : Int)) := by
  intro n
  induction n with
  | zero => intro c x a1 a2 a3 a4 hm; exact absurd hm (by omega)
  | succ n ih =>
    intro c x a1 a2 a3 a4 hme
    rw [f_X3_rowFrom_L6]
    have tn := tN f h1
    have tx := tN x a1
    have hle := cnt_le (fun k => decide (arcA (g k).toInt b.toInt 1440 ≤ w.toInt)) x.toNatClampNeg
    refine Sf_ite (fun k => ?_) (fun k => ?_)
    · have k := leI k
      have e : x.toNatClampNeg = f.toNatClampNeg := by omega
      rw [e] at a4
      exact Sf_some a4
    · have k := nleI k
      have e1 := adN x 1 1 (by decide) (by omega) (by omega)
      have e2 := adN c 1 1 (by decide) (by omega) (by omega)
      have e0 := adN c 0 0 (by decide) (by omega) (by omega)
      have tx1 : (x + 1).toNatClampNeg = x.toNatClampNeg + 1 := by have := tN (x + 1) (by omega); omega
      refine Sf_rdI (by omega) (by omega) (fun v hv => ?_)
      have hgv := hg x.toNatClampNeg (by omega)
      rw [← hv] at hgv
      have es := sbX v b (by omega) (by omega)
      refine Sf_cb1 (floorMod_e (v - b)) (fun r hr => ?_)
      have hr : r.toInt = (v - b).toInt % 1440 := hr
      rw [es, arc_f hgv hb, hv] at hr
      refine Sf_ite (fun d => ?_) (fun d => ?_)
      · have d := ltI d
        refine Sf_nmI (fun f2 hf2 => Sf_nmI (fun x2 hx2 => ?_))
        subst hf2; subst hx2
        refine ih (c + 0) (x + 1) (by omega) (by omega) (by omega) ?_ (by omega)
        rw [tx1, cnt_n (by simp; omega)]; omega
      · have d := nltI d
        refine Sf_nmI (fun f2 hf2 => Sf_nmI (fun x2 hx2 => ?_))
        subst hf2; subst hx2
        refine ih (c + 1) (x + 1) (by omega) (by omega) (by omega) ?_ (by omega)
        rw [tx1, cnt_s (by simp; omega)]; omega
/-- how many lie on the arc that begins at b -/
def lenR (D M S : Nat → Int32) (s w b : Int32) (n : Nat) : Nat := cnt (fun i => mtB D S s 400 i && arB D M 1 b w i) n
theorem rowFrom_e {D M S g : Nat → Int32} {b f w s : Int32} {n : Nat} (h1 : 0 ≤ f.toInt) (h2 : f.toInt ≤ 40) (hb : 0 ≤ b.toInt ∧ b.toInt < 1440) (hg : ∀ k : Nat, (k : Int) < f.toInt → 0 ≤ (g k).toInt ∧ (g k).toInt < 1440) (ha : gaP D M S s 400 1 g f.toNatClampNeg n) : Sf (f_X3_rowFrom g b f w) (fun r => r.toInt = (lenR D M S s w b n : Int)) := by
  have hFU : (100000 : Int) ≤ (FU : Int) := Int.ofNat_le.mpr FU_ge
  have z : (0 : Int32).toInt = 0 := by decide
  have zn : (0 : Int32).toNatClampNeg = 0 := by decide
  rw [f_X3_rowFrom]
  refine Sf_mono (rowFrom_L h1 h2 hb hg FU 0 0 (by omega) (by omega) (by omega) (by rw [zn]; rfl) (by omega)) (fun r hr => ?_)
  have e := ha (fun v => decide (arcA v.toInt b.toInt 1440 ≤ w.toInt))
  rw [hr]
  unfold lenR arB
  rw [← e]
/-- the best row among those of a set of beginnings -/
def bestR (D M S : Nat → Int32) (s w : Int32) (n : Nat) (I : Int32 → Prop) (L B : Int32) : Prop := (∃ v, I v ∧ B = v ∧ L.toInt = (lenR D M S s w v n : Int)) ∧ ∀ v, I v → (lenR D M S s w v n : Int) ≤ L.toInt ∧ ((lenR D M S s w v n : Int) = L.toInt → B.toInt ≤ v.toInt)
theorem bestR_eq {D M S : Nat → Int32} {s w : Int32} {n : Nat} {I J : Int32 → Prop} {L B L' B' : Int32} (h : bestR D M S s w n I L B) (h' : bestR D M S s w n J L' B') (hij : ∀ v, I v ↔ J v) : L = L' ∧ B = B' := by
  obtain ⟨⟨v, a1, a2, a3⟩, a4⟩ := h
  obtain ⟨⟨u, b1, b2, b3⟩, b4⟩ := h'
  subst a2; subst b2
  have c1 := a4 _ ((hij _).mpr b1)
  have c2 := b4 _ ((hij _).mp a1)
  have e : L.toInt = L'.toInt := by omega
  exact ⟨i32_eq e, i32_eq (by have := c1.2 (by omega); have := c2.2 (by omega); omega)⟩
theorem lenR_pos {D M S : Nat → Int32} {s w v : Int32} {n i : Nat} (hi : i < n) (hm : mtB D S s 400 i = true) (hv : vOf D M 1 i = v) (hw : 0 ≤ w.toInt) : 1 ≤ lenR D M S s w v n := by
  refine cnt_pos hi ?_
  have : arcA (vOf D M 1 i).toInt v.toInt 1440 = 0 := by
    rw [hv]; unfold arcA; rw [if_neg (by omega)]; omega
  simp [hm, arB, this, hw]
theorem longest_L {D M S g : Nat → Int32} {s w f : Int32} {n : Nat} {K : Int32 → Int32 → Option (Int32 × (Nat → Int32))} {P : Int32 × (Nat → Int32) → Prop} (h1 : 0 ≤ f.toInt) (h2 : f.toInt ≤ 40) (hw : 0 ≤ w.toInt) (hg : ∀ k : Nat, (k : Int) < f.toInt → 0 ≤ (g k).toInt ∧ (g k).toInt < 1440) (ha : gaP D M S s 400 1 g f.toNatClampNeg n)
    (hK : ∀ L B : Int32, (f.toInt = 0 ∧ B = -1) ∨ (0 < f.toInt ∧ bestR D M S s w n (fun v => ∃ k : Nat, (k : Int) < f.toInt ∧ g k = v) L B) → Sf (K L B) P) :
    ∀ (m : Nat) (L B x : Int32), 0 ≤ x.toInt → x.toInt ≤ f.toInt → (x.toInt = 0 ∧ B = -1 ∧ L = 0) ∨ (0 < x.toInt ∧ bestR D M S s w n (fun v => ∃ k : Nat, (k : Int) < x.toInt ∧ g k = v) L B) → 41 - x.toInt < (m : Int) → Sf (f_X3_longestRow_L20 w f g K m L B x) P := by
  intro m
  induction m with
  | zero => intro L B x a1 a2 a3 hm; exact absurd hm (by omega)
  | succ m ih =>
    intro L B x a1 a2 a3 hme
    rw [f_X3_longestRow_L20]
    have z : (0 : Int32).toInt = 0 := by decide
    have tn := tN f h1
    have tx := tN x a1
    refine Sf_ite (fun k => ?_) (fun k => ?_)
    · have k := leI k
      have e : x.toInt = f.toInt := by omega
      rw [e] at a3
      refine hK L B ?_
      rcases a3 with h | h
      · exact Or.inl ⟨h.1, h.2.1⟩
      · exact Or.inr h
    · have k := nleI k
      have e1 := adN x 1 1 (by decide) (by omega) (by omega)
      have jl : jin x 40 = true := jin_of a1 (by omega)
      rw [rdI_o jl]
      have hgv := hg x.toNatClampNeg (by omega)
      refine Sf_cb1 (rowFrom_e (w := w) h1 h2 hgv hg ha) (fun r hr => ?_)
      have hr : r.toInt = (lenR D M S s w (g x.toNatClampNeg) n : Int) := hr
      obtain ⟨i, i1, i2, i3⟩ := gaP_to ha (k := x.toNatClampNeg) (by omega)
      have hp := lenR_pos (w := w) i1 i2 i3 hw
      have hmem : ∀ v, (∃ q : Nat, (q : Int) < (x + 1).toInt ∧ g q = v) ↔ ((∃ q : Nat, (q : Int) < x.toInt ∧ g q = v) ∨ v = g x.toNatClampNeg) := by
        intro v
        constructor
        · rintro ⟨q, q1, q2⟩
          by_cases d : q = x.toNatClampNeg
          · right; rw [← q2, d]
          · left; exact ⟨q, by omega, q2⟩
        · rintro (⟨q, q1, q2⟩ | q1)
          · exact ⟨q, by omega, q2⟩
          · exact ⟨x.toNatClampNeg, by omega, q1.symm⟩
      have take : (L.toInt < r.toInt ∨ (r.toInt = L.toInt ∧ (g x.toNatClampNeg).toInt < B.toInt)) → Sf (f_X3_longestRow_J69 g r (f_X3_longestRow_L20 w f g K m) x) P := by
        intro ht
        rw [f_X3_longestRow_J69, rdI_o jl]
        refine Sf_nmI (fun x2 hx2 => ?_)
        subst hx2
        refine ih r (g x.toNatClampNeg) (x + 1) (by omega) (by omega) (Or.inr ⟨by omega, ⟨g x.toNatClampNeg, (hmem _).mpr (Or.inr rfl), rfl, hr⟩, fun v hv => ?_⟩) (by omega)
        rcases (hmem v).mp hv with hv | hv
        · rcases a3 with h | h
          · obtain ⟨q, q1, q2⟩ := hv; exfalso; omega
          · have := h.2.2 v hv
            rcases ht with ht | ht
            · exact ⟨by omega, fun w => by omega⟩
            · exact ⟨by omega, fun w => by have := this.2 (by omega); omega⟩
        · rw [hv]; exact ⟨by omega, fun _ => by omega⟩
      have skip : ¬ L.toInt < r.toInt → ¬ (r.toInt = L.toInt ∧ (g x.toNatClampNeg).toInt < B.toInt) → Sf (f_X3_longestRow_L20 w f g K m L B (x + 1)) P := by
        intro c1 c2
        rcases a3 with h | h
        · have := eqI h.2.2
          exfalso; omega
        · refine ih L B (x + 1) (by omega) (by omega) (Or.inr ⟨by omega, ?_, fun v hv => ?_⟩) (by omega)
          · obtain ⟨v, v1, v2, v3⟩ := h.2.1
            exact ⟨v, (hmem v).mpr (Or.inl v1), v2, v3⟩
          · rcases (hmem v).mp hv with hv | hv
            · exact h.2.2 v hv
            · rw [hv]; exact ⟨by omega, fun w => by omega⟩
      refine Sf_ite (fun c => take (Or.inl (ltI c))) (fun c => ?_)
      have c := nltI c
      refine Sf_ite (fun c2 => ?_) (fun c2 => ?_)
      · have c2 := eqI c2
        rw [rdI_o jl]
        refine Sf_ite (fun c3 => ?_) (fun c3 => take (Or.inr ⟨c2, nleI c3⟩))
        have c3 := leI c3
        exact Sf_nmI (fun x2 hx2 => by subst hx2; exact skip (by omega) (by omega))
      · have c2 := neI c2
        exact Sf_nmI (fun x2 hx2 => by subst hx2; exact skip (by omega) (by omega))
theorem row_L {no s w : Int32} {D M S : Nat → Int32} {K : Int32 → Int32 → Option Int32} {P : Int32 → Prop} (h1 : 0 ≤ no.toInt) (h2 : no.toInt ≤ 40) (hB : nBd D M) (hw : 0 ≤ w.toInt)
    (hK : ∀ L B : Int32, (∀ i : Nat, i < no.toNatClampNeg → ¬ mtB D S s 400 i = true) ∨ bestR D M S s w no.toNatClampNeg (fun v => ∃ i : Nat, i < no.toNatClampNeg ∧ mtB D S s 400 i = true ∧ vOf D M 1 i = v) L B → Sf (K L B) P) :
    ∀ (m : Nat) (L B x : Int32), 0 ≤ x.toInt → x.toInt ≤ no.toInt → (L = 0 ∧ ∀ i : Nat, i < x.toNatClampNeg → ¬ mtB D S s 400 i = true) ∨ bestR D M S s w no.toNatClampNeg (fun v => ∃ i : Nat, i < x.toNatClampNeg ∧ mtB D S s 400 i = true ∧ vOf D M 1 i = v) L B → 41 - x.toInt < (m : Int) → Sf (f_X12_row_L46 no D M S s w K m L B x) P := by
  intro m
  induction m with
  | zero => intro L B x a1 a2 a3 hm; exact absurd hm (by omega)
  | succ m ih =>
    intro L B x a1 a2 a3 hme
    rw [f_X12_row_L46]
    have z : (0 : Int32).toInt = 0 := by decide
    have z4 : (400 : Int32).toInt = 400 := by decide
    have tn := tN no h1
    have tx := tN x a1
    refine Sf_ite (fun k => ?_) (fun k => ?_)
    · have k := leI k
      have e : x.toNatClampNeg = no.toNatClampNeg := by omega
      rw [e] at a3
      refine hK L B ?_
      rcases a3 with h | h
      · exact Or.inl h.2
      · exact Or.inr h
    · have k := nleI k
      have e1 := adN x 1 1 (by decide) (by omega) (by omega)
      have tx1 : (x + 1).toNatClampNeg = x.toNatClampNeg + 1 := by have := tN (x + 1) (by omega); omega
      have jl : jin x 40 = true := jin_of a1 (by omega)
      rw [rdI_o jl]
      refine Sf_ite (fun c2 => ?_) (fun c2 => ?_)
      · have hd : ¬ (400 : Int32) < D x.toNatClampNeg := fun w => by
          have := ltI w
          have := (hB x.toNatClampNeg).1
          omega
        have hm := mtB_t c2 hd
        rw [minuteBy_e a1 (by omega), cb1_o]
        refine Sf_cb1 (onArc_e h1 h2 hB (vOf_b hB 1 _)) (fun r hr => ?_)
        have hr : r.toInt = (lenR D M S s w (vOf D M 1 x.toNatClampNeg) no.toNatClampNeg : Int) := hr
        have hp := lenR_pos (M := M) (n := no.toNatClampNeg) (w := w) (by omega) hm rfl hw
        have hmem : ∀ v, (∃ q : Nat, q < (x + 1).toNatClampNeg ∧ mtB D S s 400 q = true ∧ vOf D M 1 q = v) ↔ ((∃ q : Nat, q < x.toNatClampNeg ∧ mtB D S s 400 q = true ∧ vOf D M 1 q = v) ∨ v = vOf D M 1 x.toNatClampNeg) := by
          intro v
          rw [tx1]
          constructor
          · rintro ⟨q, q1, q2, q3⟩
            by_cases d : q = x.toNatClampNeg
            · right; rw [← q3, d]
            · left; exact ⟨q, by omega, q2, q3⟩
          · rintro (⟨q, q1, q2, q3⟩ | q1)
            · exact ⟨q, by omega, q2, q3⟩
            · exact ⟨x.toNatClampNeg, by omega, hm, q1.symm⟩
        have take : (L.toInt < r.toInt ∨ (r.toInt = L.toInt ∧ (vOf D M 1 x.toNatClampNeg).toInt < B.toInt)) → Sf (f_X12_row_J116 (vOf D M 1 x.toNatClampNeg) r (f_X12_row_L46 no D M S s w K m) x) P := by
          intro ht
          rw [f_X12_row_J116]
          refine Sf_nmI (fun x2 hx2 => ?_)
          subst hx2
          refine ih r (vOf D M 1 x.toNatClampNeg) (x + 1) (by omega) (by omega) (Or.inr ⟨⟨_, (hmem _).mpr (Or.inr rfl), rfl, hr⟩, fun v hv => ?_⟩) (by omega)
          rcases (hmem v).mp hv with hv | hv
          · rcases a3 with h | h
            · obtain ⟨q, q1, q2, q3⟩ := hv
              exact absurd q2 (h.2 q q1)
            · have := h.2 v hv
              rcases ht with ht | ht
              · exact ⟨by omega, fun w => by omega⟩
              · exact ⟨by omega, fun w => by have := this.2 (by omega); omega⟩
          · rw [hv]; exact ⟨by omega, fun _ => by omega⟩
        have skip : ¬ L.toInt < r.toInt → ¬ (r.toInt = L.toInt ∧ (vOf D M 1 x.toNatClampNeg).toInt < B.toInt) → Sf (f_X12_row_L46 no D M S s w K m L B (x + 1)) P := by
          intro c1 c3
          rcases a3 with h | h
          · have := eqI h.1
            exfalso; omega
          · refine ih L B (x + 1) (by omega) (by omega) (Or.inr ⟨?_, fun v hv => ?_⟩) (by omega)
            · obtain ⟨v, v1, v2, v3⟩ := h.1
              exact ⟨v, (hmem v).mpr (Or.inl v1), v2, v3⟩
            · rcases (hmem v).mp hv with hv | hv
              · exact h.2 v hv
              · rw [hv]; exact ⟨by omega, fun w => by omega⟩
        refine Sf_ite (fun c => ?_) (fun c => ?_)
        · have c := ltI c
          exact Sf_nmI (fun x2 hx2 => by subst hx2; exact skip (by omega) (by omega))
        · have c := nltI c
          refine Sf_ite (fun c3 => ?_) (fun c3 => ?_)
          · have c3 := eqI c3
            refine Sf_ite (fun c4 => take (Or.inr ⟨c3, ltI c4⟩)) (fun c4 => ?_)
            have c4 := nltI c4
            exact Sf_nmI (fun x2 hx2 => by subst hx2; exact skip (by omega) (by omega))
          · have c3 := neI c3
            exact take (Or.inl (by omega))
      · refine Sf_nmI (fun x2 hx2 => ?_)
        subst hx2
        have hmem : ∀ q : Nat, q < (x + 1).toNatClampNeg → mtB D S s 400 q = true → q < x.toNatClampNeg := by
          intro q q1 q2
          rw [tx1] at q1
          by_cases d : q = x.toNatClampNeg
          · rw [d] at q2; exact absurd q2 (mtB_f1 c2)
          · omega
        refine ih L B (x + 1) (by omega) (by omega) ?_ (by omega)
        rcases a3 with h | h
        · exact Or.inl ⟨h.1, fun i hi hm => h.2 i (hmem i hi hm) hm⟩
        · refine Or.inr ⟨?_, fun v hv => ?_⟩
          · obtain ⟨v, ⟨q, q1, q2⟩, v2, v3⟩ := h.1
            exact ⟨v, ⟨q, by omega, q2⟩, v2, v3⟩
          · obtain ⟨q, q1, q2, q3⟩ := hv
            exact h.2 v ⟨q, hmem q q1 q2, q2, q3⟩
def rowQ (D M S : Nat → Int32) (s w what : Int32) (n : Nat) (r : Int32) : Prop := (cnt (mtB D S s 400) n = 0 ∧ r = -1) ∨ (¬ cnt (mtB D S s 400) n = 0 ∧ ∃ L B, bestR D M S s w n (fun v => ∃ i : Nat, i < n ∧ mtB D S s 400 i = true ∧ vOf D M 1 i = v) L B ∧ r = if what = 0 then L else B)
theorem longest_e {no s w what : Int32} {D M S g : Nat → Int32} (h1 : 0 ≤ no.toInt) (h2 : no.toInt ≤ 40) (hB : nBd D M) (hw : 0 ≤ w.toInt) : Sf (f_X3_longestRow no D g M S s w what) (fun y => rowQ D M S s w what no.toNatClampNeg y.1) := by
  have hFU : (100000 : Int) ≤ (FU : Int) := Int.ofNat_le.mpr FU_ge
  have z : (0 : Int32).toInt = 0 := by decide
  rw [f_X3_longestRow]
  refine Sf_cb2 (gather_e h1 h2) (fun f g1 hg => ?_)
  obtain ⟨a1, a2, a3⟩ := hg
  have a1 : 0 ≤ f.toInt := a1
  have a2 : f.toInt ≤ no.toInt := a2
  have a3 : gaP D M S s 400 1 g1 f.toNatClampNeg no.toNatClampNeg := a3
  have hn := gaP_n a3
  have tf := tN f a1
  refine longest_L a1 (by omega) hw (gaP_b a3 a1 hB) a3 (fun L B hLB => ?_) FU 0 (-1) 0 (by omega) (by omega) (Or.inl ⟨z, rfl, rfl⟩) (by omega)
  rw [f_X3_longestRow_J88]
  rcases hLB with h | h
  · have e0 : cnt (mtB D S s 400) no.toNatClampNeg = 0 := by omega
    refine Sf_ite (fun c => Sf_ite (fun c2 => Sf_some (Or.inl ⟨e0, h.2⟩)) (fun c2 => ?_)) (fun c => Sf_some (Or.inl ⟨e0, h.2⟩))
    have c2 := nleI c2
    exfalso; omega
  · have e0 : ¬ cnt (mtB D S s 400) no.toNatClampNeg = 0 := by omega
    have hb : bestR D M S s w no.toNatClampNeg (fun v => ∃ i : Nat, i < no.toNatClampNeg ∧ mtB D S s 400 i = true ∧ vOf D M 1 i = v) L B := by
      have hij : ∀ v, (∃ k : Nat, (k : Int) < f.toInt ∧ g1 k = v) ↔ (∃ i : Nat, i < no.toNatClampNeg ∧ mtB D S s 400 i = true ∧ vOf D M 1 i = v) := by
        intro v
        constructor
        · rintro ⟨k, k1, k2⟩
          obtain ⟨i, i1, i2, i3⟩ := gaP_to a3 (k := k) (by omega)
          exact ⟨i, i1, i2, by rw [i3, k2]⟩
        · rintro ⟨i, i1, i2, i3⟩
          obtain ⟨k, k1, k2⟩ := gaP_of a3 i1 i2
          exact ⟨k, by omega, by rw [k2, i3]⟩
      obtain ⟨⟨v, v1, v2, v3⟩, v4⟩ := h.2
      exact ⟨⟨v, (hij v).mp v1, v2, v3⟩, fun u hu => v4 u ((hij u).mpr hu)⟩
    refine Sf_ite (fun c => Sf_ite (fun c2 => ?_) (fun c2 => Sf_some (Or.inr ⟨e0, L, B, hb, (if_pos c).symm⟩))) (fun c => Sf_some (Or.inr ⟨e0, L, B, hb, (if_neg c).symm⟩))
    have c2 := leI c2
    exfalso; omega
theorem rowm_e {no s w what : Int32} {D M S : Nat → Int32} (h1 : 0 ≤ no.toInt) (h2 : no.toInt ≤ 40) (hB : nBd D M) (hw : 0 ≤ w.toInt) (hne : ¬ cnt (mtB D S s 400) no.toNatClampNeg = 0) : Sf (f_X12_row_L46 no D M S s w (f_X12_row_J130 what) FU 0 0 0) (fun r => rowQ D M S s w what no.toNatClampNeg r) := by
  have hFU : (100000 : Int) ≤ (FU : Int) := Int.ofNat_le.mpr FU_ge
  have z : (0 : Int32).toInt = 0 := by decide
  have zn : (0 : Int32).toNatClampNeg = 0 := by decide
  refine row_L h1 h2 hB hw (fun L B hLB => ?_) FU 0 0 0 (by omega) (by omega) (Or.inl ⟨rfl, fun i hi => absurd hi (by rw [zn]; omega)⟩) (by omega)
  rw [f_X12_row_J130]
  have hb := hLB.resolve_left (fun w => by
    obtain ⟨i, i1, i2⟩ := cnt_ex (Q := mtB D S s 400) (n := no.toNatClampNeg) (by omega)
    exact w i i1 i2)
  exact Sf_ite (fun c => Sf_some (Or.inr ⟨hne, L, B, hb, (if_pos c).symm⟩)) (fun c => Sf_some (Or.inr ⟨hne, L, B, hb, (if_neg c).symm⟩))
theorem rowQ_eq {D M S : Nat → Int32} {s w what : Int32} {n : Nat} {r q : Int32} (h : rowQ D M S s w what n r) (h' : rowQ D M S s w what n q) : r = q := by
  rcases h with ⟨a1, a2⟩ | ⟨a1, L, B, a2, a3⟩ <;> rcases h' with ⟨b1, b2⟩ | ⟨b1, L', B', b2, b3⟩
  · rw [a2, b2]
  · exact absurd a1 b1
  · exact absurd b1 a1
  · obtain ⟨e1, e2⟩ := bestR_eq a2 b2 (fun _ => Iff.rfl)
    rw [a3, b3, e1, e2]
theorem pe_14 {no y1 y2 y3 rx rm : Int32} {D M S g g' : Nat → Int32} (ex : f_X11_row no D g M S y1 y2 y3 = some (rx, g')) (em : f_X12_row no D M S y1 y2 y3 = some rm) (h1 : 0 ≤ no.toInt) (h2 : no.toInt ≤ 40) (hB : nBd D M) : rx = rm := by
  have z : (0 : Int32).toInt = 0 := by decide
  obtain ⟨r, q1, q2, hr⟩ := shape_2 y1
  obtain ⟨r2, q3, q4, hr2⟩ := arcw_2 y2
  obtain ⟨r3, q5, q6, hr3⟩ := within_2 (p := y3) 0 1 0 1 (by decide) (by decide)
  rw [f_X11_row, q1, cb1_o, q3] at ex
  rw [f_X12_row, q2, cb1_o, q4] at em
  by_cases c : r = 0
  · rw [if_pos c] at ex em
    cases ex; cases em; rfl
  · rw [if_neg c, cb1_o] at ex em
    by_cases d : r2 = 0
    · rw [if_pos d] at ex em
      cases ex; cases em; rfl
    · rw [if_neg d] at ex em
      rw [q5, cb1_o] at ex
      rw [q6, cb1_o] at em
      by_cases f : r3 = 0
      · rw [if_pos f] at ex em
        cases ex; cases em; rfl
      · rw [if_neg f] at ex em
        have hw := (isB_1 hr2 d).1
        obtain ⟨⟨u, gu⟩, q7, hu⟩ := longest_e (g := g) (S := S) (s := y1) (w := y2) (what := y3) h1 h2 hB hw
        have hu : rowQ D M S y1 y2 y3 no.toNatClampNeg u := hu
        obtain ⟨m, q8, hm⟩ := manyOf_e (D := D) (S := S) (s := y1) (d := 400) h1 h2
        rw [q7, cb2_o] at ex
        rw [q8, cb1_o] at em
        by_cases k : m = 0
        · rw [if_pos k] at em
          have k := eqI k
          have hu2 := hu.resolve_right (fun w => w.1 (by omega))
          cases ex; cases em; exact hu2.2
        · rw [if_neg k] at em
          have k := neI k
          obtain ⟨v, q9, hv⟩ := rowm_e (D := D) (M := M) (S := S) (s := y1) (w := y2) (what := y3) h1 h2 hB hw (by omega)
          rw [q9] at em
          cases ex; cases em; exact rowQ_eq hu hv
end
section
/-! THE BOUND -/
theorem mlG (x y : Int32) (h1 : -2147483648 ≤ x.toInt * y.toInt) (h2 : x.toInt * y.toInt ≤ 2147483647) : (x * y).toInt = x.toInt * y.toInt := by
  rw [Int32.toInt_mul]; exact Int.bmod_eq_of_le (by omega) (by omega)
theorem mulb {A w : Int} (h1 : 0 ≤ A) (h2 : A ≤ 2000) (h3 : -1000 ≤ w) (h4 : w ≤ 1000) : -2000000 ≤ A * w ∧ A * w ≤ 2000000 := by
  by_cases c : 0 ≤ w
  · have a := Int.mul_nonneg h1 c
    have b := Int.mul_le_mul h2 h4 c (by omega)
    omega
  · have a := Int.mul_nonneg h1 (show 0 ≤ -w by omega)
    have b := Int.mul_le_mul h2 (show -w ≤ 1000 by omega) (show 0 ≤ -w by omega) (by omega)
    rw [Int.mul_neg] at a b
    omega
theorem okI {A w f e s found : Int} (hA : 0 ≤ A) (hs : s = if w < 0 then -w else w) (hf : found = if w < 0 then -f else f) : (-e ≤ (A * w).tdiv 1000 - f ∧ (A * w).tdiv 1000 - f ≤ e) ↔ (found - e ≤ A * s / 1000 ∧ A * s / 1000 ≤ found + e) := by
  by_cases c : w < 0
  · rw [if_pos c] at hs hf
    have h0 : 0 ≤ A * s := Int.mul_nonneg hA (by omega)
    have e1 : A * w = -(A * s) := by rw [hs, Int.mul_neg, Int.neg_neg]
    rw [e1, Int.neg_tdiv, Int.tdiv_eq_ediv_of_nonneg h0]
    omega
  · rw [if_neg c] at hs hf
    have h0 : 0 ≤ A * s := Int.mul_nonneg hA (by omega)
    have e1 : A * w = A * s := by rw [hs]
    rw [e1, Int.tdiv_eq_ediv_of_nonneg h0]
    omega
theorem hiI {A s high : Int} (hs : 0 < s) : A * s / 1000 ≤ high ↔ A ≤ ((high + 1) * 1000 - 1) / s := by
  have h1 : A * s / 1000 < high + 1 ↔ A * s < (high + 1) * 1000 := Int.ediv_lt_iff_lt_mul (by omega)
  have h2 : A ≤ ((high + 1) * 1000 - 1) / s ↔ A * s ≤ (high + 1) * 1000 - 1 := Int.le_ediv_iff_mul_le hs
  rw [h2]
  omega
theorem loI {A s low : Int} (hs : 0 < s) : low ≤ A * s / 1000 ↔ (low * 1000 + s - 1) / s ≤ A := by
  have h1 : low ≤ A * s / 1000 ↔ low * 1000 ≤ A * s := Int.le_ediv_iff_mul_le (by omega)
  have h2 : (low * 1000 + s - 1) / s < A + 1 ↔ low * 1000 + s - 1 < (A + 1) * s := Int.ediv_lt_iff_lt_mul hs
  have h3 : (A + 1) * s = A * s + s := by rw [Int.add_mul, Int.one_mul]
  rw [h3] at h2
  rw [h1]
  omega
theorem dvG (x y : Int32) (hx : 0 ≤ x.toInt) (hy : 0 < y.toInt) : (x / y).toInt = x.toInt / y.toInt := by
  rw [dv_ x y y.toInt hy rfl, Int.tdiv_eq_ediv_of_nonneg hx]
noncomputable def wvI (D : Nat → Int32) (y b : Int32) (k : Nat) : Int32 := (f_X12_waveOf (jrem (D k + b) y) y).getD 0
theorem wave_b {k y : Int32} (h1 : 0 ≤ k.toInt) (h2 : k.toInt < y.toInt) (h3 : 4 ≤ y.toInt) (h4 : y.toInt ≤ 400) : Sf (f_X12_waveOf k y) (fun w => -1000 ≤ w.toInt ∧ w.toInt ≤ 1000) := by
  rw [f_X12_waveOf]
  refine Sf_dvI (by omega) (Sf_nmI (fun q hq => ?_))
  have e1 := mlY 4000 k 4000 (by decide) (by omega) (by omega)
  have e4 := mlY 4 k 4 (by decide) (by omega) (by omega)
  have e3 := mlY 3 y 3 (by decide) (by omega) (by omega)
  have eq : q.toInt = 4000 * k.toInt / y.toInt := by rw [hq, dvG _ _ (by omega) (by omega), e1]
  have u : ∀ c : Int, 4000 * k.toInt / y.toInt < c ↔ 4000 * k.toInt < c * y.toInt := fun c => Int.ediv_lt_iff_lt_mul (by omega)
  have l : ∀ c : Int, c ≤ 4000 * k.toInt / y.toInt ↔ c * y.toInt ≤ 4000 * k.toInt := fun c => Int.le_ediv_iff_mul_le (by omega)
  have u1 := u 1000
  have u3 := u 3001
  have u4 := u 4000
  have l0 := l 0
  have l1 := l 1000
  have l3 := l 3000
  have z2 : (2000 : Int32).toInt = 2000 := by decide
  refine Sf_ite (fun g => Sf_ite (fun g2 => Sf_some ?_) (fun g2 => Sf_some ?_)) (fun g => Sf_some ?_)
  · have g := leI g
    have g2 := leI g2
    have es := sbN q 4000 4000 (by decide) (by omega) (by omega)
    show -1000 ≤ (q - 4000).toInt ∧ (q - 4000).toInt ≤ 1000
    omega
  · have g := leI g
    have g2 := nleI g2
    have es := sbX 2000 q (by omega) (by omega)
    show -1000 ≤ (2000 - q).toInt ∧ (2000 - q).toInt ≤ 1000
    omega
  · have g := nleI g
    show -1000 ≤ q.toInt ∧ q.toInt ≤ 1000
    omega
theorem wvI_e {D : Nat → Int32} {y b : Int32} {k : Nat} (hd : 0 ≤ (D k).toInt ∧ (D k).toInt ≤ 399) (h3 : 4 ≤ y.toInt) (h4 : y.toInt ≤ 400) (hb : 0 ≤ b.toInt ∧ b.toInt < y.toInt) : f_X12_waveOf (jrem (D k + b) y) y = some (wvI D y b k) ∧ (-1000 ≤ (wvI D y b k).toInt ∧ (wvI D y b k).toInt ≤ 1000) := by
  have e1 := adX (D k) b (by omega) (by omega)
  have m := rm_ (D k + b) y (by omega)
  have m0 := m.2.2.1 (by omega)
  obtain ⟨w, e, hw⟩ := wave_b (k := jrem (D k + b) y) m0 m.2.1 h3 h4
  have : wvI D y b k = w := by unfold wvI; rw [e]; rfl
  rw [this]
  exact ⟨e, hw⟩
theorem waveAt_e {k y : Int32} (h : 1 ≤ y.toInt) : f_X2_waveAt k y = f_X12_waveOf k y := by
  have o : (1 : Int32).toInt = 1 := by decide
  rw [f_X2_waveAt, f_X12_waveOf, if_pos (Int32.le_iff_toInt_le.mpr (by omega))]
def okN (D F : Nat → Int32) (y e b : Int32) (A : Int) (k : Nat) : Prop := -e.toInt ≤ (A * (wvI D y b k).toInt).tdiv 1000 - (F k).toInt ∧ (A * (wvI D y b k).toInt).tdiv 1000 - (F k).toInt ≤ e.toInt
def okA (D F : Nat → Int32) (y e b : Int32) (n : Int) (A : Int) : Prop := ∀ k : Nat, (k : Int) < n → okN D F y e b A k
def hBd (D F : Nat → Int32) : Prop := ∀ j, (0 ≤ (D j).toInt ∧ (D j).toInt ≤ 399) ∧ (-100000 ≤ (F j).toInt ∧ (F j).toInt ≤ 100000)
def SzP (D F : Nat → Int32) (y e b : Int32) (n : Int) (r : Int32) : Prop := (r.toInt = -2 ∧ ∀ A : Int, 0 ≤ A → A ≤ 2000 → ¬ okA D F y e b n A) ∨ (0 ≤ r.toInt ∧ r.toInt ≤ 2000 ∧ okA D F y e b n r.toInt ∧ ∀ A : Int, r.toInt < A → A ≤ 2000 → ¬ okA D F y e b n A)
theorem okA_step {D F : Nat → Int32} {y e b x x' : Int32} {A : Int} (h0 : 0 ≤ x.toInt) (hx : x'.toInt = x.toInt + 1) : okA D F y e b x'.toInt A ↔ okA D F y e b x.toInt A ∧ okN D F y e b A x.toNatClampNeg := by
  have tx := tN x h0
  constructor
  · intro h
    exact ⟨fun k hk => h k (by omega), h _ (by omega)⟩
  · intro h
    exact all_step h.1 h0 hx h.2
theorem gsz_L {D F : Nat → Int32} {n y e b : Int32} (hn : 0 ≤ n.toInt) (hn2 : n.toInt ≤ 30) (h3 : 4 ≤ y.toInt) (h4 : y.toInt ≤ 400) (he : 0 ≤ e.toInt) (he2 : e.toInt ≤ 100000) (hb : 0 ≤ b.toInt ∧ b.toInt < y.toInt) (hB : hBd D F) :
    ∀ (m : Nat) (l g x : Int32), 0 ≤ x.toInt → x.toInt ≤ n.toInt → 0 ≤ l.toInt → 0 ≤ g.toInt → g.toInt ≤ 2000 → (∀ A : Int, 0 ≤ A → A ≤ 2000 → (okA D F y e b x.toInt A ↔ l.toInt ≤ A ∧ A ≤ g.toInt)) → 31 - x.toInt < (m : Int) → Sf (f_X2_greatestSize_L11 n D F y b e f_X2_greatestSize_J165 m l g x) (fun r => SzP D F y e b n.toInt r) := by
  intro m
  induction m with
  | zero => intro l g x a1 a2 a3 a4 a5 a6 hm; exact absurd hm (by omega)
  | succ m ih =>
    intro l g x a1 a2 a3 a4 a5 a6 hme
    rw [f_X2_greatestSize_L11]
    have z : (0 : Int32).toInt = 0 := by decide
    have tx := tN x a1
    refine Sf_ite (fun c => ?_) (fun c => Sf_ite (fun c2 => absurd (leI c2) (by omega)) (fun _ => ?_))
    · have c := leI c
      have ex : x.toInt = n.toInt := by omega
      rw [ex] at a6
      rw [f_X2_greatestSize_J165]
      refine Sf_ite (fun d => Sf_some (Or.inl ⟨show (-2 : Int32).toInt = -2 by decide, fun A A1 A2 w => ?_⟩)) (fun d => Sf_some (Or.inr ⟨a4, a5, ?_, fun A A1 A2 w => ?_⟩))
      · have d := ltI d
        have := (a6 A A1 A2).mp w
        omega
      · have d := nltI d
        exact (a6 g.toInt a4 a5).mpr ⟨d, Int.le_refl _⟩
      · have := (a6 A (by omega) A2).mp w
        omega
    · have c := nleI c
      have e1 := adN x 1 1 (by decide) (by omega) (by omega)
      have jl : jin x 30 = true := jin_of a1 (by omega)
      rw [rdI_o jl]
      obtain ⟨hw, hw2⟩ := wvI_e (D := D) (k := x.toNatClampNeg) (hB x.toNatClampNeg).1 h3 h4 hb
      have hF := (hB x.toNatClampNeg).2
      refine Sf_dvI (by omega) ?_
      rw [waveAt_e (by omega), hw, cb1_o]
      obtain ⟨w, hwe⟩ : ∃ w, w = wvI D y b x.toNatClampNeg := ⟨_, rfl⟩
      rw [← hwe] at hw2 ⊢
      rw [rdI_o jl, rdI_o jl]
      have J : ∀ t : Int32, t.toInt = (if w.toInt < 0 then -(F x.toNatClampNeg).toInt else (F x.toNatClampNeg).toInt) → Sf (f_X2_greatestSize_J64 e l g x w (f_X2_greatestSize_L11 n D F y b e f_X2_greatestSize_J165 m) t) (fun r => SzP D F y e b n.toInt r) := by
        intro t ht
        have htb : -100000 ≤ t.toInt ∧ t.toInt ≤ 100000 := by rw [ht]; split <;> omega
        rw [f_X2_greatestSize_J64]
        refine Sf_nmI (fun lo hlo => Sf_nmI (fun hi hhi => Sf_nmI (fun s hs => ?_)))
        have elo : lo.toInt = t.toInt - e.toInt := (eqI hlo).trans (sbX t e (by omega) (by omega))
        have ehi : hi.toInt = t.toInt + e.toInt := (eqI hhi).trans (adX t e (by omega) (by omega))
        have es : s.toInt = if w.toInt < 0 then -w.toInt else w.toInt := by
          rw [hs]
          unfold jabs
          by_cases c5 : (0 : Int32) ≤ w
          · have c6 := leI c5
            rw [if_pos c5, if_neg (by omega)]
          · have c6 := nleI c5
            have := sbX 0 w (by omega) (by omega)
            rw [if_neg c5, if_pos (by omega)]
            omega
        have hok : ∀ A : Int, 0 ≤ A → (okN D F y e b A x.toNatClampNeg ↔ (lo.toInt ≤ A * s.toInt / 1000 ∧ A * s.toInt / 1000 ≤ hi.toInt)) := by
          intro A hA
          unfold okN
          rw [← hwe, elo, ehi]
          exact okI hA es ht
        have hs0 : 0 ≤ s.toInt ∧ s.toInt ≤ 1000 := by rw [es]; split <;> omega
        have none : (∀ A : Int, 0 ≤ A → A ≤ 2000 → ¬ okN D F y e b A x.toNatClampNeg) → SzP D F y e b n.toInt (-2) := fun w => Or.inl ⟨by decide, fun A A1 A2 w2 => w A A1 A2 (w2 _ (by omega))⟩
        have J2 : 0 ≤ hi.toInt → (s.toInt = 0 → lo.toInt ≤ 0) → Sf (f_X2_greatestSize_J103 l g x lo hi s (f_X2_greatestSize_L11 n D F y b e f_X2_greatestSize_J165 m)) (fun r => SzP D F y e b n.toInt r) := by
          intro k1 k2
          rw [f_X2_greatestSize_J103]
          refine Sf_ite (fun c5 => ?_) (fun c5 => ?_)
          · have c5 := leI c5
            have s0 : s.toInt = 0 := by omega
            refine Sf_nmI (fun x2 hx2 => ?_)
            subst hx2
            refine ih l g (x + 1) (by omega) (by omega) a3 a4 a5 (fun A A1 A2 => ?_) (by omega)
            rw [okA_step a1 e1, a6 A A1 A2]
            have h5 := hok A A1
            rw [s0, Int.mul_zero] at h5
            have := k2 s0
            constructor
            · exact fun w => w.1
            · exact fun w => ⟨w, h5.mpr ⟨by omega, by omega⟩⟩
          · have c5 := nleI c5
            have s1 : 0 < s.toInt := by omega
            have eh1 := adN hi 1 1 (by decide) (by omega) (by omega)
            have eh2 := mlX (hi + 1) 1000 1000 (by decide) (by omega) (by omega)
            have eh3 := sbN ((hi + 1) * 1000) 1 1 (by decide) (by omega) (by omega)
            have eh4 : (((hi + 1) * 1000 - 1) / s).toInt = ((hi.toInt + 1) * 1000 - 1) / s.toInt := by rw [dvG _ _ (by omega) s1, eh3, eh2, eh1]
            have hq0 : 0 ≤ ((hi.toInt + 1) * 1000 - 1) / s.toInt := Int.ediv_nonneg (by omega) (by omega)
            refine Sf_dvI (by omega) (Sf_nmI (fun g2 hg2 => ?_))
            have jm := jmin_ g (((hi + 1) * 1000 - 1) / s)
            rw [← hg2, eh4] at jm
            refine Sf_ite (fun c6 => ?_) (fun c6 => ?_)
            · have c6 := ltI c6
              have el2 := mlX lo 1000 1000 (by decide) (by omega) (by omega)
              have el3 := adX (lo * 1000) s (by omega) (by omega)
              have el4 := sbN (lo * 1000 + s) 1 1 (by decide) (by omega) (by omega)
              have el5 : ((lo * 1000 + s - 1) / s).toInt = (lo.toInt * 1000 + s.toInt - 1) / s.toInt := by rw [dvG _ _ (by omega) s1, el4, el3, el2]
              refine Sf_dvI (by omega) (Sf_nmI (fun l2 hl2 => Sf_nmI (fun x2 hx2 => ?_)))
              subst hx2
              have jx := jmax_ l ((lo * 1000 + s - 1) / s)
              rw [← hl2, el5] at jx
              refine ih l2 g2 (x + 1) (by omega) (by omega) (by omega) (by omega) (by omega) (fun A A1 A2 => ?_) (by omega)
              rw [okA_step a1 e1, a6 A A1 A2, hok A A1, hiI s1, loI s1]
              omega
            · have c6 := nltI c6
              refine Sf_nmI (fun x2 hx2 => ?_)
              subst hx2
              refine ih l g2 (x + 1) (by omega) (by omega) a3 (by omega) (by omega) (fun A A1 A2 => ?_) (by omega)
              have hnn : 0 ≤ A * s.toInt / 1000 := Int.ediv_nonneg (Int.mul_nonneg A1 (by omega)) (by omega)
              rw [okA_step a1 e1, a6 A A1 A2, hok A A1, hiI s1]
              omega
        refine Sf_ite (fun c5 => Sf_some (none (fun A A1 A2 w => ?_))) (fun c5 => Sf_ite (fun c6 => Sf_ite (fun c7 => ?_) (fun c7 => Sf_some (none (fun A A1 A2 w => ?_)))) (fun c6 => ?_))
        · have c5 := ltI c5
          have hnn : 0 ≤ A * s.toInt / 1000 := Int.ediv_nonneg (Int.mul_nonneg A1 (by omega)) (by omega)
          have := (hok A A1).mp w
          omega
        · have c5 := nltI c5
          have c7 := leI c7
          exact J2 (by omega) (fun _ => by omega)
        · have c6 := eqI c6
          have c7 := nleI c7
          have h5 := (hok A A1).mp w
          rw [c6, z, Int.mul_zero] at h5
          omega
        · have c5 := nltI c5
          have c6 := neI c6
          exact J2 (by omega) (fun k => absurd (k.trans z.symm) c6)
      refine Sf_ite (fun c5 => J _ ?_) (fun c5 => J _ ?_)
      · have c5 := leI c5
        rw [if_neg (by omega)]
      · have c5 := nleI c5
        rw [if_pos (by omega), ngX _ (by omega)]
theorem gsz_e {D F : Nat → Int32} {n y e b : Int32} (hn : 0 ≤ n.toInt) (hn2 : n.toInt ≤ 30) (h3 : 4 ≤ y.toInt) (h4 : y.toInt ≤ 400) (he : 0 ≤ e.toInt) (he2 : e.toInt ≤ 100000) (hb : 0 ≤ b.toInt ∧ b.toInt < y.toInt) (hB : hBd D F) : Sf (f_X2_greatestSize n D F y b e) (fun r => SzP D F y e b n.toInt r) := by
  have hFU : (100000 : Int) ≤ (FU : Int) := Int.ofNat_le.mpr FU_ge
  have z : (0 : Int32).toInt = 0 := by decide
  have z2 : (2000 : Int32).toInt = 2000 := by decide
  rw [f_X2_greatestSize]
  refine gsz_L hn hn2 h3 h4 he he2 hb hB FU 0 2000 0 (by omega) (by omega) (by omega) (by omega) (by omega) (fun A A1 A2 => ⟨fun _ => by omega, fun _ k hk => absurd hk (by omega)⟩) (by omega)
/-- the greatest size over all beginnings below x -/
def BdP (D F : Nat → Int32) (y e : Int32) (n x : Int) (r : Int32) : Prop := (r.toInt = -2 ∧ ∀ b : Int32, 0 ≤ b.toInt → b.toInt < x → ∀ A : Int, 0 ≤ A → A ≤ 2000 → ¬ okA D F y e b n A) ∨ (0 ≤ r.toInt ∧ r.toInt ≤ 2000 ∧ (∃ b : Int32, 0 ≤ b.toInt ∧ b.toInt < x ∧ okA D F y e b n r.toInt) ∧ ∀ b : Int32, 0 ≤ b.toInt → b.toInt < x → ∀ A : Int, r.toInt < A → A ≤ 2000 → ¬ okA D F y e b n A)
theorem BdP_eq {D F : Nat → Int32} {y e : Int32} {n x : Int} {r q : Int32} (h : BdP D F y e n x r) (h2 : BdP D F y e n x q) : r = q := by
  rcases h with ⟨a1, a2⟩ | ⟨a1, a2, ⟨b, a3, a4, a5⟩, a6⟩ <;> rcases h2 with ⟨b1, b2⟩ | ⟨b1, b2, ⟨b', b3, b4, b5⟩, b6⟩
  · exact i32_eq (by omega)
  · exact absurd b5 (a2 b' b3 b4 _ b1 b2)
  · exact absurd a5 (b2 b a3 a4 _ a1 a2)
  · refine i32_eq ?_
    by_cases c : r.toInt < q.toInt
    · exact absurd b5 (a6 b' b3 b4 _ c b2)
    · by_cases d : q.toInt < r.toInt
      · exact absurd a5 (b6 b a3 a4 _ d a2)
      · omega
theorem orb_L {D F : Nat → Int32} {n y e : Int32} (hn : 0 ≤ n.toInt) (hn2 : n.toInt ≤ 30) (h3 : 4 ≤ y.toInt) (h4 : y.toInt ≤ 400) (he : 0 ≤ e.toInt) (he2 : e.toInt ≤ 100000) (hB : hBd D F) :
    ∀ (m : Nat) (r x : Int32), 0 ≤ x.toInt → x.toInt ≤ y.toInt → BdP D F y e n.toInt x.toInt r → 401 - x.toInt < (m : Int) → Sf (f_X2_greatestOrbit_L6 n D F y e m r x) (fun r => BdP D F y e n.toInt y.toInt r) := by
  intro m
  induction m with
  | zero => intro r x a1 a2 a3 hm; exact absurd hm (by omega)
  | succ m ih =>
    intro r x a1 a2 a3 hme
    rw [f_X2_greatestOrbit_L6]
    refine Sf_ite (fun c => ?_) (fun c => ?_)
    · have c := leI c
      have ex : x.toInt = y.toInt := by omega
      rw [ex] at a3
      exact Sf_some a3
    · have c := nleI c
      have e1 := adN x 1 1 (by decide) (by omega) (by omega)
      refine Sf_cb1 (gsz_e hn hn2 h3 h4 he he2 ⟨a1, c⟩ hB) (fun q hq => ?_)
      have hq : SzP D F y e x n.toInt q := hq
      refine Sf_nmI (fun r2 hr2 => Sf_nmI (fun x2 hx2 => ?_))
      subst hx2
      have jm := jmax_ r q
      rw [← hr2] at jm
      refine ih r2 (x + 1) (by omega) (by omega) ?_ (by omega)
      have bx : ∀ b : Int32, b.toInt < (x + 1).toInt → b.toInt < x.toInt ∨ b = x := fun b hb => by
        by_cases d : b.toInt < x.toInt
        · exact Or.inl d
        · exact Or.inr (i32_eq (by omega))
      have lower : ∀ A : Int, r2.toInt < A → 0 ≤ A → A ≤ 2000 → ∀ b : Int32, 0 ≤ b.toInt → b.toInt < (x + 1).toInt → ¬ okA D F y e b n.toInt A := by
        intro A k1 k2 k3 b k4 k5
        rcases bx b k5 with d | d
        · rcases a3 with h | h
          · exact h.2 b k4 d A k2 k3
          · exact h.2.2.2 b k4 d A (by omega) k3
        · rw [d]
          rcases hq with h | h
          · exact h.2 A k2 k3
          · exact h.2.2.2 A (by omega) k3
      by_cases d : r2.toInt < 0
      · refine Or.inl ⟨?_, fun b k4 k5 A k1 k2 => lower A (by omega) k1 k2 b k4 k5⟩
        rcases a3 with h | h <;> rcases hq with g | g <;> omega
      · refine Or.inr ⟨by omega, ?_, ?_, fun b k4 k5 A k1 k2 => lower A k1 (by omega) k2 b k4 k5⟩
        · rcases a3 with h | h <;> rcases hq with g | g <;> omega
        · by_cases f : r2.toInt = r.toInt
          · rcases a3 with h | h
            · exfalso; omega
            · obtain ⟨b, b1, b2, b3⟩ := h.2.2.1
              exact ⟨b, b1, by omega, by rw [f]; exact b3⟩
          · have f2 : r2.toInt = q.toInt := by omega
            rcases hq with g | g
            · exfalso; omega
            · exact ⟨x, a1, by omega, by rw [f2]; exact g.2.2.1⟩
theorem can_L {D F : Nat → Int32} {n y e a b : Int32} (hn : 0 ≤ n.toInt) (hn2 : n.toInt ≤ 30) (h3 : 4 ≤ y.toInt) (h4 : y.toInt ≤ 400) (he : 0 ≤ e.toInt) (he2 : e.toInt ≤ 100000) (ha : 0 ≤ a.toInt ∧ a.toInt ≤ 2000) (hb : 0 ≤ b.toInt ∧ b.toInt < y.toInt) (hB : hBd D F) :
    ∀ (m : Nat) (x : Int32), 0 ≤ x.toInt → x.toInt ≤ n.toInt → okA D F y e b x.toInt a.toInt → 31 - x.toInt < (m : Int) → Sf (f_X12_canGoAbout_L3 n F D y e a b m x) (fun r => isB r (okA D F y e b n.toInt a.toInt)) := by
  intro m
  induction m with
  | zero => intro x a1 a2 a3 hm; exact absurd hm (by omega)
  | succ m ih =>
    intro x a1 a2 a3 hme
    rw [f_X12_canGoAbout_L3]
    have tx := tN x a1
    refine Sf_ite (fun c => ?_) (fun c => ?_)
    · have c := leI c
      have ex : x.toInt = n.toInt := by omega
      rw [ex] at a3
      exact Sf_some (Or.inl ⟨rfl, a3⟩)
    · have c := nleI c
      have e1 := adN x 1 1 (by decide) (by omega) (by omega)
      have jl : jin x 30 = true := jin_of a1 (by omega)
      rw [rdI_o jl]
      obtain ⟨hw, hw2⟩ := wvI_e (D := D) (k := x.toNatClampNeg) (hB x.toNatClampNeg).1 h3 h4 hb
      have hF := (hB x.toNatClampNeg).2
      refine Sf_dvI (by omega) ?_
      rw [hw, cb1_o, rdI_o jl]
      have mb := mulb ha.1 ha.2 hw2.1 hw2.2
      have em := mlG a (wvI D y b x.toNatClampNeg) (by omega) (by omega)
      have ed := dv_ (a * wvI D y b x.toNatClampNeg) 1000 1000 (by omega) (by decide)
      have ub1 := ub (a.toInt * (wvI D y b x.toNatClampNeg).toInt) 1000 (by omega)
      rw [em] at ed
      obtain ⟨t, ht⟩ : ∃ t, t = (a.toInt * (wvI D y b x.toNatClampNeg).toInt).tdiv 1000 := ⟨_, rfl⟩
      rw [← ht] at ed ub1
      have es := sbX (a * wvI D y b x.toNatClampNeg / 1000) (F x.toNatClampNeg) (by omega) (by omega)
      have en := ngX e (by omega)
      refine Sf_cb1 (s_X12_lies _ _ _) (fun r hr => ?_)
      have hr := hr.2
      rw [t64, t64, t64, es, ed, en] at hr
      have hok : okN D F y e b a.toInt x.toNatClampNeg ↔ (-e.toInt ≤ t - (F x.toNatClampNeg).toInt ∧ t - (F x.toNatClampNeg).toInt ≤ e.toInt) := by unfold okN; rw [← ht]
      have z : (0 : Int32).toInt = 0 := by decide
      refine Sf_ite (fun d => Sf_some (Or.inr ⟨rfl, fun w => ?_⟩)) (fun d => Sf_nmI (fun x2 hx2 => ?_))
      · have d := eqI d
        have := hok.mp (w _ (by omega))
        omega
      · subst hx2
        have d := neI d
        exact ih (x + 1) (by omega) (by omega) ((okA_step a1 e1).mpr ⟨a3, hok.mpr (by omega)⟩) (by omega)
theorem can_e {D F : Nat → Int32} {n y e a b : Int32} (hn : 0 ≤ n.toInt) (hn2 : n.toInt ≤ 30) (h3 : 4 ≤ y.toInt) (h4 : y.toInt ≤ 400) (he : 0 ≤ e.toInt) (he2 : e.toInt ≤ 100000) (ha : 0 ≤ a.toInt ∧ a.toInt ≤ 2000) (hb : 0 ≤ b.toInt ∧ b.toInt < y.toInt) (hB : hBd D F) : Sf (f_X12_canGoAbout n F D y e a b) (fun r => isB r (okA D F y e b n.toInt a.toInt)) := by
  have hFU : (100000 : Int) ≤ (FU : Int) := Int.ofNat_le.mpr FU_ge
  have z : (0 : Int32).toInt = 0 := by decide
  rw [f_X12_canGoAbout]
  exact can_L hn hn2 h3 h4 he he2 ha hb hB FU 0 (by omega) (by omega) (fun k hk => absurd hk (by omega)) (by omega)
theorem bd_L34 {D F : Nat → Int32} {n y e a : Int32} {K : Int32 → Option Int32} (hn : 0 ≤ n.toInt) (hn2 : n.toInt ≤ 30) (h3 : 4 ≤ y.toInt) (h4 : y.toInt ≤ 400) (he : 0 ≤ e.toInt) (he2 : e.toInt ≤ 100000) (ha : 0 ≤ a.toInt ∧ a.toInt ≤ 2000) (hB : hBd D F)
    (hup : ∀ b : Int32, 0 ≤ b.toInt → b.toInt < y.toInt → ∀ A : Int, a.toInt < A → A ≤ 2000 → ¬ okA D F y e b n.toInt A)
    (hK : (∀ b : Int32, 0 ≤ b.toInt → b.toInt < y.toInt → ¬ okA D F y e b n.toInt a.toInt) → ∀ a' : Int32, a'.toInt = a.toInt - 1 → Sf (K a') (fun r => BdP D F y e n.toInt y.toInt r)) :
    ∀ (m : Nat) (x : Int32), 0 ≤ x.toInt → x.toInt ≤ y.toInt → (∀ b : Int32, 0 ≤ b.toInt → b.toInt < x.toInt → ¬ okA D F y e b n.toInt a.toInt) → 401 - x.toInt < (m : Int) → Sf (f_X12_bound_L34 n F D y e a K m x) (fun r => BdP D F y e n.toInt y.toInt r) := by
  intro m
  induction m with
  | zero => intro x a1 a2 a3 hm; exact absurd hm (by omega)
  | succ m ih =>
    intro x a1 a2 a3 hme
    rw [f_X12_bound_L34]
    refine Sf_ite (fun c => ?_) (fun c => ?_)
    · have c := leI c
      refine Sf_nmI (fun a2 ha2 => hK (fun b b1 b2 => a3 b b1 (by omega)) a2 ?_)
      exact (eqI ha2).trans (adN a (-1) (-1) (by decide) (by omega) (by omega))
    · have c := nleI c
      have e1 := adN x 1 1 (by decide) (by omega) (by omega)
      refine Sf_cb1 (can_e hn hn2 h3 h4 he he2 ha ⟨a1, c⟩ hB) (fun r hr => ?_)
      refine Sf_ite (fun d => Sf_nmI (fun x2 hx2 => ?_)) (fun d => Sf_some (Or.inr ⟨ha.1, ha.2, ⟨x, a1, c, isB_1 hr d⟩, hup⟩))
      subst hx2
      refine ih (x + 1) (by omega) (by omega) (fun b b1 b2 => ?_) (by omega)
      by_cases f : b.toInt < x.toInt
      · exact a3 b b1 f
      · have : b = x := i32_eq (by omega)
        rw [this]; exact isB_0 hr d
theorem bd_L27 {D F : Nat → Int32} {n y e : Int32} (hn : 0 ≤ n.toInt) (hn2 : n.toInt ≤ 30) (h3 : 4 ≤ y.toInt) (h4 : y.toInt ≤ 400) (he : 0 ≤ e.toInt) (he2 : e.toInt ≤ 100000) (hB : hBd D F) :
    ∀ (m : Nat) (a : Int32), -1 ≤ a.toInt → a.toInt ≤ 2000 → (∀ b : Int32, 0 ≤ b.toInt → b.toInt < y.toInt → ∀ A : Int, a.toInt < A → A ≤ 2000 → ¬ okA D F y e b n.toInt A) → a.toInt + 2 < (m : Int) → Sf (f_X12_bound_L27 n F D y e m a) (fun r => BdP D F y e n.toInt y.toInt r) := by
  have hFU : (100000 : Int) ≤ (FU : Int) := Int.ofNat_le.mpr FU_ge
  have z : (0 : Int32).toInt = 0 := by decide
  intro m
  induction m with
  | zero => intro a a1 a2 a3 hm; exact absurd hm (by omega)
  | succ m ih =>
    intro a a1 a2 a3 hme
    rw [f_X12_bound_L27]
    refine Sf_ite (fun c => Sf_some (Or.inl ⟨show (-2 : Int32).toInt = -2 by decide, fun b b1 b2 A A1 A2 => ?_⟩)) (fun c => ?_)
    · have c := ltI c
      exact a3 b b1 b2 A (by omega) A2
    · have c := nltI c
      refine bd_L34 hn hn2 h3 h4 he he2 ⟨by omega, a2⟩ hB a3 (fun hno a' ha' => ?_) FU 0 (by omega) (by omega) (fun b b1 b2 => absurd b2 (by omega)) (by omega)
      refine ih a' (by omega) (by omega) (fun b b1 b2 A A1 A2 => ?_) (by omega)
      by_cases f : A = a.toInt
      · rw [f]; exact hno b b1 b2
      · exact a3 b b1 b2 A (by omega) A2
theorem pe_25 {n y1 y2 rx rm : Int32} {D F : Nat → Int32} (ex : f_X11_bound n D F y1 y2 = some rx) (em : f_X12_bound n F D y1 y2 = some rm) (hn : 0 ≤ n.toInt) (hn2 : n.toInt ≤ 30) (hB : hBd D F) : rx = rm := by
  have hFU : (100000 : Int) ≤ (FU : Int) := Int.ofNat_le.mpr FU_ge
  have z : (0 : Int32).toInt = 0 := by decide
  have z4 : (4 : Int32).toInt = 4 := by decide
  have z400 : (400 : Int32).toInt = 400 := by decide
  have zm : (-2 : Int32).toInt = -2 := by decide
  have z2 : (2000 : Int32).toInt = 2000 := by decide
  obtain ⟨r, q1, q2, hr⟩ := within_2 (p := y1) 4 400 4 400 (by decide) (by decide)
  obtain ⟨b1, p1, h1⟩ := s_X11_isNightError y2
  obtain ⟨b2, p2, h2⟩ := s_X12_isError y2
  have h1 := h1.2
  have h2 := h2.2
  have hbb : b1 = b2 := i32_eq (by omega)
  rw [f_X11_bound, q1, cb1_o, p1] at ex
  rw [f_X12_bound, q2, cb1_o, p2, ← hbb] at em
  by_cases c : r = 0
  · rw [if_pos c] at ex em
    cases ex; cases em; rfl
  · rw [if_neg c, cb1_o] at ex em
    have hr := isB_1 hr c
    by_cases d : b1 = 0
    · rw [if_pos d] at ex em
      cases ex; cases em; rfl
    · rw [if_neg d] at ex em
      have d := neI d
      obtain ⟨u, k1, hu⟩ := orb_L hn hn2 (y := y1) (e := y2) (by omega) (by omega) (by omega) (by omega) hB FU (-2) 0 (by omega) (by omega) (Or.inl ⟨zm, fun b b1 b2 => absurd b2 (by omega)⟩) (by omega)
      obtain ⟨v, k2, hv⟩ := bd_L27 hn hn2 (y := y1) (e := y2) (by omega) (by omega) (by omega) (by omega) hB FU 2000 (by omega) (by omega) (fun b b1 b2 A A1 A2 => absurd A1 (by omega)) (by omega)
      rw [f_X2_greatestOrbit, k1, cb1_o] at ex
      rw [k2] at em
      cases ex; cases em
      exact BdP_eq hu hv
end
