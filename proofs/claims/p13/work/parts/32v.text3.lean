/-! every text, held alike -/
def TXE (v : kTv) (code ca cf ct sf : Nat → Int32) (s c : Nat) : Prop := v.1 = nI c ∧ c = 1 ∧ ∃ L : Nat, L ≤ 120 ∧ v.2.1.1 = L ∧ v.2.2.1.1 = 2 ∧ v.2.2.2.1 = 1 ∧ v.2.2.1.2 0 = nI 0 ∧ v.2.2.2.2 0 = nI L ∧ v.2.2.1.2 1 = nI L ∧ sf (12 * s) = nI (120 * s) ∧ cf (12 * s) = nI (120 * s + L) ∧ ct (12 * s) = nI (120 * s + L) ∧ ∃ f : Sem, CR v.2.1.2 0 L 16 f ∧ RR (fun j => code (120 * s + j)) (fun j => ca (120 * s + j)) 0 L f
def TXV (v : kTv) (code ca cf ct sf : Nat → Int32) (s c : Nat) : Prop := (s < 10 ∧ TXR 1 v code ca cf ct sf s c) ∨ (10 ≤ s ∧ s < 14 ∧ TXR 0 v code ca cf ct sf s c) ∨ (14 ≤ s ∧ TXE v code ca cf ct sf s c)
def TX (G : kG) (code ca cf ct sf many : Nat → Int32) : Prop := ∀ s, s < 20 → (G.2 s = none ∧ many s = 0) ∨ ∃ (x : kTx) (c : Nat), G.2 s = some x ∧ many s = nI c ∧ TXV x.2 code ca cf ct sf s c
section T3
variable {v : kTv} {code ca cf ct sf code' ca' cf' ct' sf' many : Nat → Int32} {s s' c : Nat} {G : kG}
theorem TXR_out {lw : Int32} (h : TXR lw v code ca cf ct sf s c) (hs : ¬ s = s') (ho : outQ s' code ca cf ct sf code' ca' cf' ct' sf') : TXR lw v code' ca' cf' ct' sf' s c := by
  obtain ⟨h1, h2, h3, h4, h5, h6, h7⟩ := h
  obtain ⟨o1, o2⟩ := ho
  refine ⟨h1, h2, h3, h4, h5, h6, fun x hx => ?_⟩
  obtain ⟨a, L1, L2, g1, g2, g3, g4, g5, g6, g7, g8, g, gb, gC, gR⟩ := h7 x hx
  obtain ⟨e1, e2, e3⟩ := o2 (12 * s + x) (by omega)
  refine ⟨a, L1, L2, g1, g2, g3, g4, e1.trans g5, e2.trans g6, e3.trans g7, fun hl => ?_, g, gb, gC, RR_congr gR (fun i hi => o1 (120 * s + (a + L1 + i)) (by omega))⟩
  obtain ⟨f, fC, fR⟩ := g8 hl
  exact ⟨f, fC, RR_congr fR (fun i hi => o1 (120 * s + (a + i)) (by omega))⟩
theorem TXE_out (h : TXE v code ca cf ct sf s c) (hs : ¬ s = s') (ho : outQ s' code ca cf ct sf code' ca' cf' ct' sf') : TXE v code' ca' cf' ct' sf' s c := by
  obtain ⟨h1, h2, L, g1, g2, g3, g4, g5, g6, g7, g8, g9, g10, f, fC, fR⟩ := h
  obtain ⟨o1, o2⟩ := ho
  obtain ⟨e1, e2, e3⟩ := o2 (12 * s) (by omega)
  exact ⟨h1, h2, L, g1, g2, g3, g4, g5, g6, g7, e1.trans g8, e2.trans g9, e3.trans g10, f, fC, RR_congr fR (fun i hi => o1 (120 * s + (0 + i)) (by omega))⟩
theorem TXV_out (h : TXV v code ca cf ct sf s c) (hs : ¬ s = s') (ho : outQ s' code ca cf ct sf code' ca' cf' ct' sf') : TXV v code' ca' cf' ct' sf' s c := by
  rcases h with ⟨h1, h2⟩ | ⟨h1, h2, h3⟩ | ⟨h1, h2⟩
  · exact Or.inl ⟨h1, TXR_out h2 hs ho⟩
  · exact Or.inr (Or.inl ⟨h1, h2, TXR_out h3 hs ho⟩)
  · exact Or.inr (Or.inr ⟨h1, TXE_out h2 hs ho⟩)
theorem TX_new (h : TX G code ca cf ct sf many) (ta : Nat × Nat × Nat × Nat) (hv : TXV v code' ca' cf' ct' sf' s c) (ho : outQ s code ca cf ct sf code' ca' cf' ct' sf') : TX (kuT G s (ta, v)) code' ca' cf' ct' sf' (upd many s (nI c)) := by
  intro s2 hs2
  by_cases d : s2 = s
  · subst d
    refine Or.inr ⟨(ta, v), c, ?_, upd_s _ _ _, hv⟩
    show (if s2 = s2 then some (ta, v) else G.2 s2) = _
    rw [if_pos rfl]
  · have e : (kuT G s (ta, v)).2 s2 = G.2 s2 := by
      show (if s2 = s then some (ta, v) else G.2 s2) = _
      rw [if_neg d]
    rw [e, upd_n d]
    rcases h s2 hs2 with h | ⟨x, c2, h1, h2, h3⟩
    · exact Or.inl h
    · exact Or.inr ⟨x, c2, h1, h2, TXV_out h3 d ho⟩
end T3
abbrev zTX (G : kG) (z : R23) : Prop := TX G z.2.2.2.2.2.2.2.2.2.2.2.1 z.2.2.2.2.2.2.2.2.2.2.2.2.1 z.2.2.2.2.2.2.2.2.2.2.2.2.2.1 z.2.2.2.2.2.2.2.2.2.2.2.2.2.2.1 z.2.2.2.2.2.2.2.2.2.2.2.2.2.2.2.2.2.2.2.2.2.2 z.2.2.2.2.2.2.2.2.2.2.2.2.2.2.2.1
theorem txZ_none {s : Nat} {lw at' fa' : Int32} {G : kG} {code ca cf ct sf many : Nat → Int32} {z : R23} (h : txZ s lw code ca cf ct sf many none 0 at' fa' z) (hT : TX G code ca cf ct sf many) : ((-1000) * fa') - at' = z.1 ∧ zTX G z := by
  obtain ⟨-, h | ⟨v, c, h, -⟩⟩ := h
  · obtain ⟨-, h1, h2, h3, h4, h5, h6, h7⟩ := h
    refine ⟨h1.symm, ?_⟩
    unfold zTX
    rw [h2, h3, h4, h5, h6, h7]
    exact hT
  · cases h
theorem txZ_some {s : Nat} {lw at' fa' : Int32} {G : kG} {code ca cf ct sf many : Nat → Int32} {z : R23} {v : kTv} (h : txZ s lw code ca cf ct sf many (some v) 0 at' fa' z) (hT : TX G code ca cf ct sf many) (hs : (s < 10 ∧ lw = 1) ∨ (10 ≤ s ∧ s < 14 ∧ lw = 0)) (ta : Nat × Nat × Nat × Nat) : v.1 = z.1 ∧ zTX (kuT G s (ta, v)) z := by
  obtain ⟨-, h | ⟨v2, c, h, h1, h2, h3, h4⟩⟩ := h
  · cases h.1
  · cases h
    refine ⟨h1.symm, ?_⟩
    unfold zTX
    rw [h4]
    refine TX_new hT ta ?_ h3
    rcases hs with ⟨g1, g2⟩ | ⟨g1, g2, g3⟩
    · subst g2; exact Or.inl ⟨g1, h2⟩
    · subst g3; exact Or.inr (Or.inl ⟨g1, g2, h2⟩)
section T4
variable {G : kG} {day len at0 us0 fa0 sky tl p1 p2 pl en bd cl co op stk iso ib : Int32} {wc mid sta b t code ca cf ct many na nc nf ns nt st sf : Nat → Int32}
set_option maxHeartbeats 4000000 in
theorem law_sim (hk0 : 0 ≤ sky.toInt) (hk1 : sky.toInt ≤ 10) (hG : ∀ i : Nat, (i : Int) < sky.toInt → ∃ s, G.1 i = some s) (hb : TBy b t) (hT : TX G code ca cf ct sf many) :
    Sf (f_X11_law G day len at0 us0 fa0 sky tl wc mid sta b p1 p2) (fun y => Sf (f_X12_law tl sky pl en bd cl co op stk iso ib code ca cf ct many na nc nf ns nt st sf t p1 p2) (fun z => y.1 = z.1 ∧ ∀ G', kGT G y.2.2.2.2.2.2.2.2.2.2 G' → zTX G' z)) := by
  have z0' : (0 : Int32).toInt = 0 := by decide
  have z120 : (120 : Int32).toInt = 120 := by decide
  obtain ⟨ri, hri, hrp⟩ := e_X12_isSource sky p1 hk0 hk1
  obtain ⟨rt, hrt, hrq⟩ := e_X12_canRead tl p2 120
  have hno : (ri = 0 ∨ rt = 0) → Sf (f_X12_law tl sky pl en bd cl co op stk iso ib code ca cf ct many na nc nf ns nt st sf t p1 p2) (fun z => (-1 : Int32) = z.1 ∧ ∀ G', kGT G none G' → zTX G' z) := by
    intro h
    rw [f_X12_law, hri, cb1_o]
    by_cases c : ri = 0
    · rw [if_pos c]
      exact Sf_some ⟨rfl, fun G' hG' => by have e : G' = G := hG'; rw [e]; exact hT⟩
    · rw [if_neg c, hrt, cb1_o, if_pos (h.resolve_left c)]
      exact Sf_some ⟨rfl, fun G' hG' => by have e : G' = G := hG'; rw [e]; exact hT⟩
  have hyes : ¬ ri = 0 → ¬ rt = 0 → ∀ z, f_X12_readsText tl pl en bd cl co op stk iso ib code ca cf ct many na nc nf ns nt st sf t (0 + p1) p2 1 = some z → f_X12_law tl sky pl en bd cl co op stk iso ib code ca cf ct many na nc nf ns nt st sf t p1 p2 = some z := by
    intro h1 h2 z hz
    obtain ⟨w1, w2, w3, w4, w5, w6, w7, w8, w9, w10, w11, w12, w13, w14, w15, w16, w17, w18, w19, w20, w21, w22, w23⟩ := z
    rw [f_X12_law, hri, cb1_o, if_neg h1, hrt, cb1_o, if_neg h2, hz]
    rfl
  rw [f_X11_law]
  refine Sf_cb1 (e_X7_sourceAt G sky p1 hk0 hk1) (fun r hr => ?_)
  refine Sf_oS (fun i hi => ?_) (fun h => ?_) (fun i s0 hi hi10 hs => ?_)
  · rcases hr with h | h
    · rw [h.2.2] at hi
      cases hi
      have := tN p1 h.1
      omega
    · rw [h.1] at hi; cases hi
  · refine Sf_some (hno (Or.inl ?_))
    rcases hr with h' | h'
    · exfalso
      rcases h with h | ⟨i, hi, hn⟩
      · rw [h'.2.2] at h; cases h
      · rw [h'.2.2] at hi
        cases hi
        have := tN p1 h'.1
        obtain ⟨s, hs⟩ := hG p1.toNatClampNeg (by omega)
        rw [hs] at hn
        cases hn
    · have := hrp.2
      exact i32_eq (by omega)
  · have hr1 : 0 ≤ p1.toInt ∧ p1.toInt < sky.toInt ∧ i = p1.toNatClampNeg := by
      rcases hr with h | h
      · rw [h.2.2] at hi; cases hi; exact ⟨h.1, h.2.1, rfl⟩
      · rw [h.1] at hi; cases hi
    obtain ⟨a1, a2, a3⟩ := hr1
    subst a3
    have hti := tN p1 a1
    have hp1 : p1 = nI p1.toNatClampNeg := i32_eq (by rw [nI_toInt (by omega)]; omega)
    generalize p1.toNatClampNeg = s at *
    have hri0 : ¬ ri = 0 := fun w => by have := eqI w; have := hrp.2; omega
    refine Sf_cb1 (e_X11_tapeHas tl p2 120) (fun r2 hr2 => ?_)
    have hr2 := hr2.2
    have hrq := hrq.2
    refine Sf_ite (fun g => Sf_some (hno (Or.inr ?_))) (fun g => ?_)
    · have := eqI g
      exact i32_eq (by omega)
    have g := neI g
    have hp : 1 ≤ p2.toInt ∧ p2.toInt ≤ 120 := by omega
    have hrt0 : ¬ rt = 0 := fun w => by have := eqI w; omega
    have hte := tN p2 (by omega)
    have hp2 : p2 = nI p2.toNatClampNeg := i32_eq (by rw [nI_toInt (by omega)]; omega)
    generalize p2.toNatClampNeg = e at *
    subst hp1
    subst hp2
    refine Sf_cb8 (write_sim (e := e) (s := s) (b := b) (t := t) (lw := 1) (lt := 104) (tp := tl) (pl := pl) (en := en) (bd := bd) (cl := cl) (co := co) (op := op) (stk := stk) (iso := iso) (ib := ib) (code := code) (ca := ca) (cf := cf) (ct := ct) (many := many) (na := na) (nc := nc) (nf := nf) (ns := ns) (nt := nt) (st := st) (sf := sf) (by omega) (by omega) (by omega) hb (Or.inr ⟨rfl, rfl⟩)) (fun b1 b2 b3 b4 b5 b6 b7 b8 hq => ?_)
    obtain ⟨z, hz, hz2⟩ := hq
    have hz2 : txZ s 1 code ca cf ct sf many b8 0 b2 b4 z := hz2
    have hZ := hyes hri0 hrt0 z (by rw [show (0 : Int32) + nI s = nI s by rw [show (0 : Int32) = nI 0 from nI_0.symm, nI_add, Nat.zero_add]]; exact hz)
    refine Sf_oN (fun hn => ?_) (fun v hn => ?_)
    · subst hn
      rw [f_X9_clear, cb1_o, f_X6_faultCode, cb1_o]
      obtain ⟨y1, y2⟩ := txZ_none hz2 hT
      exact Sf_some ⟨z, hZ, y1, fun G' hG' => by have e : G' = G := hG'; rw [e]; exact y2⟩
    · subst hn
      rw [f_X9_clear, cb1_o, f_X4_forget, cb1_o]
      refine Sf_some ⟨z, hZ, (txZ_some hz2 hT (Or.inl ⟨by omega, rfl⟩) (0, 0, 0, 0)).1, fun G' hG' => ?_⟩
      obtain ⟨ta, e⟩ : ∃ ta : Nat × Nat × Nat × Nat, G' = kuT G s (ta, v) := hG'
      rw [e]
      exact (txZ_some hz2 hT (Or.inl ⟨by omega, rfl⟩) ta).2
set_option maxHeartbeats 4000000 in
theorem way_sim {rdr : Int32} (hb : TBy b t) (hT : TX G code ca cf ct sf many) :
    Sf (f_X11_way G rdr len at0 us0 fa0 tl wc mid sta b p1 p2) (fun y => Sf (f_X12_way tl pl en bd cl co op stk iso ib code ca cf ct many na nc nf ns nt st sf t p1 p2) (fun z => y.1 = z.1 ∧ ∀ G', kGT G y.2.2.2.2.2.2.2.2.2.2 G' → zTX G' z)) := by
  have z0' : (0 : Int32).toInt = 0 := by decide
  have z120 : (120 : Int32).toInt = 120 := by decide
  obtain ⟨ri, hri, hrp⟩ := s_X12_isReader p1
  obtain ⟨rt, hrt, hrq⟩ := e_X12_canRead tl p2 120
  have hrp := hrp.2
  have hrq := hrq.2
  have hno : (ri = 0 ∨ rt = 0) → Sf (f_X12_way tl pl en bd cl co op stk iso ib code ca cf ct many na nc nf ns nt st sf t p1 p2) (fun z => (-1 : Int32) = z.1 ∧ ∀ G', kGT G none G' → zTX G' z) := by
    intro h
    rw [f_X12_way, hri, cb1_o]
    by_cases c : ri = 0
    · rw [if_pos c]
      exact Sf_some ⟨rfl, fun G' hG' => by have e : G' = G := hG'; rw [e]; exact hT⟩
    · rw [if_neg c, hrt, cb1_o, if_pos (h.resolve_left c)]
      exact Sf_some ⟨rfl, fun G' hG' => by have e : G' = G := hG'; rw [e]; exact hT⟩
  have hyes : ¬ ri = 0 → ¬ rt = 0 → ∀ z, f_X12_readsText tl pl en bd cl co op stk iso ib code ca cf ct many na nc nf ns nt st sf t (10 + p1) p2 0 = some z → f_X12_way tl pl en bd cl co op stk iso ib code ca cf ct many na nc nf ns nt st sf t p1 p2 = some z := by
    intro h1 h2 z hz
    obtain ⟨w1, w2, w3, w4, w5, w6, w7, w8, w9, w10, w11, w12, w13, w14, w15, w16, w17, w18, w19, w20, w21, w22, w23⟩ := z
    rw [f_X12_way, hri, cb1_o, if_neg h1, hrt, cb1_o, if_neg h2, hz]
    rfl
  rw [f_X11_way]
  refine Sf_cb1 (s_X11_isReader p1) (fun r hr => ?_)
  have hr := hr.2
  refine Sf_ite (fun g => Sf_some (hno (Or.inl ?_))) (fun g => ?_)
  · have := eqI g
    exact i32_eq (by omega)
  have g := neI g
  have hp : 0 ≤ p1.toInt ∧ p1.toInt ≤ 3 := by omega
  have hri0 : ¬ ri = 0 := fun w => by have := eqI w; omega
  have hti := tN p1 hp.1
  have hp1 : p1 = nI p1.toNatClampNeg := i32_eq (by rw [nI_toInt (by omega)]; omega)
  generalize p1.toNatClampNeg = s at *
  refine Sf_cb1 (e_X11_tapeHas tl p2 120) (fun r2 hr2 => ?_)
  have hr2 := hr2.2
  refine Sf_ite (fun g2 => Sf_some (hno (Or.inr ?_))) (fun g2 => ?_)
  · have := eqI g2
    exact i32_eq (by omega)
  have g2 := neI g2
  have hq2 : 1 ≤ p2.toInt ∧ p2.toInt ≤ 120 := by omega
  have hrt0 : ¬ rt = 0 := fun w => by have := eqI w; omega
  have hte := tN p2 (by omega)
  have hp2 : p2 = nI p2.toNatClampNeg := i32_eq (by rw [nI_toInt (by omega)]; omega)
  generalize p2.toNatClampNeg = e at *
  subst hp1
  subst hp2
  refine Sf_cb8 (write_sim (e := e) (s := 10 + s) (b := b) (t := t) (lw := 0) (lt := 107) (tp := tl) (pl := pl) (en := en) (bd := bd) (cl := cl) (co := co) (op := op) (stk := stk) (iso := iso) (ib := ib) (code := code) (ca := ca) (cf := cf) (ct := ct) (many := many) (na := na) (nc := nc) (nf := nf) (ns := ns) (nt := nt) (st := st) (sf := sf) (by omega) (by omega) (by omega) hb (Or.inl ⟨rfl, rfl⟩)) (fun b1 b2 b3 b4 b5 b6 b7 b8 hq => ?_)
  obtain ⟨z, hz, hz2⟩ := hq
  have hz2 : txZ (10 + s) 0 code ca cf ct sf many b8 0 b2 b4 z := hz2
  have hZ := hyes hri0 hrt0 z (by rw [show (10 : Int32) + nI s = nI (10 + s) by rw [show (10 : Int32) = nI 10 from rfl, nI_add]]; exact hz)
  refine Sf_oN (fun hn => ?_) (fun v hn => ?_)
  · subst hn
    rw [f_X9_clear, cb1_o, f_X6_faultCode, cb1_o]
    obtain ⟨y1, y2⟩ := txZ_none hz2 hT
    exact Sf_some ⟨z, hZ, y1, fun G' hG' => by have e : G' = G := hG'; rw [e]; exact y2⟩
  · subst hn
    rw [f_X9_clear, cb1_o]
    refine Sf_cb1 (s_X4_forgetReader rdr (nI s)) (fun r3 _ => ?_)
    rw [gdN_o (jin_n (by omega) (by omega))]
    refine Sf_some ⟨z, hZ, (txZ_some hz2 hT (Or.inr ⟨by omega, by omega, rfl⟩) (0, 0, 0, 0)).1, fun G' hG' => ?_⟩
    obtain ⟨ta, e⟩ : ∃ ta : Nat × Nat × Nat × Nat, G' = kuT G (10 + s) (ta, v) := hG'
    rw [e]
    exact (txZ_some hz2 hT (Or.inr ⟨by omega, by omega, rfl⟩) ta).2
end T4
