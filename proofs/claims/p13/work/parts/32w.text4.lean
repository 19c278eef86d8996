theorem bd_16 : bd 2 0 ≤ 16 := by unfold bd; omega
/-! a story, read by both -/
abbrev R22 : Type := Int32 × Int32 × Int32 × Int32 × Int32 × Int32 × Int32 × Int32 × Int32 × Int32 × (Nat → Int32) × (Nat → Int32) × (Nat → Int32) × (Nat → Int32) × (Nat → Int32) × (Nat → Int32) × (Nat → Int32) × (Nat → Int32) × (Nat → Int32) × (Nat → Int32) × (Nat → Int32) × (Nat → Int32)
abbrev yTX (G : kG) (z : R22) : Prop := TX G z.2.2.2.2.2.2.2.2.2.2.1 z.2.2.2.2.2.2.2.2.2.2.2.1 z.2.2.2.2.2.2.2.2.2.2.2.2.1 z.2.2.2.2.2.2.2.2.2.2.2.2.2.1 z.2.2.2.2.2.2.2.2.2.2.2.2.2.2.2.2.2.2.2.2.2 z.2.2.2.2.2.2.2.2.2.2.2.2.2.2.1
section T5
variable {G : kG} {len at0 us0 fa0 tl p1 p2 pl en bd cl co op stk ib a1 a2 a3 a4 a6 a7 a8 : Int32} {wc mid sta b t code ca cf ct many na nc nf ns nt st sf : Nat → Int32}
theorem story_bad {d k : Int32} (hd : ¬ (0 : Int32) ≤ d) (hT : TX G code ca cf ct sf many) : Sf (f_X12_story_J55 code ca cf ct many nf ns nt sf p1 a1 a2 a3 a4 k a6 a7 a8 na nc st d) (fun z => d = z.1 ∧ yTX G z) := by
  rw [f_X12_story_J55, if_neg hd]
  exact Sf_some ⟨rfl, hT⟩
set_option maxHeartbeats 4000000 in
theorem story_good {L k : Nat} {f : Sem} {code' : Nat → Int32} {v : kTv} (hk : k < 6) (hL : L ≤ 120) (hv : v = (nI 1, (L, code'), (2, upd (upd sta 0 0) 1 (nI L)), (1, upd mid 0 (nI L)))) (hC : CR code' 0 L 16 f) (hR : RR nc na 0 L f) (hT : TX G code ca cf ct sf many) :
    Sf (f_X12_story_J55 code ca cf ct many nf ns nt sf (nI k) a1 a2 a3 a4 (nI L) a6 a7 a8 na nc st 0) (fun z => v.1 = z.1 ∧ ∀ ta : Nat × Nat × Nat × Nat, yTX (kuT G (14 + k) (ta, v)) z) := by
  have h14 : (14 : Int32) + nI k = nI (14 + k) := by rw [show (14 : Int32) = nI 14 from rfl, nI_add]
  have zn : (0 : Int32).toNatClampNeg = 0 := by decide
  rw [f_X12_story_J55, if_pos (by decide), wrI_o (by decide), wrI_o (by decide), wrI_o (by decide), h14, zn]
  refine Sf_cb6 (keeps_n (c := 1) (k := L) (s := 14 + k) (by omega) hL (by omega)) (fun y1 y2 y3 y4 y5 y6 hq => ?_)
  obtain ⟨k1, k2', k3, k4, k5⟩ := hq
  have k1 : ∀ j, j < L → y1 (120 * (14 + k) + j) = nc j ∧ y2 (120 * (14 + k) + j) = na j := k1
  have k3 : y6 (12 * (14 + k)) = nI (120 * (14 + k)) + 0 ∧ y3 (12 * (14 + k)) = nI (120 * (14 + k)) + nI L ∧ y4 (12 * (14 + k)) = nI (120 * (14 + k)) + nI L := by
    have h := k3 0 (by omega)
    rw [upd_s, upd_s, upd_s] at h
    exact h
  have k5 : y5 = upd many (14 + k) (nI 1) := k5
  subst hv
  refine Sf_some ⟨rfl, fun ta => ?_⟩
  show TX (kuT G (14 + k) (ta, _)) y1 y2 y3 y4 y6 y5
  rw [k5]
  refine TX_new hT ta (Or.inr (Or.inr ⟨by omega, rfl, rfl, L, hL, rfl, rfl, rfl, ?_, ?_, ?_, ?_, ?_, ?_, f, hC, ?_⟩)) ⟨k2', k4⟩
  · show upd (upd sta 0 0) 1 (nI L) 0 = _
    rw [upd_n (by omega), upd_s, nI_0]
  · exact upd_s mid 0 (nI L)
  · exact upd_s (upd sta 0 0) 1 (nI L)
  · rw [k3.1, show (0 : Int32) = nI 0 from nI_0.symm, nI_add, Nat.add_zero]
  · rw [k3.2.1, nI_add]
  · rw [k3.2.2, nI_add]
  · exact RR_congr hR (fun i hi => k1 (0 + i) (by omega))
set_option maxHeartbeats 4000000 in
theorem story_sim (hb : TBy b t) (hT : TX G code ca cf ct sf many) :
    Sf (f_X11_story G len at0 us0 fa0 tl wc mid sta b p1 p2) (fun y => Sf (f_X12_story tl pl en bd cl co op stk ib code ca cf ct many na nc nf ns nt st sf t p1 p2) (fun z => y.1 = z.1 ∧ ∀ G', kGT G y.2.2.2.2.2.2.2.2.2 G' → yTX G' z)) := by
  have z0' : (0 : Int32).toInt = 0 := by decide
  have z60 : (60 : Int32).toInt = 60 := by decide
  obtain ⟨ri, hri, hrp⟩ := s_X12_isTale p1
  obtain ⟨rt, hrt, hrq⟩ := e_X12_canRead tl p2 60
  have hrp := hrp.2
  have hrq := hrq.2
  have hno : (ri = 0 ∨ rt = 0) → Sf (f_X12_story tl pl en bd cl co op stk ib code ca cf ct many na nc nf ns nt st sf t p1 p2) (fun z => (-1 : Int32) = z.1 ∧ ∀ G', kGT G none G' → yTX G' z) := by
    intro h
    rw [f_X12_story, hri, cb1_o]
    by_cases c : ri = 0
    · rw [if_pos c]
      exact Sf_some ⟨rfl, fun G' hG' => by have e : G' = G := hG'; rw [e]; exact hT⟩
    · rw [if_neg c, hrt, cb1_o, if_pos (h.resolve_left c)]
      exact Sf_some ⟨rfl, fun G' hG' => by have e : G' = G := hG'; rw [e]; exact hT⟩
  have hyes : ¬ ri = 0 → ¬ rt = 0 → f_X12_story tl pl en bd cl co op stk ib code ca cf ct many na nc nf ns nt st sf t p1 p2 = cb9 (f_X12_value 0 p2 0 0 0 0 ib na nc st t) (fun p3 d3 k3 o3 m3 ib3 na3 nc3 st3 => cb1 (f_X12_isGood d3) fun g => if g = 0 then f_X12_story_J55 code ca cf ct many nf ns nt sf p1 0 p2 0 p3 k3 o3 m3 ib3 na3 nc3 st3 d3 else if p2 ≤ p3 then f_X12_story_J55 code ca cf ct many nf ns nt sf p1 0 p2 0 p3 k3 o3 m3 ib3 na3 nc3 st3 d3 else cb1 (f_X12_wrongs d3 1 p3) fun d4 => f_X12_story_J55 code ca cf ct many nf ns nt sf p1 0 p2 0 p3 k3 o3 m3 ib3 na3 nc3 st3 d4) := by
    intro h1 h2
    rw [f_X12_story, hri, cb1_o, if_neg h1, hrt, cb1_o, if_neg h2, f_X12_begins, cb8_o]
  rw [f_X11_story]
  refine Sf_cb1 (s_X11_isStory p1) (fun r hr => ?_)
  have hr := hr.2
  refine Sf_ite (fun g => Sf_some (hno (Or.inl ?_))) (fun g => ?_)
  · have := eqI g
    exact i32_eq (by omega)
  have g := neI g
  have hp : 0 ≤ p1.toInt ∧ p1.toInt ≤ 5 := by omega
  have hri0 : ¬ ri = 0 := fun w => by have := eqI w; omega
  have hti := tN p1 hp.1
  have hp1 : p1 = nI p1.toNatClampNeg := i32_eq (by rw [nI_toInt (by omega)]; omega)
  generalize p1.toNatClampNeg = s at *
  refine Sf_cb1 (e_X11_tapeHas tl p2 60) (fun r2 hr2 => ?_)
  have hr2 := hr2.2
  refine Sf_ite (fun g2 => Sf_some (hno (Or.inr ?_))) (fun g2 => ?_)
  · have := eqI g2
    exact i32_eq (by omega)
  have g2 := neI g2
  have hq2 : 1 ≤ p2.toInt ∧ p2.toInt ≤ 60 := by omega
  have hrt0 : ¬ rt = 0 := fun w => by have := eqI w; omega
  have hte := tN p2 (by omega)
  have hp2 : p2 = nI p2.toNatClampNeg := i32_eq (by rw [nI_toInt (by omega)]; omega)
  generalize p2.toNatClampNeg = e at *
  subst hp1
  subst hp2
  have hR := hyes hri0 hrt0
  have he : e ≤ 120 := by omega
  have hmin : jmin (nI e) (Int32.ofNat 200) = nI e := by
    unfold jmin
    rw [if_neg (show ¬ Int32.ofNat 200 < nI e from nI_nlt (a := 200) (b := e) (by omega) (by omega))]
  have hE := (simE (b := b) he hb 100 0 (by omega)).2.2.2.2 (by omega) 0 0 0 0 0 wc na nc st (by omega) (by omega) (by omega) (by show ¬ isA (tpN st 0); rw [tpN_0]; unfold isA; decide)
  have hE : Sf (f_X6_rowStands 200 (nI e) 0 0 0 b wc 2 0) (ePost e t 2 wc 0 0 0 0 0 na nc st) := hE
  obtain ⟨⟨r3, a', u', f', code'⟩, hrow, hpost⟩ := hE
  have hW : ∀ q, (if r3 = 0 then some (nI e, a', u', f', code', mid, upd sta 0 0, none) else if nI e ≤ a' then (wrI mid 12 0 u' fun g1 => wrI (upd sta 0 0) 13 1 u' fun g2 => cb1 (f_X6_written u' code' g1 g2 1) fun n => some (nI e, a', u', f', code', g1, g2, n)) else cb2 (f_X6_fail f' 1) fun _ f2 => some (nI e, a', u', f2, code', mid, upd sta 0 0, none)) = some q → f_X6_writeExpression 200 len at0 us0 fa0 b wc mid sta (nI e) = some q := by
    intro q hq
    rw [f_X6_writeExpression, f_X6_begin, nmI_o, hmin, wrI_o (by decide), cb5_o, show (0 : Int32).toNatClampNeg = 0 by decide, hrow, cb5_o]
    exact hq
  have neg : ∀ (f : Int32) (a : Nat), 1 ≤ f.toInt → f.toInt ≤ 9 → a ≤ e → ¬ (0 : Int32) ≤ badC f a := fun f a h1 h2 h3 w => by
    have := leI w
    have h4 := Sf_det (P := fun y => y.toInt < 0) (wrongs_n f a) (wrongs_s 0 f (nI a) h1 h2 (by rw [nI_toInt (by omega)]; omega) (by rw [nI_toInt (by omega)]; omega))
    omega
  have fin0 : ∀ (f : Int32) (a : Nat) (x1 x2 : Int32) (x3 x4 x5 : Nat → Int32), Sf (f_X12_story tl pl en bd cl co op stk ib code ca cf ct many na nc nf ns nt st sf t (nI s) (nI e)) (fun z => badC f a = z.1 ∧ yTX G z) → f_X6_writeExpression 200 len at0 us0 fa0 b wc mid sta (nI e) = some (x1, nI a, x2, f, x3, x4, x5, none) → Sf (cb8 (f_X6_writeExpression 200 len at0 us0 fa0 b wc mid sta (nI e)) fun o1 o2 o3 o4 o5 o6 o7 n8 => oN n8 (cb1 (f_X9_clear tl) fun l => cb1 (f_X6_faultCode o2 o4) fun q => some (q, o1, o2, o3, o4, l, o5, o6, o7, none)) fun v => (cb1 (f_X9_clear tl) fun l => gdN 6 (nI s) <| some (v.1, o1, o2, o3, o4, l, o5, o6, o7, some (14 + s, v)))) (fun y => Sf (f_X12_story tl pl en bd cl co op stk ib code ca cf ct many na nc nf ns nt st sf t (nI s) (nI e)) (fun z => y.1 = z.1 ∧ ∀ G', kGT G y.2.2.2.2.2.2.2.2.2 G' → yTX G' z)) := by
    intro f a x1 x2 x3 x4 x5 hS hX
    rw [hX, cb8_o]
    refine Sf_oN (fun _ => ?_) (fun v hn => by cases hn)
    rw [f_X9_clear, cb1_o, f_X6_faultCode, cb1_o]
    refine Sf_some (Sf_mono hS (fun z hz => ⟨hz.1, fun G' hG' => ?_⟩))
    have e : G' = G := hG'
    rw [e]; exact hz.2
  have badS : ∀ (f : Int32) (a : Nat), 1 ≤ f.toInt → f.toInt ≤ 9 → a ≤ e → (∃ (w1 w3 w4 w5 w6 : Int32) (w7 w8 w9 : Nat → Int32), f_X12_value 0 (nI e) 0 0 0 0 ib na nc st t = some (w1, badC f a, w3, w4, w5, w6, w7, w8, w9)) → Sf (f_X12_story tl pl en bd cl co op stk ib code ca cf ct many na nc nf ns nt st sf t (nI s) (nI e)) (fun z => badC f a = z.1 ∧ yTX G z) := by
    intro f a h1 h2 h3 hx
    obtain ⟨w1, w3, w4, w5, w6, w7, w8, w9, hx⟩ := hx
    rw [hR, hx, cb9_o, isGood_n (badC_ne h1 h2 (by omega)), cb1_o, if_pos rfl]
    exact story_bad (neg f a h1 h2 h3) hT
  rcases hpost with ⟨r0, a, ea, hae, hf, hv⟩ | ⟨r1, a, k1, j1, na1, nc1, st1, ea, q1, q2, q3, q4, q5, q6, q7, q8, q9, q10, ⟨f, fC, fR⟩, q12⟩
  · have r0' : r3 = 0 := r0
    have ea' : a' = nI a := ea
    refine fin0 f' a (nI e) u' code' mid (upd sta 0 0) (badS f' a hf.1 hf.2 hae (val_bad ib he hv)) (hW _ ?_)
    rw [if_pos r0', ea']
  · have r1' : r3 = 1 := r1
    have ea' : a' = nI a := ea
    have q8' : u' = nI (0 + (k1 + j1 - 0)) := q8
    rw [Nat.sub_zero, Nat.zero_add] at q8'
    have fC' : CR code' 0 (k1 + j1) 16 f := CR_mono fC bd_16
    have fR' : RR (emC st1 0 j1 nc1 k1) (emC z0 0 j1 na1 k1) 0 (k1 + j1) f := fR
    have hpd : j1 ≤ 2 ∧ ∀ i, i < j1 → isA (st1 (0 + i)) := by
      rcases q7 with h | h | h
      · exact absurd h.1 (by omega)
      · exact absurd h.1 (by omega)
      · exact h.2
    have hV := val_run ib he q2 q5 (q12.2 rfl) (by rw [tpN_0]; unfold isA; decide) (by rw [tpN_0]; decide) hpd.2 (by omega) (by omega)
    have hV1 : ¬ hN t e a = 93 → f_X12_value 0 (nI e) 0 0 0 0 ib na nc st t = some (nI a, 0, nI (k1 + j1), nI 0, nI 0, 0, emC z0 0 j1 na1 k1, emC st1 0 j1 nc1 k1, st1) := hV.1
    have hV2 : hN t e a = 93 → f_X12_value 0 (nI e) 0 0 0 0 ib na nc st t = some (nI a, badC 1 a, nI (k1 + j1), nI 0, nI 0, 0, emC z0 0 j1 na1 k1, emC st1 0 j1 nc1 k1, st1) := hV.2
    have r1n : ¬ r3 = 0 := by rw [r1']; decide
    by_cases c : a = e
    · subst c
      have hn93 : ¬ hN t a a = 93 := by unfold hN; rw [if_neg (by omega)]; decide
      have hw := written_n (code := code') (mid := upd mid 0 (nI (k1 + j1))) (sta := upd (upd sta 0 0) 1 (nI (k1 + j1))) (u := k1 + j1) (i := 0) (by omega) (by omega)
      rw [show nI 0 + 1 = 1 by decide] at hw
      have hX := hW (nI a, nI a, nI (k1 + j1), f', code', upd mid 0 (nI (k1 + j1)), upd (upd sta 0 0) 1 (nI (k1 + j1)), some (nI 1, (k1 + j1, code'), (2, upd (upd sta 0 0) 1 (nI (k1 + j1))), (1, upd mid 0 (nI (k1 + j1))))) (by
        rw [if_neg r1n, ea', if_pos (nI_le (Nat.le_refl _) (by omega)), wrI_o (by decide), wrI_o (by decide), q8', show (0 : Int32).toNatClampNeg = 0 by decide, show (1 : Int32).toNatClampNeg = 1 by decide, hw, cb1_o])
      rw [hX, cb8_o]
      refine Sf_oN (fun hn => by cases hn) (fun v hn => ?_)
      cases hn
      rw [f_X9_clear, cb1_o, gdN_o (jin_n (by omega) (by omega))]
      have hS := story_good (G := G) (code := code) (ca := ca) (cf := cf) (ct := ct) (sf := sf) (many := many) (nf := nf) (ns := ns) (nt := nt) (st := st1) (sta := sta) (mid := mid) (a1 := 0) (a2 := nI a) (a3 := 0) (a4 := nI a) (a6 := nI 0) (a7 := nI 0) (a8 := 0) (k := s) (by omega) (by omega) rfl fC' fR' hT
      rw [hR, hV1 hn93, cb9_o, isGood_0, cb1_o, if_neg (by decide), if_pos (nI_le (Nat.le_refl _) (by omega))]
      refine Sf_some (Sf_mono hS (fun z hz => ⟨hz.1, fun G' hG' => ?_⟩))
      obtain ⟨ta, eG⟩ := hG'
      rw [eG]
      exact hz.2 ta
    · have hal : a < e := by omega
      have hX := hW (nI e, nI a, u', 1, code', mid, upd sta 0 0, none) (by
        rw [if_neg r1n, ea', if_neg (nI_ge hal (by omega)), f_X6_fail, cb2_o])
      refine fin0 1 a (nI e) u' code' mid (upd sta 0 0) ?_ hX
      by_cases d93 : hN t e a = 93
      · exact badS 1 a (by decide) (by decide) q2 ⟨_, _, _, _, _, _, _, _, hV2 d93⟩
      · rw [hR, hV1 d93, cb9_o, isGood_0, cb1_o, if_neg (by decide), if_neg (nI_ge hal (by omega)), wrongs_n, cb1_o]
        exact story_bad (neg 1 a (by decide) (by decide) q2) hT
end T5
