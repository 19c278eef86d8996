/-! a piece -/
def sNots : Nat → Sem → Sem
  | 0, f => f
  | r + 1, f => sNots r (sNot f)
def bc (o : Nat) : Nat := 4 + 2 * (6 - o)
theorem RR_nots {m : Nat} : ∀ {r : Nat} {nc na : Nat → Int32} {k L : Nat} {f : Sem}, RR nc na k L f → RR (emC k2 m r nc (k + L)) (emC z0 m r na (k + L)) k (L + r) (sNots r f) := by
  intro r
  induction r with
  | zero => intro nc na k L f h; exact h
  | succ r ih =>
    intro nc na k L f h
    have h1 : RR (upd nc (k + L) 2) (upd na (k + L) 0) k (L + 1) (sNot f) := RR_not (RR_congr h (fun i hi => ⟨upd_n (by omega), upd_n (by omega)⟩)) (upd_s _ _ _)
    have h2 := ih h1
    rw [show k + (L + 1) = k + L + 1 by omega, show L + 1 + r = L + (r + 1) by omega] at h2
    exact h2
def baseC (x : Int32) : Prop := x = 40 ∨ x = 38 ∨ x = 124
theorem baseC_n {x : Int32} (h : baseC x) : ¬ x = 33 ∧ ¬ isA x ∧ ¬ x = 91 ∧ ¬ x = 0 := by
  rcases h with h | h | h <;> subst h <;> unfold isA <;> decide
def pOK (e : Nat) (t : Nat → Int32) (code0 : Nat → Int32) (u k o p w r : Nat) (na nc st : Nat → Int32) (a k' : Nat) (na' nc' st' : Nat → Int32) (us : Int32) (code' : Nat → Int32) : Prop :=
  p < a ∧ a ≤ e ∧ k + r ≤ k' ∧ k' + p ≤ a + k + r ∧ drun e t k o p (w + r) na nc st k' (o - r) a w na' nc' st' ∧ (∀ i, i < w → st' i = st i) ∧ us = nI (u + (k' - k - r)) ∧ (∀ i, i < u → code' i = code0 i) ∧ (∀ i, i < k → nc' i = nc i ∧ na' i = na i) ∧ ∃ f : Sem, isBoo f ∧ CR code' u (k' - k - r) (bc o) f ∧ RR nc' na' k (k' - k) (sNots r f)
def pPost (e : Nat) (t : Nat → Int32) (code0 : Nat → Int32) (u k o p w r : Nat) (na nc st : Nat → Int32) (y : Int32 × Int32 × Int32 × Int32 × (Nat → Int32)) : Prop :=
  (y.1 = 0 ∧ ∃ a : Nat, y.2.1 = nI a ∧ a ≤ e ∧ (1 ≤ y.2.2.2.1.toInt ∧ y.2.2.2.1.toInt ≤ 9) ∧ dbad e t k o p (w + r) na nc st (badC y.2.2.2.1 a)) ∨
  (y.1 = 1 ∧ ∃ a u' : Nat, y.2.1 = nI a ∧ a ≤ e ∧ y.2.2.1 = nI u' ∧ u' ≤ 120 ∧ hN t e a = 93 ∧ dbad e t k o p (w + r) na nc st (badC 1 a)) ∨
  (y.1 = 1 ∧ ∃ (a k' : Nat) (na' nc' st' : Nat → Int32), y.2.1 = nI a ∧ pOK e t code0 u k o p w r na nc st a k' na' nc' st' y.2.2.1 y.2.2.2.2)
def pHyp (e : Nat) (b t : Nat → Int32) (o : Nat) (G : Nat → Int32 → Int32 → Int32 → Int32 → (Nat → Int32) → (Nat → Int32) → Option (Int32 × Int32 × Int32 × Int32 × (Nat → Int32))) : Prop :=
  ∀ (u k p w r : Nat) (fault : Int32) (code na nc st : Nat → Int32), k + (w + r) ≤ p → p ≤ e → u ≤ p → r ≤ o → baseC (tpN st w) → (∀ i, i < r → st (w + i) = 33) → Sf (G 200 (nI e) (nI p) (nI u) fault b code) (pPost e t code u k o p w r na nc st)
def pendC (kd j : Nat) (st : Nat → Int32) (m : Nat) : Prop := (kd = 5 ∧ j = 0) ∨ (kd = 1 ∧ j ≤ 1 ∧ ∀ i, i < j → st (m + i) = 38) ∨ (kd = 0 ∧ j ≤ 2 ∧ ∀ i, i < j → (st (m + i) = 38 ∨ st (m + i) = 124))
def stopC (kd : Nat) (h : Int32) : Prop := (kd = 1 → ¬ h = 38) ∧ (kd = 0 → ¬ h = 38 ∧ ¬ h = 124)
def cOK (e : Nat) (t : Nat → Int32) (kd pd : Nat) (code0 : Nat → Int32) (u k o p m : Nat) (na nc st : Nat → Int32) (a k' j : Nat) (na' nc' st' : Nat → Int32) (us : Int32) (code' : Nat → Int32) : Prop :=
  p < a ∧ a ≤ e ∧ k ≤ k' ∧ k' + j + p ≤ a + k ∧ drun e t k o p m na nc st k' o a (m + j) na' nc' st' ∧ (∀ i, i < m → st' i = st i) ∧ pendC pd j st' m ∧ us = nI (u + (k' + j - k)) ∧ (∀ i, i < u → code' i = code0 i) ∧ (∀ i, i < k → nc' i = nc i ∧ na' i = na i) ∧ (∃ f : Sem, isBoo f ∧ CR code' u (k' + j - k) (bc o) f ∧ RR (emC st' m j nc' k') (emC z0 m j na' k') k (k' + j - k) f) ∧ stopC kd (hN t e a)
def cPost (e : Nat) (t : Nat → Int32) (kd : Nat) (code0 : Nat → Int32) (u k o p m : Nat) (na nc st : Nat → Int32) (y : Int32 × Int32 × Int32 × Int32 × (Nat → Int32)) : Prop :=
  (y.1 = 0 ∧ ∃ a : Nat, y.2.1 = nI a ∧ a ≤ e ∧ (1 ≤ y.2.2.2.1.toInt ∧ y.2.2.2.1.toInt ≤ 9) ∧ dbad e t k o p m na nc st (badC y.2.2.2.1 a)) ∨
  (y.1 = 1 ∧ ∃ a u' : Nat, y.2.1 = nI a ∧ a ≤ e ∧ y.2.2.1 = nI u' ∧ u' ≤ 120 ∧ hN t e a = 93 ∧ dbad e t k o p m na nc st (badC 1 a)) ∨
  (y.1 = 1 ∧ ∃ (a k' j : Nat) (na' nc' st' : Nat → Int32), y.2.1 = nI a ∧ cOK e t kd kd code0 u k o p m na nc st a k' j na' nc' st' y.2.2.1 y.2.2.2.2)
def cHyp (e : Nat) (b t : Nat → Int32) (kd o : Nat) (pre : Int32 → Prop) (G : Nat → Int32 → Int32 → Int32 → Int32 → (Nat → Int32) → (Nat → Int32) → Option (Int32 × Int32 × Int32 × Int32 × (Nat → Int32))) : Prop :=
  ∀ (u k p m : Nat) (fault : Int32) (code na nc st : Nat → Int32), k + m ≤ p → p ≤ e → u ≤ p → pre (tpN st m) → Sf (G 200 (nI e) (nI p) (nI u) fault b code) (cPost e t kd code u k o p m na nc st)
theorem put_any {u : Nat} {code : Nat → Int32} {c x : Int32} (h : u ≤ 120) : Sf (f_X6_put (nI u) code c x) (fun y => ∃ u' : Nat, y.1 = nI u' ∧ u' ≤ 120) := by
  by_cases d : u < 120
  · rw [put_n d]; exact Sf_some ⟨u + 1, rfl, by omega⟩
  · have e : u = 120 := by omega
    subst e
    rw [f_X6_put, if_pos (by decide)]
    exact Sf_some ⟨120, rfl, by omega⟩
section S7
variable {e o : Nat} {b t : Nat → Int32}
theorem sign_e (c : Int32) : f_X12_isSign c = some (bI (c = 60 ∨ c = 62 ∨ c = 61)) := isSign_e c
set_option maxHeartbeats 4000000 in
theorem simP {G0 G1 : GT4} {G2 G3 : GT3} (he : e ≤ 120) (hb : TBy b t) (ho : o ≤ 6) (hC : o < 6 → cHyp e b t 0 (o + 1) (fun x => x = 40) (fun n l a u f b c => G0 n l a u f b c 0 (nI (o + 1)))) (hP : o < 6 → pHyp e b t (o + 1) (fun n l a u f b c => G2 n l a u f b c (nI (o + 1)))) (hE : eHyp e b t 2 (fun x => ¬ isA x) o (fun n l a u f b c => G0 n l a u f b c 2 (nI o))) : pHyp e b t o (fun n l a u f b c => b_X6_pieceStands G0 G1 G2 G3 n l a u f b c (nI o)) := by
  intro u k p w r fault code na nc st hkm hpe hup hro hbase hnots
  show Sf (b_X6_pieceStands G0 G1 G2 G3 200 (nI e) (nI p) (nI u) fault b code (nI o)) _
  obtain ⟨hb1, hb2, hb3, hb4⟩ := baseC_n hbase
  have hw : 0 < w := by
    by_cases c : w = 0
    · subst c; exact absurd rfl hb4
    · omega
  have htr : ∀ st' : Nat → Int32, (∀ i, i < w + r → st' i = st i) → tpN st' (w + r) = 33 ∨ baseC (tpN st' (w + r)) := by
    intro st' hst
    by_cases c : r = 0
    · subst c
      right
      rw [Nat.add_zero, tpN_congr (fun i hi => hst i (by omega))]; exact hbase
    · left
      unfold tpN
      rw [if_neg (by omega), hst _ (by omega), show w + r - 1 = w + (r - 1) by omega]
      exact hnots _ (by omega)
  have h33 : ¬ isA (33 : Int32) ∧ ¬ (33 : Int32) = 91 := by unfold isA; decide
  have htop : ∀ st' : Nat → Int32, (∀ i, i < w + r → st' i = st i) → ¬ isA (tpN st' (w + r)) ∧ ¬ tpN st' (w + r) = 91 := by
    intro st' hst
    rcases htr st' hst with h | h
    · rw [h]; exact h33
    · have := baseC_n h; exact ⟨this.2.1, this.2.2.1⟩
  rw [b_X6_pieceStands, next_n he hpe, cb1_o]
  have hJ17 : ∀ c : Int32, (c = 33 ∨ c = 40) → hN t e p = c → Sf (b_X6_pieceStands_J17 (nI e) 200 b (nI o) G0 G2 c (nI p) fault (nI u) code) (pPost e t code u k o p w r na nc st) := by
    intro c hc hh
    have hpl : p < e := hN_lt (t := t) (by rw [hh]; rcases hc with h | h <;> subst h <;> decide)
    rw [b_X6_pieceStands_J17]
    refine Sf_ite (fun c2 => ?_) (fun c2 => ?_)
    · have ho6 : o < 6 := (nI_ltI (a := o) (b := 6) (by omega) (by omega)).mp c2
      rw [nmI_o, nI_1, nI_1]
      refine Sf_ite (fun c3 => ?_) (fun c3 => ?_)
      · subst c3
        have htc : tpN (upd st (w + r) 40) (w + r + 1) = 40 := by unfold tpN; rw [if_neg (by omega), Nat.add_sub_cancel, upd_s]
        refine Sf_cb5 (hC ho6 u k (p + 1) (w + r + 1) fault code na nc (upd st (w + r) 40) (by omega) (by omega) (by omega) htc) (fun rr a' u' f' code' hp => ?_)
        rcases hp with ⟨r0, a, ea, hae, hf, hv⟩ | ⟨r1, a, u2, ea, hae, eu, hu2, h93, hv⟩ | ⟨r1, a, k', j, na', nc', st', ea, hok⟩
        · have r0 : rr = 0 := r0
          have ea : a' = nI a := ea
          rw [if_pos r0]
          exact Sf_some (Or.inl ⟨rfl, a, ea, hae, hf, dbad_open (Or.inr rfl) he hpl hh ho6 (by omega) hv⟩)
        · have r1 : rr = 1 := r1
          have ea : a' = nI a := ea
          rw [if_neg (by rw [r1]; decide), ea, sign_n he hae hb (by decide), if_neg (by rw [h93]; decide), cb3_o, if_pos rfl]
          exact Sf_some (Or.inl ⟨rfl, a, rfl, hae, (show 1 ≤ (1 : Int32).toInt ∧ (1 : Int32).toInt ≤ 9 by decide), dbad_open (Or.inr rfl) he hpl hh ho6 (by omega) hv⟩)
        · have r1 : rr = 1 := r1
          have ea : a' = nI a := ea
          obtain ⟨q1, q2, q3, q4, q5, q6, q7, q8, q9, q10, ⟨f, fb, fC, fR⟩, q12⟩ := hok
          have q8 : u' = nI (u + (k' + j - k)) := q8
          have hpj : j ≤ 2 ∧ ∀ i, i < j → jq 1 (st' (w + r + 1 + i)) := by
            rcases q7 with h | h | h
            · exact absurd h.1 (by omega)
            · exact absurd h.1 (by omega)
            · refine ⟨h.2.1, fun i hi => ?_⟩
              rcases h.2.2 i hi with g | g
              · exact Or.inl g
              · exact Or.inr ⟨by decide, g⟩
          rw [if_neg (by rw [r1]; decide), ea, sign_n he q2 hb (by decide)]
          by_cases d : hN t e a = 41
          · have hal : a < e := hN_lt (t := t) (by rw [d]; decide)
            rw [if_pos d, cb3_o, if_neg (by decide)]
            have hs40 : st' (w + r) = 40 := by rw [q6 _ (by omega), upd_s]
            have hsr : ∀ i, i < r → st' (w + i) = 33 := fun i hi => by rw [q6 _ (by omega), upd_n (by omega)]; exact hnots i hi
            have hsw : ∀ i, i < w → st' i = st i := fun i hi => by rw [q6 _ (by omega), upd_n (by omega)]
            have hs := fun ib n => go_close (o := o + 1) (k := k') (na := na') (nc := nc') (m := w) (r := r) (j := j) (st := st') he hal d hs40 (by omega) (by rw [tpN_congr hsw]; exact hb1) hsr (by omega) hpj.2 (by omega) (by omega) ib n
            rw [show o + 1 - 1 - r = o - r by omega] at hs
            refine Sf_some (Or.inr (Or.inr ⟨rfl, a + 1, k' + j + r, _, _, st', rfl, by omega, by omega, by omega, by omega, drun_open (Or.inr rfl) he hpl hh ho6 (by omega) (drun_close q5 hs), hsw, ?_, q9, fun i hi => ?_, f, fb, ?_, ?_⟩))
            · rw [show k' + j + r - k - r = k' + j - k by omega]; exact q8
            · rw [emC_lo (by omega), emC_lo (by omega), emC_lo (by omega), emC_lo (by omega)]; exact q10 i hi
            · rw [show k' + j + r - k - r = k' + j - k by omega]; exact CR_mono fC (by unfold bc; omega)
            · have h2 := RR_nots (m := w) (r := r) fR
              rw [show k + (k' + j - k) = k' + j by omega, show k' + j - k + r = k' + j + r - k by omega] at h2
              exact h2
          · rw [if_neg d, cb3_o, if_pos rfl]
            have hst := q12.2 rfl
            exact Sf_some (Or.inl ⟨rfl, a, rfl, q2, (show 1 ≤ (1 : Int32).toInt ∧ (1 : Int32).toInt ≤ 9 by decide), dbad_open (Or.inr rfl) he hpl hh ho6 (by omega) (dbad_wrong q2 he q5 hst.1 hst.2 d)⟩)
      · have c33 : c = 33 := hc.resolve_right c3
        subst c33
        have hupw : ∀ i, i < w → upd st (w + r) 33 i = st i := fun i hi => upd_n (by omega)
        refine Sf_cb5 (hP ho6 u k (p + 1) w (r + 1) fault code na nc (upd st (w + r) 33) (by omega) (by omega) (by omega) (by omega) (by rw [tpN_congr hupw]; exact hbase) (fun i hi => ?_)) (fun rr a' u' f' code' hp => ?_)
        · by_cases d : i = r
          · subst d; exact upd_s _ _ _
          · rw [upd_n (by omega)]; exact hnots i (by omega)
        · rcases hp with ⟨r0, a, ea, hae, hf, hv⟩ | ⟨r1, a, u2, ea, hae, eu, hu2, h93, hv⟩ | ⟨r1, a, k', na', nc', st', ea, q1, q2, q3, q4, q5, q6, q7, q8, q9, f, fb, fC, fR⟩
          · have r0 : rr = 0 := r0
            have ea : a' = nI a := ea
            rw [if_pos r0]
            exact Sf_some (Or.inl ⟨rfl, a, ea, hae, hf, dbad_open (Or.inl rfl) he hpl hh ho6 (by omega) hv⟩)
          · have r1 : rr = 1 := r1
            have ea : a' = nI a := ea
            have eu : u' = nI u2 := eu
            rw [if_neg (by rw [r1]; decide), eu]
            refine Sf_cb2 (put_any hu2) (fun u3 code3 hu3 => ?_)
            obtain ⟨u4, e4, l4⟩ := hu3
            exact Sf_some (Or.inr (Or.inl ⟨rfl, a, u4, ea, hae, e4, l4, h93, dbad_open (Or.inl rfl) he hpl hh ho6 (by omega) hv⟩))
          · have r1 : rr = 1 := r1
            have ea : a' = nI a := ea
            have q7 : u' = nI (u + (k' - k - (r + 1))) := q7
            rw [if_neg (by rw [r1]; decide), q7, put_n (by omega), cb2_o, ea]
            have q5' : drun e t k (o + 1) (p + 1) (w + r + 1) na nc (upd st (w + r) 33) k' (o - r) a w na' nc' st' := by
              rw [show o + 1 - (r + 1) = o - r by omega] at q5
              exact q5
            refine Sf_some (Or.inr (Or.inr ⟨rfl, a, k', na', nc', st', rfl, by omega, q2, by omega, by omega, drun_open (Or.inl rfl) he hpl hh ho6 (by omega) q5', fun i hi => (q6 i hi).trans (hupw i hi), ?_, fun i hi => ?_, q9, sNot f, boo_not fb, ?_, fR⟩))
            · show nI (u + (k' - k - (r + 1)) + 1) = _
              rw [show u + (k' - k - (r + 1)) + 1 = u + (k' - k - r) by omega]
            · show upd code' (u + (k' - k - (r + 1))) _ i = _
              rw [upd_n (by omega)]; exact q8 i hi
            · rw [show k' - k - r = (k' - k - (r + 1)) + 1 by omega]
              exact CR_not (CR_congr (CR_mono fC (by unfold bc; omega)) (fun i hi => upd_n (by omega))) (upd_s _ _ _) (by unfold bc; omega)
    · have ho6 : o = 6 := by
        by_cases x : o < 6
        · exact absurd ((nI_ltI (a := o) (b := 6) (by omega) (by omega)).mpr x) c2
        · omega
      subst ho6
      rw [f_X6_fail, cb2_o]
      refine Sf_bo (Or.inl (by decide)) (Sf_some (Or.inl ⟨rfl, p, rfl, hpe, (show 1 ≤ (5 : Int32).toInt ∧ (5 : Int32).toInt ≤ 9 by decide), ?_⟩))
      exact dbad_pi hpe (badC_ne (f := 5) (by decide) (by decide) (by omega)) (fun ib => ⟨_, _, _, _, _, _, _, _, pi_deep hc he hpl hh (by omega)⟩)
  refine Sf_ite (fun c => ?_) (fun c => Sf_ite (fun c2 => ?_) (fun c2 => ?_))
  · have h := (nh_iff (b := b) (e := e) (p := p) hb 33 (by decide)).mp c
    rw [c]; exact hJ17 33 (Or.inl rfl) h
  · have h := (nh_iff (b := b) (e := e) (p := p) hb 40 (by decide)).mp c2
    rw [c2]; exact hJ17 40 (Or.inr rfl) h
  · have n33 : ¬ hN t e p = 33 := fun x => c ((nh_iff (b := b) (e := e) (p := p) hb 33 (by decide)).mpr x)
    have n40 : ¬ hN t e p = 40 := fun x => c2 ((nh_iff (b := b) (e := e) (p := p) hb 40 (by decide)).mpr x)
    have f1 : 1 ≤ (1 : Int32).toInt ∧ (1 : Int32).toInt ≤ 9 := by decide
    have bad1 : ∀ a : Nat, a ≤ e → ¬ badC 1 a = 0 := fun a ha => badC_ne (by decide) (by decide) (by omega)
    refine Sf_cb5 (hE u k p (w + r) fault code na nc st hkm hpe hup (htop st (fun _ _ => rfl)).1) (fun rr a' u' f' code' hp => ?_)
    rcases hp with ⟨r0, a, ea, hae, hf, hv⟩ | ⟨r1, a, k1, j1, na1, nc1, st1, ea, q1, q2, q3, q4, q5, q6, q7, q8, q9, q10, ⟨f, fC, fR⟩, q12⟩
    · have r0 : rr = 0 := r0
      have ea : a' = nI a := ea
      rw [if_pos r0]
      refine Sf_some (Or.inl ⟨rfl, a, ea, hae, hf, dbad_pi hpe (badC_ne hf.1 hf.2 (by omega)) (fun ib => ?_)⟩)
      obtain ⟨p1, k1, o1, m1, ib1, na1, nc1, st1, h⟩ := val_bad ib he hv
      refine ⟨p1, k1, o1, m1, ib1, na1, nc1, st1, ?_⟩
      rw [pi_stop he hpe n33 n40, h, cb9_o, f_X12_pieceOfC_J43, isGood_n (badC_ne hf.1 hf.2 (by omega)), cb1_o, if_pos rfl]
    · have r1 : rr = 1 := r1
      have ea : a' = nI a := ea
      have q8 : u' = nI (u + (k1 + j1 - k)) := q8
      have hst1 := htop st1 q6
      have hpd : j1 ≤ 2 ∧ ∀ i, i < j1 → isA (st1 (w + r + i)) := by
        rcases q7 with h | h | h
        · exact absurd h.1 (by omega)
        · exact absurd h.1 (by omega)
        · exact h.2
      have hV := fun ib => val_run ib he q2 q5 (q12.2 rfl) hst1.1 hst1.2 hpd.2 (by omega) (by omega)
      rw [if_neg (by rw [r1]; decide), ea, next_n he q2, cb1_o]
      have hJ : ∀ c : Int32, (c = 60 ∨ c = 62 ∨ c = 61) → hN t e a = c → Sf (b_X6_pieceStands_J132 (nI e) 200 b (nI o) G0 (nI a) u' code' c f') (pPost e t code u k o p w r na nc st) := by
        intro c hc hh
        have hal : a < e := hN_lt (t := t) (by rw [hh]; rcases hc with h | h | h <;> subst h <;> decide)
        have hc93 : ¬ hN t e a = 93 := by rw [hh]; rcases hc with h | h | h <;> subst h <;> decide
        have hcA : ¬ isA c ∧ ¬ c = 91 ∧ 2 < c.toInt := by rcases hc with h | h | h <;> subst h <;> unfold isA <;> decide
        have hcO : isO c := by rcases hc with h | h | h <;> subst h <;> unfold isO <;> decide
        have htc : ∀ st' : Nat → Int32, st' (w + r) = c → tpN st' (w + r + 1) = c := fun st' h => by unfold tpN; rw [if_neg (by omega), Nat.add_sub_cancel]; exact h
        rw [b_X6_pieceStands_J132, nmI_o, nI_1, q8]
        have hv1 : ∀ ib : Int32, f_X12_pieceOfC (nI p) (nI e) 0 (nI k) (nI o) (nI (w + r)) ib na nc st t = f_X12_pieceOfC_J43 (nI e) t 0 (nI (k1 + j1)) 0 (nI o) (nI a) (nI (w + r)) (emC z0 (w + r) j1 na1 k1) (emC st1 (w + r) j1 nc1 k1) st1 := fun ib => by
          rw [pi_stop he hpe n33 n40, (hV ib).1 hc93, cb9_o]
        have hv2 : f_X12_pieceOfC_J43 (nI e) t 0 (nI (k1 + j1)) 0 (nI o) (nI a) (nI (w + r)) (emC z0 (w + r) j1 na1 k1) (emC st1 (w + r) j1 nc1 k1) st1 = cb9 (f_X12_value (nI (a + 1)) (nI e) 0 (nI (k1 + j1)) (nI o) (nI (w + r + 1)) 0 (emC z0 (w + r) j1 na1 k1) (emC st1 (w + r) j1 nc1 k1) (upd st1 (w + r) c) t) (fun p2 d2 k2' o2 m2 ib2 na2 nc2 st2 => cb1 (f_X12_isGood d2) fun g => if g = 0 then some (p2, d2, k2', o2, m2, ib2, na2, nc2, st2) else cb1 (f_X12_top m2 st2) fun tp => cb3 (f_X12_emit d2 k2' na2 nc2 tp 0) fun k3 na3 nc3 => nmI (m2 - 1) fun m3 => cb5 (f_X12_ends d2 k3 o2 m3 na3 nc3 st2) fun k4 o4 m4 na4 nc4 => some (p2, d2, k4, o4, m4, ib2, na4, nc4, st2)) := by
          rw [f_X12_pieceOfC_J43, isGood_0, cb1_o, if_neg (by decide), here_n he q2, cb1_o, hh, isSign_e, cb1_o, if_neg (by rw [bI_0]; exact fun x => x hc), puts_n (by omega), cb3_o]
        refine Sf_cb5 (hE (u + (k1 + j1 - k)) (k1 + j1) (a + 1) (w + r + 1) f' code' (emC z0 (w + r) j1 na1 k1) (emC st1 (w + r) j1 nc1 k1) (upd st1 (w + r) c) (by omega) (by omega) (by omega) (by rw [htc _ (upd_s _ _ _)]; exact hcA.1)) (fun rr2 a'' u'' f'' code2 hp2 => ?_)
        rcases hp2 with ⟨r0, a2, ea2, hae2, hf2, hv⟩ | ⟨r1', a2, k2', j2, na2, nc2, st2, ea2, g1, g2, g3, g4, g5, g6, g7, g8, g9, g10, ⟨f2, gC, gR⟩, g12⟩
        · have r0 : rr2 = 0 := r0
          have ea2 : a'' = nI a2 := ea2
          rw [if_pos r0]
          refine Sf_some (Or.inl ⟨rfl, a2, ea2, hae2, hf2, dbad_pi hpe (badC_ne hf2.1 hf2.2 (by omega)) (fun ib => ?_)⟩)
          obtain ⟨p1, kk, o1, m1, ib1, na3, nc3, st3, h⟩ := val_bad 0 he hv
          refine ⟨p1, kk, o1, m1, ib1, na3, nc3, st3, ?_⟩
          rw [hv1 ib, hv2, h, cb9_o, isGood_n (badC_ne hf2.1 hf2.2 (by omega)), cb1_o, if_pos rfl]
        · have r1' : rr2 = 1 := r1'
          have ea2 : a'' = nI a2 := ea2
          have g8 : u'' = nI (u + (k1 + j1 - k) + (k2' + j2 - (k1 + j1))) := g8
          have g9 : ∀ i, i < u + (k1 + j1 - k) → code2 i = code' i := g9
          have hs2c : st2 (w + r) = c := by rw [g6 _ (by omega), upd_s]
          have hpd2 : j2 ≤ 2 ∧ ∀ i, i < j2 → isA (st2 (w + r + 1 + i)) := by
            rcases g7 with h | h | h
            · exact absurd h.1 (by omega)
            · exact absurd h.1 (by omega)
            · exact h.2
          have hV2 := val_run 0 he g2 g5 (g12.2 rfl) (by rw [htc _ hs2c]; exact hcA.1) (by rw [htc _ hs2c]; exact hcA.2.1) hpd2.2 (by omega) (by omega)
          rw [if_neg (by rw [r1']; decide), g8, put_n (by omega), cb2_o, ea2]
          by_cases d93 : hN t e a2 = 93
          · refine Sf_some (Or.inr (Or.inl ⟨rfl, a2, u + (k1 + j1 - k) + (k2' + j2 - (k1 + j1)) + 1, rfl, g2, rfl, by omega, d93, dbad_pi hpe (bad1 a2 g2) (fun ib => ?_)⟩))
            refine ⟨nI a2, nI (k2' + j2), nI o, nI (w + r + 1), 0, emC z0 (w + r + 1) j2 na2 k2', emC st2 (w + r + 1) j2 nc2 k2', st2, ?_⟩
            rw [hv1 ib, hv2, hV2.2 d93, cb9_o, isGood_n (bad1 a2 g2), cb1_o, if_pos rfl]
          · have hsw : ∀ i, i < w + r → st2 i = st i := fun i hi => by rw [g6 _ (by omega), upd_n (by omega)]; exact q6 i hi
            have hpi : ∀ ib : Int32, f_X12_pieceOfC (nI p) (nI e) 0 (nI k) (nI o) (nI (w + r)) ib na nc st t = some (nI a2, 0, nI (k2' + j2 + 1 + r), nI (o - r), nI w, 0, emC z0 w r (upd (emC z0 (w + r + 1) j2 na2 k2') (k2' + j2) 0) (k2' + j2 + 1), emC k2 w r (upd (emC st2 (w + r + 1) j2 nc2 k2') (k2' + j2) c) (k2' + j2 + 1), st2) := fun ib => by
              rw [hv1 ib, hv2, hV2.1 d93, cb9_o, isGood_0, cb1_o, if_neg (by decide), top_n (by omega), cb1_o, htc _ hs2c, emit_n (by omega), cb3_o, nmI_o, nI_pred, ends_e (by rw [tpN_congr (fun i hi => hsw i (by omega))]; exact hb1) (fun i hi => by rw [hsw _ (by omega)]; exact hnots i hi) hro (by omega) (by omega), cb5_o]
            refine Sf_some (Or.inr (Or.inr ⟨rfl, a2, k2' + j2 + 1 + r, _, _, st2, rfl, by omega, g2, by omega, by omega, drun_pi (by omega) (fun ib => ⟨0, hpi ib⟩), fun i hi => hsw i (by omega), ?_, fun i hi => ?_, fun i hi => ?_, sBin c f f2, boo_bin hc, ?_, ?_⟩))
            · show nI (u + (k1 + j1 - k) + (k2' + j2 - (k1 + j1)) + 1) = _
              rw [show u + (k1 + j1 - k) + (k2' + j2 - (k1 + j1)) + 1 = u + (k2' + j2 + 1 + r - k - r) by omega]
            · show upd code2 _ _ i = _
              rw [upd_n (by omega), g9 i (by omega)]; exact q9 i hi
            · have w1 := g10 i (by omega)
              rw [emC_lo (by omega), emC_lo (by omega), upd_n (by omega), upd_n (by omega), emC_lo (by omega), emC_lo (by omega), w1.1, w1.2, emC_lo (by omega), emC_lo (by omega)]
              exact q10 i hi
            · rw [show k2' + j2 + 1 + r - k - r = (k1 + j1 - k) + (k2' + j2 - (k1 + j1)) + 1 by omega]
              refine CR_bin (B2 := bd 2 o) (CR_mono (CR_congr fC (fun i hi => ?_)) (by unfold bd bc; omega)) (CR_congr gC (fun i hi => upd_n (by omega))) (upd_s _ _ _) hcO (by unfold bd bc; omega) (by unfold bd; omega)
              show upd code2 _ _ (u + i) = code' (u + i)
              rw [upd_n (by omega), g9 _ (by omega)]
            · have hR : RR (upd (emC st2 (w + r + 1) j2 nc2 k2') (k2' + j2) c) (upd (emC z0 (w + r + 1) j2 na2 k2') (k2' + j2) 0) k ((k1 + j1 - k) + (k2' + j2 - (k1 + j1)) + 1) (sBin c f f2) := by
                refine RR_bin (RR_congr fR (fun i hi => ?_)) ?_ ?_ hcO
                · have w1 := g10 (k + i) (by omega)
                  refine ⟨?_, ?_⟩
                  · rw [upd_n (by omega), emC_lo (st := st2) (by omega)]; exact w1.1
                  · rw [upd_n (by omega), emC_lo (m := w + r + 1) (by omega)]; exact w1.2
                · rw [show k + (k1 + j1 - k) = k1 + j1 by omega]
                  exact RR_congr gR (fun i hi => ⟨upd_n (by omega), upd_n (by omega)⟩)
                · rw [show k + (k1 + j1 - k) + (k2' + j2 - (k1 + j1)) = k2' + j2 by omega, upd_s]
              have h2 := RR_nots (m := w) (r := r) hR
              rw [show k + ((k1 + j1 - k) + (k2' + j2 - (k1 + j1)) + 1) = k2' + j2 + 1 by omega, show (k1 + j1 - k) + (k2' + j2 - (k1 + j1)) + 1 + r = k2' + j2 + 1 + r - k by omega] at h2
              exact h2
      have hns : ¬ (hN t e a = 60 ∨ hN t e a = 62 ∨ hN t e a = 61) → dbad e t k o p (w + r) na nc st (badC 1 a) := by
        intro hn
        refine dbad_pi hpe (bad1 a q2) (fun ib => ?_)
        by_cases d93 : hN t e a = 93
        · refine ⟨nI a, nI (k1 + j1), nI o, nI (w + r), 0, emC z0 (w + r) j1 na1 k1, emC st1 (w + r) j1 nc1 k1, st1, ?_⟩
          rw [pi_stop he hpe n33 n40, (hV ib).2 d93, cb9_o, f_X12_pieceOfC_J43, isGood_n (bad1 a q2), cb1_o, if_pos rfl]
        · refine ⟨nI a, nI (k1 + j1), nI o, nI (w + r), 0, emC z0 (w + r) j1 na1 k1, emC st1 (w + r) j1 nc1 k1, st1, ?_⟩
          rw [pi_stop he hpe n33 n40, (hV ib).1 d93, cb9_o, f_X12_pieceOfC_J43, isGood_0, cb1_o, if_neg (by decide), here_n he q2, cb1_o, isSign_e, cb1_o, if_pos (by rw [bI_0]; exact hn), wrongs_n, cb1_o]
      refine Sf_ite (fun c4 => ?_) (fun c4 => Sf_ite (fun c5 => ?_) (fun c5 => Sf_ite (fun c6 => ?_) (fun c6 => ?_)))
      · have h := (nh_iff (b := b) (e := e) (p := a) hb 60 (by decide)).mp c4
        rw [c4]; exact hJ 60 (Or.inl rfl) h
      · have h := (nh_iff (b := b) (e := e) (p := a) hb 62 (by decide)).mp c5
        rw [c5]; exact hJ 62 (Or.inr (Or.inl rfl)) h
      · have h := (nh_iff (b := b) (e := e) (p := a) hb 61 (by decide)).mp c6
        rw [c6]; exact hJ 61 (Or.inr (Or.inr rfl)) h
      · rw [f_X6_fail, cb2_o]
        refine Sf_bo (Or.inl (by decide)) (Sf_some (Or.inl ⟨rfl, a, rfl, q2, f1, hns ?_⟩))
        rintro (h | h | h)
        · exact c4 ((nh_iff (b := b) (e := e) (p := a) hb 60 (by decide)).mpr h)
        · exact c5 ((nh_iff (b := b) (e := e) (p := a) hb 62 (by decide)).mpr h)
        · exact c6 ((nh_iff (b := b) (e := e) (p := a) hb 61 (by decide)).mpr h)
end S7
