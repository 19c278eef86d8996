/-! the whole page of a day -/
theorem fill_L1 {v : Int32} : ∀ (r x n : Nat) (f : Nat → Int32), x + r = 1440 → (∀ m, m < x → f m = v) → Sf (f_J7_fill_53178_L5 1440 v (Int32.ofNat 1440) (n + r + 1) (nI x) f) (fun g => ∀ m, m < 1440 → g m = v) := by
  intro r
  induction r with
  | zero =>
    intro x n f h hf
    have hx : x = 1440 := by omega
    subst hx
    rw [Nat.add_zero, f_J7_fill_53178_L5, if_pos (show Int32.ofNat 1440 ≤ nI 1440 from nI_le (Nat.le_refl _) (by omega))]
    exact Sf_some hf
  | succ r ih =>
    intro x n f h hf
    rw [show n + (r + 1) + 1 = (n + r + 1) + 1 by omega, f_J7_fill_53178_L5, if_neg (show ¬ Int32.ofNat 1440 ≤ nI x from nI_ge (a := x) (b := 1440) (by omega) (by omega)), wrI_o (jin_n (by omega) (by omega)), nmI_o, nI_1, nI_clamp (by omega)]
    refine ih (x + 1) n _ (by omega) (fun m hm => ?_)
    by_cases c : m = x
    · subst c; exact upd_s _ _ _
    · rw [upd_n c]; exact hf m (by omega)
theorem fill_e1 {v : Int32} {f : Nat → Int32} : Sf (f_J7_fill_53178 1440 f v) (fun g => ∀ m, m < 1440 → g m = v) := by
  obtain ⟨n, hn⟩ : ∃ n, FU = n + 1440 + 1 := ⟨FU - 1441, by have := FU_ge; omega⟩
  have h := fill_L1 (v := v) 1440 0 n f (by omega) (fun m hm => absurd hm (by omega))
  rw [← hn, nI_0] at h
  rw [f_J7_fill_53178, nmI_o]
  exact h
def HHs (G : kG) (sd : Int32) (bs mo wi wd code ca cf ct sf many : Nat → Int32) (n : Nat) (d : Int32) (HH : Nat → Nat → Int32) : Prop := ∀ s, s < n → ∀ m, m < 1440 → isH G sd bs mo wi wd code ca cf ct sf many s d (nI m) (HH s m)
def isPage (HH : Nat → Nat → Int32) (sh : Nat → Int32) (n : Nat) (he hi sp : Nat → Int32) : Prop := ∀ m, m < 1440 → (he m, hi m, sp m) = pSum (fun s => HH s m) sh n
section LY
variable {G : kG} {so sd : Int32} {bs mo wi sh wd code ca cf ct sf many : Nat → Int32} {d : Int32}
theorem HH_ex (hk1 : so.toInt ≤ 10) (hsd : 0 ≤ sd.toInt ∧ sd.toInt ≤ 999) (hsrc : SRC G so bs mo wi sh wd) (hT : TX G code ca cf ct sf many) (hd : 0 ≤ d.toInt ∧ d.toInt ≤ 399) {n : Nat} (hn : (n : Int) = so.toInt) : ∃ HH : Nat → Nat → Int32, HHs G sd bs mo wi wd code ca cf ct sf many n d HH := by
  have h : ∀ p : Nat × Nat, ∃ h : Int32, p.1 < n → p.2 < 1440 → isH G sd bs mo wi wd code ca cf ct sf many p.1 d (nI p.2) h := by
    intro p
    by_cases c1 : p.1 < n
    · by_cases c2 : p.2 < 1440
      · obtain ⟨h, hh⟩ := H_ex (s := p.1) (p2 := d) (p3 := nI p.2) hk1 hsd hsrc hT (by omega) hd (by rw [nI_toInt (by omega)]; omega)
        exact ⟨h, fun _ _ => hh⟩
      · exact ⟨0, fun _ w => absurd w c2⟩
    · exact ⟨0, fun w => absurd w c1⟩
  obtain ⟨F, hF⟩ := Classical.axiomOfChoice h
  exact ⟨fun s m => F (s, m), fun s hs m hm => hF (s, m) hs hm⟩
theorem layL_e {n : Nat} {HH : Nat → Nat → Int32} {rd : Int32} (hk1 : n ≤ 10) (hn : nI n = so) (hsrc : SRC G so bs mo wi sh wd) (hd : 0 ≤ d.toInt ∧ d.toInt ≤ 399) (hH : HHs G sd bs mo wi wd code ca cf ct sf many n d HH) :
    ∀ (r k f : Nat) (he hi sp Lt vals : Nat → Int32), k + r = n → LtS Lt → isPage HH sh k he hi sp → Sf (f_X7_lay_L16 so sd d G rd d (f + r + 1) (nI k) he hi sp Lt vals) (fun y => y.1 = rd ∧ y.2.1 = d ∧ LtS y.2.2.2.2.2.1 ∧ isPage HH sh n y.2.2.1 y.2.2.2.1 y.2.2.2.2.1) := by
  have tn : so.toInt = (n : Int) := by rw [← hn]; exact nI_toInt (by omega)
  intro r
  induction r with
  | zero =>
    intro k f he hi sp Lt vals h hL hp
    have hk : k = n := by omega
    subst hk
    rw [Nat.add_zero, f_X7_lay_L16, ← hn, if_pos (nI_le (Nat.le_refl _) (by omega))]
    exact Sf_some ⟨rfl, rfl, hL, hp⟩
  | succ r ih =>
    intro k f he hi sp Lt vals h hL hp
    have hk : k < n := by omega
    obtain ⟨a, hsa, hbs, hmo, hwi, hsh, hwd⟩ := hsrc k (by omega)
    have hrg : ∀ m, m < 1440 → 0 ≤ (hi m).toInt := fun m hm => by
      have h1 := (pSum_rg (H := fun s => HH s m) (sh := sh) k (by omega) (fun s hs => (hH s (by omega) m hm).1)).2.1
      rw [← hp m hm] at h1
      exact h1
    have skip : (∀ m, m < 1440 → HH k m = 0) → isPage HH sh (k + 1) he hi sp := fun hz m hm => by
      show _ = pAdd (pSum (fun s => HH s m) sh k) (HH k m) (sh k)
      rw [hz m hm, ← hp m hm, pAdd_0 (show 0 ≤ (hi m).toInt from hrg m hm)]
    have j10 : jin (nI k) 10 = true := jin_n (by omega) (by omega)
    rw [show f + (r + 1) + 1 = (f + r + 1) + 1 by omega, f_X7_lay_L16, if_neg (by rw [← hn]; exact nI_ge hk (by omega)), gdN_o j10, nI_clamp (by omega)]
    refine Sf_oS (fun i hi => by cases hi; omega) (fun w => ?_) (fun i s0 hi' _ hs => ?_)
    · exfalso
      rcases w with w | ⟨i, hi', hn'⟩
      · cases w
      · cases hi'; rw [hsa] at hn'; cases hn'
    cases hi'
    rw [hsa] at hs
    cases hs
    refine Sf_oT (fun i hi => by cases hi; omega) (fun w => ?_) (fun i x hi' _ hx => ?_)
    · rw [nmI_o, nI_1]
      have hz : G.2 k = none := by
        rcases w with w | ⟨i, hi', hn'⟩
        · cases w
        · cases hi'; exact hn'
      exact ih (k + 1) f he hi sp Lt vals (by omega) hL (skip (fun m hm => (hH k hk m hm).2.2.2 (Or.inl hz)))
    cases hi'
    have hCm : f_X8_comesOn (wd k) d = some (C_of wd k d) := by
      rw [f_X8_comesOn]; unfold C_of
      split <;> rfl
    rw [hCm, cb1_o]
    refine Sf_ite (fun g => ?_) (fun g => ?_)
    · rw [nmI_o, nI_1]
      exact ih (k + 1) f he hi sp Lt vals (by omega) hL (skip (fun m hm => (hH k hk m hm).2.2.2 (Or.inr (Or.inl g))))
    · have tw := tN (wi k) hwi.1
      have hw : wi k = nI (wi k).toNatClampNeg := i32_eq (by rw [nI_toInt (by omega)]; omega)
      refine Sf_cb5 (layOne_e (G := G) (code := code) (ca := ca) (cf := cf) (ct := ct) (sf := sf) (many := many) (Hm := fun m => HH k m) (s := k) (shp := sh k) (he := he) (hi := hi) (sp := sp) (vals := vals) hd hmo (by omega) hw hx (fun m hm => hH k hk m hm) hrg hL) (fun b1 b2 b3 b4 b5 hb => ?_)
      rw [nmI_o, nI_1]
      refine ih (k + 1) f b1 b2 b3 b4 b5 (by omega) hb.1 (fun m hm => ?_)
      show _ = pAdd (pSum (fun s => HH s m) sh k) (HH k m) (sh k)
      rw [← hp m hm]
      exact hb.2 m hm
/-- lay: the page stands, or is laid -/
theorem lay_e {n : Nat} {HH : Nat → Nat → Int32} {rd dy : Int32} {he hi sp Lt vals : Nat → Int32} (hk1 : n ≤ 10) (hn : nI n = so) (hsrc : SRC G so bs mo wi sh wd) (hd : 0 ≤ d.toInt ∧ d.toInt ≤ 399) (hH : HHs G sd bs mo wi wd code ca cf ct sf many n d HH) (hL : LtS Lt) (hold : dy = d → isPage HH sh n he hi sp) :
    Sf (f_X7_lay G so sd rd dy he hi sp Lt vals d) (fun y => y.2.1 = d ∧ LtS y.2.2.2.2.2.1 ∧ isPage HH sh n y.2.2.1 y.2.2.2.1 y.2.2.2.2.1 ∧ ((dy = d ∧ y.1 = rd) ∨ (¬ dy = d ∧ y.1 = 0))) := by
  rw [f_X7_lay]
  refine Sf_ite (fun g => Sf_some ⟨g, hL, hold g, Or.inl ⟨g, rfl⟩⟩) (fun g => ?_)
  rw [f_X4_clear]
  obtain ⟨g1, e1, h1⟩ := fill_e1 (v := 0) (f := he)
  obtain ⟨g2, e2, h2⟩ := fill_e1 (v := 0) (f := hi)
  obtain ⟨g3, e3, h3⟩ := fill_e1 (v := 4) (f := sp)
  rw [e1, cb1_o, e2, cb1_o, e3, cb1_o, cb5_o]
  obtain ⟨f, hf⟩ : ∃ f, FU = f + n + 1 := ⟨FU - n - 1, by have := FU_ge; omega⟩
  have h := layL_e (rd := 0) hk1 hn hsrc hd hH n 0 f g1 g2 g3 Lt vals (by omega) hL (fun m hm => by rw [h1 m hm, h2 m hm, h3 m hm]; rfl)
  rw [← hf, nI_0] at h
  exact Sf_mono h (fun y hy => ⟨hy.2.1, hy.2.2.1, hy.2.2.2, Or.inr ⟨g, hy.1⟩⟩)
end LY
