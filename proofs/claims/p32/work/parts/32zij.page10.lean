/-! whether a reader marks a minute: the same on both sides -/
noncomputable def mkL (he sp : Nat → Int32) (d : Int32) (m : Nat) (g t : Int32) : Nat → Int32 := qv 0 (if m = 0 then 0 else he (m - 1)) d (jrem d 7) g (he m) (sp m) (nI m) 0 (S_of d (nI m)) t 0 0
noncomputable abbrev fthF (x : kTx) (Lt vals : Nat → Int32) : Option (Int32 × (Nat → Int32)) := f_X5_firstThatHolds x.2.2.1.1 x.2.2.2.2.1 x.2.2.2.1.1 x.2.1 x.2.2.1.2 x.2.2.2.2.2 x.2.2.2.1.2 Lt vals
def isDc (G : kG) (k : Nat) (d : Int32) (he sp : Nat → Int32) (D : Nat → Nat → Bool) : Prop := ∀ m, m < 1440 → ∀ t, (∀ x : kTx, G.2 (10 + k) = some x → ∀ (g : Int32) (Lt vals : Nat → Int32), isMx he (m - 10) m g → (∀ c, valB c = true → vO (mkL he sp d m g (nI t)) c = Lt c.toNatClampNeg) → Sf (fthF x Lt vals) (fun y => (y.1 = -1 ↔ D m t = false))) ∧ (G.2 (10 + k) = none → D m t = false)
noncomputable abbrev imkF (code ca cf ct many : Nat → Int32) (k : Nat) (d : Int32) (m t : Nat) (h b g l s f : Int32) (rf wo : Nat → Int32) : Option R16 := f_X12_isMarked_L146 code ca cf ct many (nI k) d (nI m) (nI t) 0 0 0 0 h b g l s f FU (nI (12 * (10 + k))) rf wo
def isDr (code ca cf ct many : Nat → Int32) (k : Nat) (d : Int32) (he sp : Nat → Int32) (D : Nat → Nat → Bool) : Prop := ∀ m, m < 1440 → ∀ (t : Nat) (g : Int32) (rf wo : Nat → Int32), isMx he (m - 10) m g → Sf (imkF code ca cf ct many k d m t (he m) (if m = 0 then 0 else he (m - 1)) g (sp m) (S_of d (nI m)) (jrem d 7) rf wo) (fun z => z.1 = mI (D m t))
theorem imk_L {v : kTv} {code ca cf ct sf many : Nat → Int32} {k c m t : Nat} {V : Int32 → Int32} {F : Nat → Bool × Int32} {d h b g l s f : Int32} (hk : k < 4) (hc : c ≤ 12) (hm : many (10 + k) = nI c) (hF : ∀ x, x < c → clEv 0 v code ca cf ct sf (10 + k) x V (F x)) (hV : ∀ c, valB c = true → vO (qv 0 b d f g h l (nI m) 0 s (nI t) 0 0) c = V c) :
    ∀ (r x n : Nat) (rf wo : Nat → Int32), x + r = c → Sf (f_X12_isMarked_L146 code ca cf ct many (nI k) d (nI m) (nI t) 0 0 0 0 h b g l s f (n + r + 1) (nI (12 * (10 + k) + x)) rf wo) (fun z => (z.1 = 1 ∧ ∃ y, isFst F x c y) ∨ (z.1 = 0 ∧ noFst F x c)) := by
  have j1 : jin (10 + nI k) 20 = true := by rw [show (10 : Int32) = nI 10 from rfl, nI_add]; exact jin_n (by omega) (by omega)
  have c1 : (10 + nI k).toNatClampNeg = 10 + k := by rw [show (10 : Int32) = nI 10 from rfl, nI_add, nI_clamp (by omega)]
  have c2 : (12 : Int32) * (10 + nI k) + nI c = nI (12 * (10 + k) + c) := by rw [show (10 : Int32) = nI 10 from rfl, show (12 : Int32) = nI 12 from rfl, nI_add, pk_mul, nI_add]
  intro r
  induction r with
  | zero =>
    intro x n rf wo hx
    have hx : x = c := by omega
    subst hx
    rw [Nat.add_zero, f_X12_isMarked_L146, rdI_o j1, c1, hm, c2, if_pos (nI_le (Nat.le_refl _) (by omega))]
    exact Sf_some (Or.inr ⟨rfl, fun i h1 h2 => absurd h1 (by omega)⟩)
  | succ r ih =>
    intro x n rf wo hx
    have hx : x < c := by omega
    obtain ⟨q, rf1, wo1, e1, e2⟩ := (hF x hx).2.1 (qv 0 b d f g h l (nI m) 0 s (nI t) 0 0) rf wo hV
    have e1 : f_X12_holds 0 b d f g h l (nI m) 0 s (nI t) 0 0 code ca cf ct rf wo (nI (12 * (10 + k) + x)) = some (q, rf1, wo1) := e1
    rw [show n + (r + 1) + 1 = (n + r + 1) + 1 by omega, f_X12_isMarked_L146, rdI_o j1, c1, hm, c2, if_neg (nI_ge (by omega) (by omega)), e1, cb3_o]
    refine Sf_ite (fun w => ?_) (fun w => ?_)
    · have hf := e2.mp w
      rw [nmI_o, nI_1, show 12 * (10 + k) + x + 1 = 12 * (10 + k) + (x + 1) by omega]
      refine Sf_mono (ih (x + 1) n rf1 wo1 (by omega)) (fun y hy => ?_)
      rcases hy with ⟨y1, z, z1, z2, z3, z4⟩ | ⟨y1, hn⟩
      · refine Or.inl ⟨y1, z, by omega, z2, z3, fun i i1 i2 => ?_⟩
        by_cases dd : i = x
        · rw [dd]; exact hf
        · exact z4 i (by omega) i2
      · refine Or.inr ⟨y1, fun i i1 i2 => ?_⟩
        by_cases dd : i = x
        · rw [dd]; exact hf
        · exact hn i (by omega) i2
    · refine Sf_some (Or.inl ⟨rfl, x, Nat.le_refl _, hx, ?_, fun i i1 i2 => absurd i1 (by omega)⟩)
      cases hb : (F x).1 with
      | true => rfl
      | false => exact absurd (e2.mpr hb) w
theorem D_ex {G : kG} {code ca cf ct sf many : Nat → Int32} {k : Nat} (d : Int32) (he sp : Nat → Int32) (hT : TX G code ca cf ct sf many) (hk : k < 4) : ∃ D : Nat → Nat → Bool, isDc G k d he sp D ∧ isDr code ca cf ct many k d he sp D := by
  have j1 : jin (10 + nI k) 20 = true := by rw [show (10 : Int32) = nI 10 from rfl, nI_add]; exact jin_n (by omega) (by omega)
  have c1 : (10 + nI k).toNatClampNeg = 10 + k := by rw [show (10 : Int32) = nI 10 from rfl, nI_add, nI_clamp (by omega)]
  rcases hT (10 + k) (by omega) with ⟨t1, t2⟩ | ⟨x, c, t1, t2, t3⟩
  · refine ⟨fun _ _ => false, fun m hm t => ⟨fun x hx => ?_, fun _ => rfl⟩, fun m hm t g rf wo hg => ?_⟩
    · rw [t1] at hx; cases hx
    · obtain ⟨n, hn⟩ : ∃ n, FU = n + 1 := ⟨FU - 1, by have := FU_ge; omega⟩
      unfold imkF
      have c2 : (12 : Int32) * (10 + nI k) + 0 = nI (12 * (10 + k)) := by rw [show (0 : Int32) = nI 0 from nI_0.symm, show (10 : Int32) = nI 10 from rfl, show (12 : Int32) = nI 12 from rfl, nI_add, pk_mul, nI_add, Nat.add_zero]
      rw [hn, f_X12_isMarked_L146, rdI_o j1, c1, t2, c2, if_pos (nI_le (Nat.le_refl _) (by omega))]
      exact Sf_some rfl
  · have hR : TXR 0 x.2 code ca cf ct sf (10 + k) c := by
      rcases t3 with w | w | w
      · exact absurd w.1 (by omega)
      · exact w.2.2
      · exact absurd w.1 (by omega)
    have hc12 : c ≤ 12 := hR.2.2.1
    have key : ∀ p : Nat × Nat, ∃ b : Bool, p.1 < 1440 → ∀ g : Int32, isMx he (p.1 - 10) p.1 g → (∀ Lt vals : Nat → Int32, (∀ c, valB c = true → vO (mkL he sp d p.1 g (nI p.2)) c = Lt c.toNatClampNeg) → Sf (fthF x Lt vals) (fun y => (y.1 = -1 ↔ b = false))) ∧ (∀ rf wo : Nat → Int32, Sf (imkF code ca cf ct many k d p.1 p.2 (he p.1) (if p.1 = 0 then 0 else he (p.1 - 1)) g (sp p.1) (S_of d (nI p.1)) (jrem d 7) rf wo) (fun z => z.1 = mI b)) := by
      intro p
      obtain ⟨m, t⟩ := p
      obtain ⟨g0, hg0⟩ := isMx_ex he (m - 10) (m - (m - 10))
      rw [show m - 10 + (m - (m - 10)) = m by omega] at hg0
      obtain ⟨F, hF⟩ := text_eval hR (by omega) (fun c => vO (mkL he sp d m g0 (nI t)) c)
      obtain ⟨n, hn⟩ : ∃ n, FU = n + c + 1 := ⟨FU - c - 1, by have := FU_ge; omega⟩
      have hr := fun rf wo : Nat → Int32 => imk_L (m := m) (t := t) (d := d) (h := he m) (b := if m = 0 then 0 else he (m - 1)) (g := g0) (l := sp m) (s := S_of d (nI m)) (f := jrem d 7) hk hc12 t2 hF (fun c _ => rfl) c 0 n rf wo (by omega)
      by_cases hz : ∃ z, isFst F 0 c z
      · obtain ⟨z, hz⟩ := hz
        refine ⟨true, fun hm g hg => ⟨fun Lt vals hV => ?_, fun rf wo => ?_⟩⟩
        · have eg := isMx_uni hg hg0
          subst eg
          refine Sf_mono (first_n (vals := vals) hR hF (fun c hc => (hV c hc).symm)) (fun y hy => ⟨fun w => ?_, fun w => by cases w⟩)
          rcases hy with ⟨z', hz', e⟩ | ⟨hn', -⟩
          · exact absurd (e.symm.trans w) (nI_nm1 (by have := hz'.2.1; omega))
          · exact absurd (fst_no hz hn') (fun w => w)
        · have eg := isMx_uni hg hg0
          subst eg
          have hr := hr rf wo
          rw [Nat.add_zero, ← hn] at hr
          refine Sf_mono hr (fun y hy => ?_)
          rcases hy with ⟨y1, -⟩ | ⟨-, hn'⟩
          · exact y1
          · exact absurd (fst_no hz hn') (fun w => w)
      · refine ⟨false, fun hm g hg => ⟨fun Lt vals hV => ?_, fun rf wo => ?_⟩⟩
        · have eg := isMx_uni hg hg0
          subst eg
          refine Sf_mono (first_n (vals := vals) hR hF (fun c hc => (hV c hc).symm)) (fun y hy => ⟨fun _ => rfl, fun _ => ?_⟩)
          rcases hy with ⟨z', hz', e⟩ | ⟨-, e⟩
          · exact absurd ⟨z', hz'⟩ hz
          · exact e
        · have eg := isMx_uni hg hg0
          subst eg
          have hr := hr rf wo
          rw [Nat.add_zero, ← hn] at hr
          refine Sf_mono hr (fun y hy => ?_)
          rcases hy with ⟨-, z', hz'⟩ | ⟨y1, -⟩
          · exact absurd ⟨z', hz'⟩ hz
          · exact y1
    obtain ⟨D, hD⟩ := Classical.axiomOfChoice key
    refine ⟨fun m t => D (m, t), fun m hm t => ⟨fun x' hx' g Lt vals hg hV => ?_, fun w => ?_⟩, fun m hm t g rf wo hg => ?_⟩
    · rw [t1] at hx'
      cases hx'
      exact (hD (m, t) hm g hg).1 Lt vals hV
    · rw [t1] at w; cases w
    · exact (hD (m, t) hm g hg).2 rf wo
/-- the row of marks, by what is decided at each minute -/
def mSt (D : Nat → Nat → Bool) : Nat → Bool × Nat
  | 0 => (false, 0)
  | m + 1 => (D m (mSt D m).2, if (mSt D m).1 && !(D m (mSt D m).2) then (mSt D m).2 + 1 else (mSt D m).2)
def mRw (D : Nat → Nat → Bool) (m : Nat) : Bool := (mSt D (m + 1)).1
def mT (D : Nat → Nat → Bool) (m : Nat) : Nat := (mSt D m).2
theorem mRw_D (D : Nat → Nat → Bool) (m : Nat) : mRw D m = D m (mT D m) := rfl
theorem mPr_D (D : Nat → Nat → Bool) (m : Nat) : mPr (mRw D) m = (mSt D m).1 := by cases m <;> rfl
theorem mT_s (D : Nat → Nat → Bool) (m : Nat) : mT D (m + 1) = if mPr (mRw D) m && !(mRw D m) then mT D m + 1 else mT D m := by rw [mPr_D]; rfl
theorem mT_le (D : Nat → Nat → Bool) : ∀ m, mT D m ≤ m := by
  intro m
  induction m with
  | zero => exact Nat.le_refl _
  | succ m ih =>
    rw [mT_s]
    split <;> omega
theorem mCn_T (D : Nat → Nat → Bool) : ∀ m, mCn (mRw D) m = mT D m + (mPr (mRw D) m).toNat := by
  intro m
  induction m with
  | zero => rfl
  | succ m ih =>
    have e2 : mPr (mRw D) (m + 1) = mRw D m := rfl
    rw [mCn_s, mT_s, e2, ih]
    unfold mBg
    cases mRw D m <;> cases mPr (mRw D) m
    · rfl
    · rfl
    · rfl
    · rfl
theorem mSt_congr {D D' : Nat → Nat → Bool} : ∀ m, m ≤ 1440 → (∀ i, i < 1440 → ∀ t, D i t = D' i t) → mSt D m = mSt D' m := by
  intro m
  induction m with
  | zero => intro _ _; rfl
  | succ m ih =>
    intro hm h
    have e := ih (by omega) h
    show (D m (mSt D m).2, if (mSt D m).1 && !(D m (mSt D m).2) then (mSt D m).2 + 1 else (mSt D m).2) = (D' m (mSt D' m).2, if (mSt D' m).1 && !(D' m (mSt D' m).2) then (mSt D' m).2 + 1 else (mSt D' m).2)
    rw [e, h m (by omega)]
theorem isDc_uni {G : kG} {k : Nat} {d : Int32} {he sp : Nat → Int32} {D D' : Nat → Nat → Bool} (a : isDc G k d he sp D) (b : isDc G k d he sp D') : ∀ m, m < 1440 → mRw D m = mRw D' m := by
  have key : ∀ i, i < 1440 → ∀ t, D i t = D' i t := by
    intro m hm t
    cases hG : G.2 (10 + k) with
    | none => rw [(a m hm t).2 hG, (b m hm t).2 hG]
    | some x =>
      obtain ⟨g0, hg0⟩ := isMx_ex he (m - 10) (m - (m - 10))
      rw [show m - 10 + (m - (m - 10)) = m by omega] at hg0
      have hV : ∀ c, valB c = true → vO (mkL he sp d m g0 (nI t)) c = (fun i => vO (mkL he sp d m g0 (nI t)) (nI i)) c.toNatClampNeg := by
        refine V_all (V := fun c => (fun i => vO (mkL he sp d m g0 (nI t)) (nI i)) c.toNatClampNeg) ?_
        exact vO_all (mkL he sp d m g0 (nI t))
      obtain ⟨y, e1, h1⟩ := (a m hm t).1 x hG g0 (fun i => vO (mkL he sp d m g0 (nI t)) (nI i)) (fun _ => 0) hg0 hV
      have h2 := Sf_det e1 ((b m hm t).1 x hG g0 (fun i => vO (mkL he sp d m g0 (nI t)) (nI i)) (fun _ => 0) hg0 hV)
      cases ha : D m t with
      | false => exact (h2.mp (h1.mpr ha)).symm
      | true =>
        cases hb : D' m t with
        | true => rfl
        | false => rw [h1.mp (h2.mpr hb)] at ha; cases ha
  intro m hm
  show (mSt D (m + 1)).1 = (mSt D' (m + 1)).1
  rw [mSt_congr (m + 1) (by omega) key]
