section
/-! what the reference keeps of a text -/
section T1
variable {P : (Nat → Int32) × (Nat → Int32) × (Nat → Int32) × (Nat → Int32) × (Nat → Int32) × (Nat → Int32) → Prop}
theorem keepsA {k s : Nat} {na nc code0 ca0 : Nat → Int32} {K : (Nat → Int32) → (Nat → Int32) → Option ((Nat → Int32) × (Nat → Int32) × (Nat → Int32) × (Nat → Int32) × (Nat → Int32) × (Nat → Int32))} (hs : s < 20) (hk : k ≤ 120)
    (hK : ∀ code ca : Nat → Int32, (∀ j, j < k → code (120 * s + j) = nc j ∧ ca (120 * s + j) = na j) → (∀ q, (q < 120 * s ∨ 120 * s + 120 ≤ q) → code q = code0 q ∧ ca q = ca0 q) → Sf (K code ca) P) :
    ∀ (r x n : Nat) (code ca : Nat → Int32), x + r = k → (∀ j, j < x → code (120 * s + j) = nc j ∧ ca (120 * s + j) = na j) → (∀ q, (q < 120 * s ∨ 120 * s + 120 ≤ q) → code q = code0 q ∧ ca q = ca0 q) → Sf (f_X12_keeps_L84 (nI k) na nc (nI s) K (n + r + 1) (nI x) code ca) P := by
  intro r
  induction r with
  | zero =>
    intro x n code ca h1 h2 h3
    have hx : x = k := by omega
    subst hx
    rw [Nat.add_zero, f_X12_keeps_L84, if_pos (nI_le (Nat.le_refl _) (by omega))]
    exact hK code ca h2 h3
  | succ r ih =>
    intro x n code ca h1 h2 h3
    have j1 : jin (nI x) 120 = true := jin_n (by omega) (by omega)
    have j2 : jin (nI (120 * s + x)) 2400 = true := jin_n (by omega) (by omega)
    rw [show n + (r + 1) + 1 = (n + r + 1) + 1 by omega, f_X12_keeps_L84, if_neg (nI_ge (by omega) (by omega)), show (120 : Int32) = nI 120 from rfl, pk_mul, nI_add, rdI_o j1, wrI_o j2, rdI_o j1, wrI_o j2, nmI_o, nI_1, nI_clamp (by omega), nI_clamp (by omega)]
    refine ih (x + 1) n _ _ (by omega) (fun j hj => ?_) (fun q hq => ?_)
    · by_cases d : j = x
      · subst d; exact ⟨upd_s _ _ _, upd_s _ _ _⟩
      · rw [upd_n (by omega), upd_n (by omega)]; exact h2 j (by omega)
    · rw [upd_n (by omega), upd_n (by omega)]; exact h3 q hq
theorem keepsB {c s : Nat} {nf ns nt cf0 ct0 sf0 : Nat → Int32} {K : (Nat → Int32) → (Nat → Int32) → (Nat → Int32) → Option ((Nat → Int32) × (Nat → Int32) × (Nat → Int32) × (Nat → Int32) × (Nat → Int32) × (Nat → Int32))} (hs : s < 20) (hc : c ≤ 12)
    (hK : ∀ cf ct sf : Nat → Int32, (∀ j, j < c → sf (12 * s + j) = nI (120 * s) + ns j ∧ cf (12 * s + j) = nI (120 * s) + nf j ∧ ct (12 * s + j) = nI (120 * s) + nt j) → (∀ q, (q < 12 * s ∨ 12 * s + 12 ≤ q) → sf q = sf0 q ∧ cf q = cf0 q ∧ ct q = ct0 q) → Sf (K cf ct sf) P) :
    ∀ (r x n : Nat) (cf ct sf : Nat → Int32), x + r = c → (∀ j, j < x → sf (12 * s + j) = nI (120 * s) + ns j ∧ cf (12 * s + j) = nI (120 * s) + nf j ∧ ct (12 * s + j) = nI (120 * s) + nt j) → (∀ q, (q < 12 * s ∨ 12 * s + 12 ≤ q) → sf q = sf0 q ∧ cf q = cf0 q ∧ ct q = ct0 q) → Sf (f_X12_keeps_L2 (nI c) nf ns nt (nI s) K (n + r + 1) (nI x) cf ct sf) P := by
  intro r
  induction r with
  | zero =>
    intro x n cf ct sf h1 h2 h3
    have hx : x = c := by omega
    subst hx
    rw [Nat.add_zero, f_X12_keeps_L2, if_pos (nI_le (Nat.le_refl _) (by omega))]
    exact hK cf ct sf h2 h3
  | succ r ih =>
    intro x n cf ct sf h1 h2 h3
    have j1 : jin (nI x) 12 = true := jin_n (by omega) (by omega)
    have j2 : jin (nI (12 * s + x)) 240 = true := jin_n (by omega) (by omega)
    rw [show n + (r + 1) + 1 = (n + r + 1) + 1 by omega, f_X12_keeps_L2, if_neg (nI_ge (by omega) (by omega)), show (120 : Int32) = nI 120 from rfl, show (12 : Int32) = nI 12 from rfl, pk_mul, pk_mul, nI_add, rdI_o j1, nmI_o, wrI_o j2, rdI_o j1, nmI_o, wrI_o j2, rdI_o j1, nmI_o, wrI_o j2, nmI_o, nI_1, nI_clamp (by omega), nI_clamp (by omega)]
    refine ih (x + 1) n _ _ _ (by omega) (fun j hj => ?_) (fun q hq => ?_)
    · by_cases d : j = x
      · subst d; exact ⟨upd_s _ _ _, upd_s _ _ _, upd_s _ _ _⟩
      · rw [upd_n (by omega), upd_n (by omega), upd_n (by omega)]; exact h2 j (by omega)
    · rw [upd_n (by omega), upd_n (by omega), upd_n (by omega)]; exact h3 q hq
end T1
def keptQ (c k s : Nat) (na nc nf ns nt code0 ca0 cf0 ct0 sf0 many0 : Nat → Int32) (y : (Nat → Int32) × (Nat → Int32) × (Nat → Int32) × (Nat → Int32) × (Nat → Int32) × (Nat → Int32)) : Prop :=
  (∀ j, j < k → y.1 (120 * s + j) = nc j ∧ y.2.1 (120 * s + j) = na j) ∧ (∀ q, (q < 120 * s ∨ 120 * s + 120 ≤ q) → y.1 q = code0 q ∧ y.2.1 q = ca0 q) ∧
  (∀ j, j < c → y.2.2.2.2.2 (12 * s + j) = nI (120 * s) + ns j ∧ y.2.2.1 (12 * s + j) = nI (120 * s) + nf j ∧ y.2.2.2.1 (12 * s + j) = nI (120 * s) + nt j) ∧ (∀ q, (q < 12 * s ∨ 12 * s + 12 ≤ q) → y.2.2.2.2.2 q = sf0 q ∧ y.2.2.1 q = cf0 q ∧ y.2.2.2.1 q = ct0 q) ∧ y.2.2.2.2.1 = upd many0 s (nI c)
theorem keeps_n {c k s : Nat} {na nc nf ns nt code ca cf ct sf many : Nat → Int32} (hs : s < 20) (hk : k ≤ 120) (hc : c ≤ 12) : Sf (f_X12_keeps (nI c) (nI k) code ca cf ct many na nc nf ns nt sf (nI s)) (keptQ c k s na nc nf ns nt code ca cf ct sf many) := by
  obtain ⟨n, hn⟩ : ∃ n, FU = n + c + 1 := ⟨FU - c - 1, by have := FU_ge; omega⟩
  obtain ⟨n', hn'⟩ : ∃ n, FU = n + k + 1 := ⟨FU - k - 1, by have := FU_ge; omega⟩
  rw [f_X12_keeps, show (0 : Int32) = nI 0 from nI_0.symm]
  have h := keepsB (P := keptQ c k s na nc nf ns nt code ca cf ct sf many) (K := f_X12_keeps_J82 (nI c) (nI k) code ca many na nc (nI s)) (nf := nf) (ns := ns) (nt := nt) (cf0 := cf) (ct0 := ct) (sf0 := sf) hs hc (fun cf' ct' sf' h1 h2 => ?_) c 0 n cf ct sf (by omega) (fun j hj => absurd hj (by omega)) (fun q _ => ⟨rfl, rfl, rfl⟩)
  · rw [← hn] at h; exact h
  · rw [f_X12_keeps_J82, show (0 : Int32) = nI 0 from nI_0.symm]
    have h := keepsA (P := keptQ c k s na nc nf ns nt code ca cf ct sf many) (K := f_X12_keeps_J132 (nI c) many (nI s) cf' ct' sf') (na := na) (nc := nc) (code0 := code) (ca0 := ca) hs hk (fun code' ca' g1 g2 => ?_) k 0 n' code ca (by omega) (fun j hj => absurd hj (by omega)) (fun q _ => ⟨rfl, rfl⟩)
    · rw [← hn'] at h; exact h
    · rw [f_X12_keeps_J132, wrI_o (jin_n hs (by omega)), nI_clamp (by omega)]
      exact Sf_some ⟨g1, g2, h1, h2, rfl⟩
end
section
def TXR (lw : Int32) (v : kTv) (code ca cf ct sf : Nat → Int32) (s c : Nat) : Prop := v.1 = nI c ∧ 1 ≤ c ∧ c ≤ 12 ∧ v.2.1.1 ≤ 120 ∧ v.2.2.1.1 = c + 1 ∧ v.2.2.2.1 = c ∧ ∀ x, x < c → ∃ a L1 L2 : Nat, v.2.2.1.2 x = nI a ∧ v.2.2.2.2 x = nI (a + L1) ∧ v.2.2.1.2 (x + 1) = nI (a + L1 + L2) ∧ a + L1 + L2 ≤ v.2.1.1 ∧ sf (12 * s + x) = nI (120 * s + a) ∧ cf (12 * s + x) = nI (120 * s + (a + L1)) ∧ ct (12 * s + x) = nI (120 * s + (a + L1 + L2)) ∧ txS lw v.2.1.2 (fun j => code (120 * s + j)) (fun j => ca (120 * s + j)) a L1 L2
/-- the texts in other places stay -/
def outQ (s : Nat) (code ca cf ct sf code' ca' cf' ct' sf' : Nat → Int32) : Prop := (∀ q, (q < 120 * s ∨ 120 * s + 120 ≤ q) → code' q = code q ∧ ca' q = ca q) ∧ (∀ q, (q < 12 * s ∨ 12 * s + 12 ≤ q) → sf' q = sf q ∧ cf' q = cf q ∧ ct' q = ct q)
def txZ (s : Nat) (lw : Int32) (code ca cf ct sf many : Nat → Int32) (nt : Option kTv) (r at' fa' : Int32) (z : R23) : Prop :=
  z.2.1 = 0 ∧ ((nt = none ∧ z.1 = ((-1000) * fa') - at' ∧ z.2.2.2.2.2.2.2.2.2.2.2.1 = code ∧ z.2.2.2.2.2.2.2.2.2.2.2.2.1 = ca ∧ z.2.2.2.2.2.2.2.2.2.2.2.2.2.1 = cf ∧ z.2.2.2.2.2.2.2.2.2.2.2.2.2.2.1 = ct ∧ z.2.2.2.2.2.2.2.2.2.2.2.2.2.2.2.1 = many ∧ z.2.2.2.2.2.2.2.2.2.2.2.2.2.2.2.2.2.2.2.2.2.2 = sf) ∨
    (∃ (v : kTv) (c : Nat), nt = some v ∧ z.1 = v.1 ∧ TXR lw v z.2.2.2.2.2.2.2.2.2.2.2.1 z.2.2.2.2.2.2.2.2.2.2.2.2.1 z.2.2.2.2.2.2.2.2.2.2.2.2.2.1 z.2.2.2.2.2.2.2.2.2.2.2.2.2.2.1 z.2.2.2.2.2.2.2.2.2.2.2.2.2.2.2.2.2.2.2.2.2.2 s c ∧ outQ s code ca cf ct sf z.2.2.2.2.2.2.2.2.2.2.2.1 z.2.2.2.2.2.2.2.2.2.2.2.2.1 z.2.2.2.2.2.2.2.2.2.2.2.2.2.1 z.2.2.2.2.2.2.2.2.2.2.2.2.2.2.1 z.2.2.2.2.2.2.2.2.2.2.2.2.2.2.2.2.2.2.2.2.2.2 ∧ z.2.2.2.2.2.2.2.2.2.2.2.2.2.2.2.1 = upd many s (nI c)))
set_option maxHeartbeats 4000000 in
theorem write_sim {e s : Nat} {b t : Nat → Int32} {lw lt len at0 us0 fa0 tp pl en bd cl co op stk iso ib : Int32} {wc mid sta code ca cf ct many na nc nf ns nt st sf : Nat → Int32} (he1 : 1 ≤ e) (he : e ≤ 120) (hs : s < 20) (hb : TBy b t) (hlw : (lw = 0 ∧ lt = 107) ∨ (lw = 1 ∧ lt = 104)) :
    Sf (f_X6_writeClauses 200 len at0 us0 fa0 b wc mid sta (nI e) lt) (fun y => ∃ z : R23, f_X12_readsText tp pl en bd cl co op stk iso ib code ca cf ct many na nc nf ns nt st sf t (nI s) (nI e) lw = some z ∧ txZ s lw code ca cf ct sf many y.2.2.2.2.2.2.2 0 y.2.1 y.2.2.2.1 z) := by
  obtain ⟨n, hn⟩ : ∃ n, FU = n + 12 + 1 := ⟨FU - 13, by have := FU_ge; omega⟩
  obtain ⟨n', hn'⟩ : ∃ n, FU = n + 12 + 2 := ⟨FU - 14, by have := FU_ge; omega⟩
  have hmin : jmin (nI e) (Int32.ofNat 200) = nI e := by
    unfold jmin
    rw [if_neg (show ¬ Int32.ofNat 200 < nI e from nI_nlt (a := 200) (b := e) (by omega) (by omega))]
  have h := text_L (K := f_X12_readsText_J86 code ca cf ct many sf (nI s) 0 (nI e)) he hb hlw 12 0 n n' 0 0 0 0 0 iso ib wc mid (upd sta 0 0) na nc nf ns nt st (by omega) (by omega) (by omega) (by rw [upd_s, nI_0]) (fun c hc => absurd hc (by omega))
  rw [← hn, ← hn', nI_0] at h
  rw [f_X6_writeClauses, f_X6_begin, nmI_o, hmin, wrI_o (by decide), cb5_o, show (0 : Int32).toNatClampNeg = 0 by decide]
  have hR : f_X12_readsText tp pl en bd cl co op stk iso ib code ca cf ct many na nc nf ns nt st sf t (nI s) (nI e) lw = f_X12_readsText_L8 t lw (nI e) (f_X12_readsText_J86 code ca cf ct many sf (nI s) 0 (nI e)) FU 1 0 0 0 ib iso 0 0 0 na nc nf ns nt st := by
    rw [f_X12_readsText, f_X12_begins, cb8_o]
  rw [hR]
  refine Sf_mono h (fun y hy => ?_)
  rcases hy with ⟨h1, a, ha, hae, hf, x1, x2, x3, x4, x5, x6, x7, x8, x9, x10, x11, x12, x13, hx⟩ | ⟨c, u', code', mid', sta', x3, x4, x5, x6, x7, na', nc', nf', ns', nt', st', c1, c2, c3, c4, hx, htx⟩
  · have hbl : ¬ (0 : Int32) ≤ badC y.2.2.2.1 a := fun w => by
      have := leI w
      have z : (0 : Int32).toInt = 0 := by decide
      have h2 := Sf_det (P := fun y => y.toInt < 0) (wrongs_n y.2.2.2.1 a) (wrongs_s 0 y.2.2.2.1 (nI a) hf.1 hf.2 (by rw [nI_toInt (by omega)]; omega) (by rw [nI_toInt (by omega)]; omega))
      omega
    rw [f_X12_readsText_J86, if_neg hbl] at hx
    refine ⟨_, hx, rfl, Or.inl ⟨h1, ?_, rfl, rfl, rfl, rfl, rfl, rfl⟩⟩
    show badC y.2.2.2.1 a = _
    rw [ha]; rfl
  · rw [f_X12_readsText_J86, if_pos (by decide)] at hx
    obtain ⟨⟨y1, y2, y3, y4, y5, y6⟩, hk, k1, k2, k3, k4, k5⟩ := keeps_n (na := na') (nc := nc') (nf := nf') (ns := ns') (nt := nt') (code := code) (ca := ca) (cf := cf) (ct := ct) (sf := sf) (many := many) hs c3 c2
    rw [hk, cb6_o] at hx
    have k1 : ∀ j, j < u' → y1 (120 * s + j) = nc' j ∧ y2 (120 * s + j) = na' j := k1
    have k3 : ∀ j, j < c → y6 (12 * s + j) = nI (120 * s) + ns' j ∧ y3 (12 * s + j) = nI (120 * s) + nf' j ∧ y4 (12 * s + j) = nI (120 * s) + nt' j := k3
    refine ⟨_, hx, rfl, Or.inr ⟨_, c, c4, rfl, ⟨rfl, c1, c2, c3, rfl, rfl, fun x hxc => ?_⟩, ⟨k2, k4⟩, k5⟩⟩
    obtain ⟨a, L1, L2, t1, t2, t3, t4, t5, t6, t7, t8, g, gb, gC, gR⟩ := htx x hxc
    obtain ⟨p1, p2, p3⟩ := k3 x hxc
    refine ⟨a, L1, L2, t1, t2, t3, t7, ?_, ?_, ?_, fun hl => ?_, g, gb, gC, RR_congr gR (fun i hi => k1 _ (by omega))⟩
    · show y6 (12 * s + x) = _
      rw [p1, t4, nI_add]
    · show y3 (12 * s + x) = _
      rw [p2, t5, nI_add]
    · show y4 (12 * s + x) = _
      rw [p3, t6, nI_add]
    · obtain ⟨f, fC, fR⟩ := t8 hl
      exact ⟨f, fC, RR_congr fR (fun i hi => k1 _ (by omega))⟩
end
section
/-! every text, held alike -/
def TXE (v : kTv) (code ca cf ct sf : Nat → Int32) (s c : Nat) : Prop := v.1 = nI c ∧ c = 1 ∧ ∃ L : Nat, L ≤ 120 ∧ v.2.1.1 = L ∧ v.2.2.1.1 = 2 ∧ v.2.2.2.1 = 1 ∧ v.2.2.1.2 0 = nI 0 ∧ v.2.2.2.2 0 = nI L ∧ v.2.2.1.2 1 = nI L ∧ sf (12 * s) = nI (120 * s) ∧ cf (12 * s) = nI (120 * s + L) ∧ ct (12 * s) = nI (120 * s + L) ∧ ∃ f : Sem, CR v.2.1.2 0 L 16 f ∧ RR (fun j => code (120 * s + j)) (fun j => ca (120 * s + j)) 0 L f
def TXV (v : kTv) (code ca cf ct sf : Nat → Int32) (s c : Nat) : Prop := (s < 10 ∧ TXR 1 v code ca cf ct sf s c) ∨ (10 ≤ s ∧ s < 14 ∧ TXR 0 v code ca cf ct sf s c) ∨ (14 ≤ s ∧ TXE v code ca cf ct sf s c)
def TX (G : kG) (code ca cf ct sf many : Nat → Int32) : Prop := ∀ s, s < 20 → (G.2 s = none ∧ many s = 0) ∨ ∃ (x : kTx) (c : Nat), G.2 s = some x ∧ many s = nI c ∧ TXV x.2 code ca cf ct sf s c
section T3
variable {v : kTv} {code ca cf ct sf code' ca' cf' ct' sf' many : Nat → Int32} {s s' c : Nat} {G : kG}
theorem TXR_out {lw : Int32} (h : TXR lw v code ca cf ct sf s c) (hs : ¬ s = s') (ho : outQ s' code ca cf ct sf code' ca' cf' ct' sf') : TXR lw v code' ca' cf' ct' sf' s c := by
  obtain ⟨h1, h2, h3, h4, h5, h6, h7⟩ := h
  obtain ⟨o1, o2⟩ := ho
  refine ⟨h1, h2, h3, h4, h5, h6, fun x hx => ?_⟩
  obtain ⟨a, L1, L2, g1, g2, g3, g4, g5, g6, g7, g8, g, gb, gC, gR⟩ := h7 x hx
  obtain ⟨e1, e2, e3⟩ := o2 (12 * s + x) (by omega)
  refine ⟨a, L1, L2, g1, g2, g3, g4, e1.trans g5, e2.trans g6, e3.trans g7, fun hl => ?_, g, gb, gC, RR_congr gR (fun i hi => o1 (120 * s + (a + L1 + i)) (by omega))⟩
  obtain ⟨f, fC, fR⟩ := g8 hl
  exact ⟨f, fC, RR_congr fR (fun i hi => o1 (120 * s + (a + i)) (by omega))⟩
theorem TXE_out (h : TXE v code ca cf ct sf s c) (hs : ¬ s = s') (ho : outQ s' code ca cf ct sf code' ca' cf' ct' sf') : TXE v code' ca' cf' ct' sf' s c := by
  obtain ⟨h1, h2, L, g1, g2, g3, g4, g5, g6, g7, g8, g9, g10, f, fC, fR⟩ := h
  obtain ⟨o1, o2⟩ := ho
  obtain ⟨e1, e2, e3⟩ := o2 (12 * s) (by omega)
  exact ⟨h1, h2, L, g1, g2, g3, g4, g5, g6, g7, e1.trans g8, e2.trans g9, e3.trans g10, f, fC, RR_congr fR (fun i hi => o1 (120 * s + (0 + i)) (by omega))⟩
theorem TXV_out (h : TXV v code ca cf ct sf s c) (hs : ¬ s = s') (ho : outQ s' code ca cf ct sf code' ca' cf' ct' sf') : TXV v code' ca' cf' ct' sf' s c := by
  rcases h with ⟨h1, h2⟩ | ⟨h1, h2, h3⟩ | ⟨h1, h2⟩
  · exact Or.inl ⟨h1, TXR_out h2 hs ho⟩
  · exact Or.inr (Or.inl ⟨h1, h2, TXR_out h3 hs ho⟩)
  · exact Or.inr (Or.inr ⟨h1, TXE_out h2 hs ho⟩)
theorem TX_new (h : TX G code ca cf ct sf many) (ta : Nat × Nat × Nat × Nat) (hv : TXV v code' ca' cf' ct' sf' s c) (ho : outQ s code ca cf ct sf code' ca' cf' ct' sf') : TX (kuT G s (ta, v)) code' ca' cf' ct' sf' (upd many s (nI c)) := by
  intro s2 hs2
  by_cases d : s2 = s
  · subst d
    refine Or.inr ⟨(ta, v), c, ?_, upd_s _ _ _, hv⟩
    show (if s2 = s2 then some (ta, v) else G.2 s2) = _
    rw [if_pos rfl]
  · have e : (kuT G s (ta, v)).2 s2 = G.2 s2 := by
      show (if s2 = s then some (ta, v) else G.2 s2) = _
      rw [if_neg d]
    rw [e, upd_n d]
    rcases h s2 hs2 with h | ⟨x, c2, h1, h2, h3⟩
    · exact Or.inl h
    · exact Or.inr ⟨x, c2, h1, h2, TXV_out h3 d ho⟩
end T3
abbrev zTX (G : kG) (z : R23) : Prop := TX G z.2.2.2.2.2.2.2.2.2.2.2.1 z.2.2.2.2.2.2.2.2.2.2.2.2.1 z.2.2.2.2.2.2.2.2.2.2.2.2.2.1 z.2.2.2.2.2.2.2.2.2.2.2.2.2.2.1 z.2.2.2.2.2.2.2.2.2.2.2.2.2.2.2.2.2.2.2.2.2.2 z.2.2.2.2.2.2.2.2.2.2.2.2.2.2.2.1
theorem txZ_none {s : Nat} {lw at' fa' : Int32} {G : kG} {code ca cf ct sf many : Nat → Int32} {z : R23} (h : txZ s lw code ca cf ct sf many none 0 at' fa' z) (hT : TX G code ca cf ct sf many) : ((-1000) * fa') - at' = z.1 ∧ zTX G z := by
  obtain ⟨-, h | ⟨v, c, h, -⟩⟩ := h
  · obtain ⟨-, h1, h2, h3, h4, h5, h6, h7⟩ := h
    refine ⟨h1.symm, ?_⟩
    unfold zTX
    rw [h2, h3, h4, h5, h6, h7]
    exact hT
  · cases h
theorem txZ_some {s : Nat} {lw at' fa' : Int32} {G : kG} {code ca cf ct sf many : Nat → Int32} {z : R23} {v : kTv} (h : txZ s lw code ca cf ct sf many (some v) 0 at' fa' z) (hT : TX G code ca cf ct sf many) (hs : (s < 10 ∧ lw = 1) ∨ (10 ≤ s ∧ s < 14 ∧ lw = 0)) (ta : Nat × Nat × Nat × Nat) : v.1 = z.1 ∧ zTX (kuT G s (ta, v)) z := by
  obtain ⟨-, h | ⟨v2, c, h, h1, h2, h3, h4⟩⟩ := h
  · cases h.1
  · cases h
    refine ⟨h1.symm, ?_⟩
    unfold zTX
    rw [h4]
    refine TX_new hT ta ?_ h3
    rcases hs with ⟨g1, g2⟩ | ⟨g1, g2, g3⟩
    · subst g2; exact Or.inl ⟨g1, h2⟩
    · subst g3; exact Or.inr (Or.inl ⟨g1, g2, h2⟩)
section T4
variable {G : kG} {day len at0 us0 fa0 sky tl p1 p2 pl en bd cl co op stk iso ib : Int32} {wc mid sta b t code ca cf ct many na nc nf ns nt st sf : Nat → Int32}
set_option maxHeartbeats 4000000 in
theorem law_sim (hk0 : 0 ≤ sky.toInt) (hk1 : sky.toInt ≤ 10) (hG : ∀ i : Nat, (i : Int) < sky.toInt → ∃ s, G.1 i = some s) (hb : TBy b t) (hT : TX G code ca cf ct sf many) :
    Sf (f_X11_law G day len at0 us0 fa0 sky tl wc mid sta b p1 p2) (fun y => Sf (f_X12_law tl sky pl en bd cl co op stk iso ib code ca cf ct many na nc nf ns nt st sf t p1 p2) (fun z => y.1 = z.1 ∧ ∀ G', kGT G y.2.2.2.2.2.2.2.2.2.2 G' → zTX G' z)) := by
  have z0' : (0 : Int32).toInt = 0 := by decide
  have z120 : (120 : Int32).toInt = 120 := by decide
  obtain ⟨ri, hri, hrp⟩ := e_X12_isSource sky p1 hk0 hk1
  obtain ⟨rt, hrt, hrq⟩ := e_X12_canRead tl p2 120
  have hno : (ri = 0 ∨ rt = 0) → Sf (f_X12_law tl sky pl en bd cl co op stk iso ib code ca cf ct many na nc nf ns nt st sf t p1 p2) (fun z => (-1 : Int32) = z.1 ∧ ∀ G', kGT G none G' → zTX G' z) := by
    intro h
    rw [f_X12_law, hri, cb1_o]
    by_cases c : ri = 0
    · rw [if_pos c]
      exact Sf_some ⟨rfl, fun G' hG' => by have e : G' = G := hG'; rw [e]; exact hT⟩
    · rw [if_neg c, hrt, cb1_o, if_pos (h.resolve_left c)]
      exact Sf_some ⟨rfl, fun G' hG' => by have e : G' = G := hG'; rw [e]; exact hT⟩
  have hyes : ¬ ri = 0 → ¬ rt = 0 → ∀ z, f_X12_readsText tl pl en bd cl co op stk iso ib code ca cf ct many na nc nf ns nt st sf t (0 + p1) p2 1 = some z → f_X12_law tl sky pl en bd cl co op stk iso ib code ca cf ct many na nc nf ns nt st sf t p1 p2 = some z := by
    intro h1 h2 z hz
    obtain ⟨w1, w2, w3, w4, w5, w6, w7, w8, w9, w10, w11, w12, w13, w14, w15, w16, w17, w18, w19, w20, w21, w22, w23⟩ := z
    rw [f_X12_law, hri, cb1_o, if_neg h1, hrt, cb1_o, if_neg h2, hz]
    rfl
  rw [f_X11_law]
  refine Sf_cb1 (e_X7_sourceAt G sky p1 hk0 hk1) (fun r hr => ?_)
  refine Sf_oS (fun i hi => ?_) (fun h => ?_) (fun i s0 hi hi10 hs => ?_)
  · rcases hr with h | h
    · rw [h.2.2] at hi
      cases hi
      have := tN p1 h.1
      omega
    · rw [h.1] at hi; cases hi
  · refine Sf_some (hno (Or.inl ?_))
    rcases hr with h' | h'
    · exfalso
      rcases h with h | ⟨i, hi, hn⟩
      · rw [h'.2.2] at h; cases h
      · rw [h'.2.2] at hi
        cases hi
        have := tN p1 h'.1
        obtain ⟨s, hs⟩ := hG p1.toNatClampNeg (by omega)
        rw [hs] at hn
        cases hn
    · have := hrp.2
      exact i32_eq (by omega)
  · have hr1 : 0 ≤ p1.toInt ∧ p1.toInt < sky.toInt ∧ i = p1.toNatClampNeg := by
      rcases hr with h | h
      · rw [h.2.2] at hi; cases hi; exact ⟨h.1, h.2.1, rfl⟩
      · rw [h.1] at hi; cases hi
    obtain ⟨a1, a2, a3⟩ := hr1
    subst a3
    have hti := tN p1 a1
    have hp1 : p1 = nI p1.toNatClampNeg := i32_eq (by rw [nI_toInt (by omega)]; omega)
    generalize p1.toNatClampNeg = s at *
    have hri0 : ¬ ri = 0 := fun w => by have := eqI w; have := hrp.2; omega
    refine Sf_cb1 (e_X11_tapeHas tl p2 120) (fun r2 hr2 => ?_)
    have hr2 := hr2.2
    have hrq := hrq.2
    refine Sf_ite (fun g => Sf_some (hno (Or.inr ?_))) (fun g => ?_)
    · have := eqI g
      exact i32_eq (by omega)
    have g := neI g
    have hp : 1 ≤ p2.toInt ∧ p2.toInt ≤ 120 := by omega
    have hrt0 : ¬ rt = 0 := fun w => by have := eqI w; omega
    have hte := tN p2 (by omega)
    have hp2 : p2 = nI p2.toNatClampNeg := i32_eq (by rw [nI_toInt (by omega)]; omega)
    generalize p2.toNatClampNeg = e at *
    subst hp1
    subst hp2
    refine Sf_cb8 (write_sim (e := e) (s := s) (b := b) (t := t) (lw := 1) (lt := 104) (tp := tl) (pl := pl) (en := en) (bd := bd) (cl := cl) (co := co) (op := op) (stk := stk) (iso := iso) (ib := ib) (code := code) (ca := ca) (cf := cf) (ct := ct) (many := many) (na := na) (nc := nc) (nf := nf) (ns := ns) (nt := nt) (st := st) (sf := sf) (by omega) (by omega) (by omega) hb (Or.inr ⟨rfl, rfl⟩)) (fun b1 b2 b3 b4 b5 b6 b7 b8 hq => ?_)
    obtain ⟨z, hz, hz2⟩ := hq
    have hz2 : txZ s 1 code ca cf ct sf many b8 0 b2 b4 z := hz2
    have hZ := hyes hri0 hrt0 z (by rw [show (0 : Int32) + nI s = nI s by rw [show (0 : Int32) = nI 0 from nI_0.symm, nI_add, Nat.zero_add]]; exact hz)
    refine Sf_oN (fun hn => ?_) (fun v hn => ?_)
    · subst hn
      rw [f_X9_clear, cb1_o, f_X6_faultCode, cb1_o]
      obtain ⟨y1, y2⟩ := txZ_none hz2 hT
      exact Sf_some ⟨z, hZ, y1, fun G' hG' => by have e : G' = G := hG'; rw [e]; exact y2⟩
    · subst hn
      rw [f_X9_clear, cb1_o, f_X4_forget, cb1_o]
      refine Sf_some ⟨z, hZ, (txZ_some hz2 hT (Or.inl ⟨by omega, rfl⟩) (0, 0, 0, 0)).1, fun G' hG' => ?_⟩
      obtain ⟨ta, e⟩ : ∃ ta : Nat × Nat × Nat × Nat, G' = kuT G s (ta, v) := hG'
      rw [e]
      exact (txZ_some hz2 hT (Or.inl ⟨by omega, rfl⟩) ta).2
set_option maxHeartbeats 4000000 in
theorem way_sim {rdr : Int32} (hb : TBy b t) (hT : TX G code ca cf ct sf many) :
    Sf (f_X11_way G rdr len at0 us0 fa0 tl wc mid sta b p1 p2) (fun y => Sf (f_X12_way tl pl en bd cl co op stk iso ib code ca cf ct many na nc nf ns nt st sf t p1 p2) (fun z => y.1 = z.1 ∧ ∀ G', kGT G y.2.2.2.2.2.2.2.2.2.2 G' → zTX G' z)) := by
  have z0' : (0 : Int32).toInt = 0 := by decide
  have z120 : (120 : Int32).toInt = 120 := by decide
  obtain ⟨ri, hri, hrp⟩ := s_X12_isReader p1
  obtain ⟨rt, hrt, hrq⟩ := e_X12_canRead tl p2 120
  have hrp := hrp.2
  have hrq := hrq.2
  have hno : (ri = 0 ∨ rt = 0) → Sf (f_X12_way tl pl en bd cl co op stk iso ib code ca cf ct many na nc nf ns nt st sf t p1 p2) (fun z => (-1 : Int32) = z.1 ∧ ∀ G', kGT G none G' → zTX G' z) := by
    intro h
    rw [f_X12_way, hri, cb1_o]
    by_cases c : ri = 0
    · rw [if_pos c]
      exact Sf_some ⟨rfl, fun G' hG' => by have e : G' = G := hG'; rw [e]; exact hT⟩
    · rw [if_neg c, hrt, cb1_o, if_pos (h.resolve_left c)]
      exact Sf_some ⟨rfl, fun G' hG' => by have e : G' = G := hG'; rw [e]; exact hT⟩
  have hyes : ¬ ri = 0 → ¬ rt = 0 → ∀ z, f_X12_readsText tl pl en bd cl co op stk iso ib code ca cf ct many na nc nf ns nt st sf t (10 + p1) p2 0 = some z → f_X12_way tl pl en bd cl co op stk iso ib code ca cf ct many na nc nf ns nt st sf t p1 p2 = some z := by
    intro h1 h2 z hz
    obtain ⟨w1, w2, w3, w4, w5, w6, w7, w8, w9, w10, w11, w12, w13, w14, w15, w16, w17, w18, w19, w20, w21, w22, w23⟩ := z
    rw [f_X12_way, hri, cb1_o, if_neg h1, hrt, cb1_o, if_neg h2, hz]
    rfl
  rw [f_X11_way]
  refine Sf_cb1 (s_X11_isReader p1) (fun r hr => ?_)
  have hr := hr.2
  refine Sf_ite (fun g => Sf_some (hno (Or.inl ?_))) (fun g => ?_)
  · have := eqI g
    exact i32_eq (by omega)
  have g := neI g
  have hp : 0 ≤ p1.toInt ∧ p1.toInt ≤ 3 := by omega
  have hri0 : ¬ ri = 0 := fun w => by have := eqI w; omega
  have hti := tN p1 hp.1
  have hp1 : p1 = nI p1.toNatClampNeg := i32_eq (by rw [nI_toInt (by omega)]; omega)
  generalize p1.toNatClampNeg = s at *
  refine Sf_cb1 (e_X11_tapeHas tl p2 120) (fun r2 hr2 => ?_)
  have hr2 := hr2.2
  refine Sf_ite (fun g2 => Sf_some (hno (Or.inr ?_))) (fun g2 => ?_)
  · have := eqI g2
    exact i32_eq (by omega)
  have g2 := neI g2
  have hq2 : 1 ≤ p2.toInt ∧ p2.toInt ≤ 120 := by omega
  have hrt0 : ¬ rt = 0 := fun w => by have := eqI w; omega
  have hte := tN p2 (by omega)
  have hp2 : p2 = nI p2.toNatClampNeg := i32_eq (by rw [nI_toInt (by omega)]; omega)
  generalize p2.toNatClampNeg = e at *
  subst hp1
  subst hp2
  refine Sf_cb8 (write_sim (e := e) (s := 10 + s) (b := b) (t := t) (lw := 0) (lt := 107) (tp := tl) (pl := pl) (en := en) (bd := bd) (cl := cl) (co := co) (op := op) (stk := stk) (iso := iso) (ib := ib) (code := code) (ca := ca) (cf := cf) (ct := ct) (many := many) (na := na) (nc := nc) (nf := nf) (ns := ns) (nt := nt) (st := st) (sf := sf) (by omega) (by omega) (by omega) hb (Or.inl ⟨rfl, rfl⟩)) (fun b1 b2 b3 b4 b5 b6 b7 b8 hq => ?_)
  obtain ⟨z, hz, hz2⟩ := hq
  have hz2 : txZ (10 + s) 0 code ca cf ct sf many b8 0 b2 b4 z := hz2
  have hZ := hyes hri0 hrt0 z (by rw [show (10 : Int32) + nI s = nI (10 + s) by rw [show (10 : Int32) = nI 10 from rfl, nI_add]]; exact hz)
  refine Sf_oN (fun hn => ?_) (fun v hn => ?_)
  · subst hn
    rw [f_X9_clear, cb1_o, f_X6_faultCode, cb1_o]
    obtain ⟨y1, y2⟩ := txZ_none hz2 hT
    exact Sf_some ⟨z, hZ, y1, fun G' hG' => by have e : G' = G := hG'; rw [e]; exact y2⟩
  · subst hn
    rw [f_X9_clear, cb1_o]
    refine Sf_cb1 (s_X4_forgetReader rdr (nI s)) (fun r3 _ => ?_)
    rw [gdN_o (jin_n (by omega) (by omega))]
    refine Sf_some ⟨z, hZ, (txZ_some hz2 hT (Or.inr ⟨by omega, by omega, rfl⟩) (0, 0, 0, 0)).1, fun G' hG' => ?_⟩
    obtain ⟨ta, e⟩ : ∃ ta : Nat × Nat × Nat × Nat, G' = kuT G (10 + s) (ta, v) := hG'
    rw [e]
    exact (txZ_some hz2 hT (Or.inr ⟨by omega, by omega, rfl⟩) ta).2
end T4
end
section
theorem bd_16 : bd 2 0 ≤ 16 := by unfold bd; omega
/-! a story, read by both -/
abbrev R22 : Type := Int32 × Int32 × Int32 × Int32 × Int32 × Int32 × Int32 × Int32 × Int32 × Int32 × (Nat → Int32) × (Nat → Int32) × (Nat → Int32) × (Nat → Int32) × (Nat → Int32) × (Nat → Int32) × (Nat → Int32) × (Nat → Int32) × (Nat → Int32) × (Nat → Int32) × (Nat → Int32) × (Nat → Int32)
abbrev yTX (G : kG) (z : R22) : Prop := TX G z.2.2.2.2.2.2.2.2.2.2.1 z.2.2.2.2.2.2.2.2.2.2.2.1 z.2.2.2.2.2.2.2.2.2.2.2.2.1 z.2.2.2.2.2.2.2.2.2.2.2.2.2.1 z.2.2.2.2.2.2.2.2.2.2.2.2.2.2.2.2.2.2.2.2.2 z.2.2.2.2.2.2.2.2.2.2.2.2.2.2.1
section T5
variable {G : kG} {len at0 us0 fa0 tl p1 p2 pl en bd cl co op stk ib a1 a2 a3 a4 a6 a7 a8 : Int32} {wc mid sta b t code ca cf ct many na nc nf ns nt st sf : Nat → Int32}
theorem story_bad {d k : Int32} (hd : ¬ (0 : Int32) ≤ d) (hT : TX G code ca cf ct sf many) : Sf (f_X12_story_J55 code ca cf ct many nf ns nt sf p1 a1 a2 a3 a4 k a6 a7 a8 na nc st d) (fun z => d = z.1 ∧ yTX G z) := by
  rw [f_X12_story_J55, if_neg hd]
  exact Sf_some ⟨rfl, hT⟩
set_option maxHeartbeats 4000000 in
theorem story_good {L k : Nat} {f : Sem} {code' : Nat → Int32} {v : kTv} (hk : k < 6) (hL : L ≤ 120) (hv : v = (nI 1, (L, code'), (2, upd (upd sta 0 0) 1 (nI L)), (1, upd mid 0 (nI L)))) (hC : CR code' 0 L 16 f) (hR : RR nc na 0 L f) (hT : TX G code ca cf ct sf many) :
    Sf (f_X12_story_J55 code ca cf ct many nf ns nt sf (nI k) a1 a2 a3 a4 (nI L) a6 a7 a8 na nc st 0) (fun z => v.1 = z.1 ∧ ∀ ta : Nat × Nat × Nat × Nat, yTX (kuT G (14 + k) (ta, v)) z) := by
  have h14 : (14 : Int32) + nI k = nI (14 + k) := by rw [show (14 : Int32) = nI 14 from rfl, nI_add]
  have zn : (0 : Int32).toNatClampNeg = 0 := by decide
  rw [f_X12_story_J55, if_pos (by decide), wrI_o (by decide), wrI_o (by decide), wrI_o (by decide), h14, zn]
  refine Sf_cb6 (keeps_n (c := 1) (k := L) (s := 14 + k) (by omega) hL (by omega)) (fun y1 y2 y3 y4 y5 y6 hq => ?_)
  obtain ⟨k1, k2', k3, k4, k5⟩ := hq
  have k1 : ∀ j, j < L → y1 (120 * (14 + k) + j) = nc j ∧ y2 (120 * (14 + k) + j) = na j := k1
  have k3 : y6 (12 * (14 + k)) = nI (120 * (14 + k)) + 0 ∧ y3 (12 * (14 + k)) = nI (120 * (14 + k)) + nI L ∧ y4 (12 * (14 + k)) = nI (120 * (14 + k)) + nI L := by
    have h := k3 0 (by omega)
    rw [upd_s, upd_s, upd_s] at h
    exact h
  have k5 : y5 = upd many (14 + k) (nI 1) := k5
  subst hv
  refine Sf_some ⟨rfl, fun ta => ?_⟩
  show TX (kuT G (14 + k) (ta, _)) y1 y2 y3 y4 y6 y5
  rw [k5]
  refine TX_new hT ta (Or.inr (Or.inr ⟨by omega, rfl, rfl, L, hL, rfl, rfl, rfl, ?_, ?_, ?_, ?_, ?_, ?_, f, hC, ?_⟩)) ⟨k2', k4⟩
  · show upd (upd sta 0 0) 1 (nI L) 0 = _
    rw [upd_n (by omega), upd_s, nI_0]
  · exact upd_s mid 0 (nI L)
  · exact upd_s (upd sta 0 0) 1 (nI L)
  · rw [k3.1, show (0 : Int32) = nI 0 from nI_0.symm, nI_add, Nat.add_zero]
  · rw [k3.2.1, nI_add]
  · rw [k3.2.2, nI_add]
  · exact RR_congr hR (fun i hi => k1 (0 + i) (by omega))
set_option maxHeartbeats 4000000 in
theorem story_sim (hb : TBy b t) (hT : TX G code ca cf ct sf many) :
    Sf (f_X11_story G len at0 us0 fa0 tl wc mid sta b p1 p2) (fun y => Sf (f_X12_story tl pl en bd cl co op stk ib code ca cf ct many na nc nf ns nt st sf t p1 p2) (fun z => y.1 = z.1 ∧ ∀ G', kGT G y.2.2.2.2.2.2.2.2.2 G' → yTX G' z)) := by
  have z0' : (0 : Int32).toInt = 0 := by decide
  have z60 : (60 : Int32).toInt = 60 := by decide
  obtain ⟨ri, hri, hrp⟩ := s_X12_isTale p1
  obtain ⟨rt, hrt, hrq⟩ := e_X12_canRead tl p2 60
  have hrp := hrp.2
  have hrq := hrq.2
  have hno : (ri = 0 ∨ rt = 0) → Sf (f_X12_story tl pl en bd cl co op stk ib code ca cf ct many na nc nf ns nt st sf t p1 p2) (fun z => (-1 : Int32) = z.1 ∧ ∀ G', kGT G none G' → yTX G' z) := by
    intro h
    rw [f_X12_story, hri, cb1_o]
    by_cases c : ri = 0
    · rw [if_pos c]
      exact Sf_some ⟨rfl, fun G' hG' => by have e : G' = G := hG'; rw [e]; exact hT⟩
    · rw [if_neg c, hrt, cb1_o, if_pos (h.resolve_left c)]
      exact Sf_some ⟨rfl, fun G' hG' => by have e : G' = G := hG'; rw [e]; exact hT⟩
  have hyes : ¬ ri = 0 → ¬ rt = 0 → f_X12_story tl pl en bd cl co op stk ib code ca cf ct many na nc nf ns nt st sf t p1 p2 = cb9 (f_X12_value 0 p2 0 0 0 0 ib na nc st t) (fun p3 d3 k3 o3 m3 ib3 na3 nc3 st3 => cb1 (f_X12_isGood d3) fun g => if g = 0 then f_X12_story_J55 code ca cf ct many nf ns nt sf p1 0 p2 0 p3 k3 o3 m3 ib3 na3 nc3 st3 d3 else if p2 ≤ p3 then f_X12_story_J55 code ca cf ct many nf ns nt sf p1 0 p2 0 p3 k3 o3 m3 ib3 na3 nc3 st3 d3 else cb1 (f_X12_wrongs d3 1 p3) fun d4 => f_X12_story_J55 code ca cf ct many nf ns nt sf p1 0 p2 0 p3 k3 o3 m3 ib3 na3 nc3 st3 d4) := by
    intro h1 h2
    rw [f_X12_story, hri, cb1_o, if_neg h1, hrt, cb1_o, if_neg h2, f_X12_begins, cb8_o]
  rw [f_X11_story]
  refine Sf_cb1 (s_X11_isStory p1) (fun r hr => ?_)
  have hr := hr.2
  refine Sf_ite (fun g => Sf_some (hno (Or.inl ?_))) (fun g => ?_)
  · have := eqI g
    exact i32_eq (by omega)
  have g := neI g
  have hp : 0 ≤ p1.toInt ∧ p1.toInt ≤ 5 := by omega
  have hri0 : ¬ ri = 0 := fun w => by have := eqI w; omega
  have hti := tN p1 hp.1
  have hp1 : p1 = nI p1.toNatClampNeg := i32_eq (by rw [nI_toInt (by omega)]; omega)
  generalize p1.toNatClampNeg = s at *
  refine Sf_cb1 (e_X11_tapeHas tl p2 60) (fun r2 hr2 => ?_)
  have hr2 := hr2.2
  refine Sf_ite (fun g2 => Sf_some (hno (Or.inr ?_))) (fun g2 => ?_)
  · have := eqI g2
    exact i32_eq (by omega)
  have g2 := neI g2
  have hq2 : 1 ≤ p2.toInt ∧ p2.toInt ≤ 60 := by omega
  have hrt0 : ¬ rt = 0 := fun w => by have := eqI w; omega
  have hte := tN p2 (by omega)
  have hp2 : p2 = nI p2.toNatClampNeg := i32_eq (by rw [nI_toInt (by omega)]; omega)
  generalize p2.toNatClampNeg = e at *
  subst hp1
  subst hp2
  have hR := hyes hri0 hrt0
  have he : e ≤ 120 := by omega
  have hmin : jmin (nI e) (Int32.ofNat 200) = nI e := by
    unfold jmin
    rw [if_neg (show ¬ Int32.ofNat 200 < nI e from nI_nlt (a := 200) (b := e) (by omega) (by omega))]
  have hE := (simE (b := b) he hb 100 0 (by omega)).2.2.2.2 (by omega) 0 0 0 0 0 wc na nc st (by omega) (by omega) (by omega) (by show ¬ isA (tpN st 0); rw [tpN_0]; unfold isA; decide)
  have hE : Sf (f_X6_rowStands 200 (nI e) 0 0 0 b wc 2 0) (ePost e t 2 wc 0 0 0 0 0 na nc st) := hE
  obtain ⟨⟨r3, a', u', f', code'⟩, hrow, hpost⟩ := hE
  have hW : ∀ q, (if r3 = 0 then some (nI e, a', u', f', code', mid, upd sta 0 0, none) else if nI e ≤ a' then (wrI mid 12 0 u' fun g1 => wrI (upd sta 0 0) 13 1 u' fun g2 => cb1 (f_X6_written u' code' g1 g2 1) fun n => some (nI e, a', u', f', code', g1, g2, n)) else cb2 (f_X6_fail f' 1) fun _ f2 => some (nI e, a', u', f2, code', mid, upd sta 0 0, none)) = some q → f_X6_writeExpression 200 len at0 us0 fa0 b wc mid sta (nI e) = some q := by
    intro q hq
    rw [f_X6_writeExpression, f_X6_begin, nmI_o, hmin, wrI_o (by decide), cb5_o, show (0 : Int32).toNatClampNeg = 0 by decide, hrow, cb5_o]
    exact hq
  have neg : ∀ (f : Int32) (a : Nat), 1 ≤ f.toInt → f.toInt ≤ 9 → a ≤ e → ¬ (0 : Int32) ≤ badC f a := fun f a h1 h2 h3 w => by
    have := leI w
    have h4 := Sf_det (P := fun y => y.toInt < 0) (wrongs_n f a) (wrongs_s 0 f (nI a) h1 h2 (by rw [nI_toInt (by omega)]; omega) (by rw [nI_toInt (by omega)]; omega))
    omega
  have fin0 : ∀ (f : Int32) (a : Nat) (x1 x2 : Int32) (x3 x4 x5 : Nat → Int32), Sf (f_X12_story tl pl en bd cl co op stk ib code ca cf ct many na nc nf ns nt st sf t (nI s) (nI e)) (fun z => badC f a = z.1 ∧ yTX G z) → f_X6_writeExpression 200 len at0 us0 fa0 b wc mid sta (nI e) = some (x1, nI a, x2, f, x3, x4, x5, none) → Sf (cb8 (f_X6_writeExpression 200 len at0 us0 fa0 b wc mid sta (nI e)) fun o1 o2 o3 o4 o5 o6 o7 n8 => oN n8 (cb1 (f_X9_clear tl) fun l => cb1 (f_X6_faultCode o2 o4) fun q => some (q, o1, o2, o3, o4, l, o5, o6, o7, none)) fun v => (cb1 (f_X9_clear tl) fun l => gdN 6 (nI s) <| some (v.1, o1, o2, o3, o4, l, o5, o6, o7, some (14 + s, v)))) (fun y => Sf (f_X12_story tl pl en bd cl co op stk ib code ca cf ct many na nc nf ns nt st sf t (nI s) (nI e)) (fun z => y.1 = z.1 ∧ ∀ G', kGT G y.2.2.2.2.2.2.2.2.2 G' → yTX G' z)) := by
    intro f a x1 x2 x3 x4 x5 hS hX
    rw [hX, cb8_o]
    refine Sf_oN (fun _ => ?_) (fun v hn => by cases hn)
    rw [f_X9_clear, cb1_o, f_X6_faultCode, cb1_o]
    refine Sf_some (Sf_mono hS (fun z hz => ⟨hz.1, fun G' hG' => ?_⟩))
    have e : G' = G := hG'
    rw [e]; exact hz.2
  have badS : ∀ (f : Int32) (a : Nat), 1 ≤ f.toInt → f.toInt ≤ 9 → a ≤ e → (∃ (w1 w3 w4 w5 w6 : Int32) (w7 w8 w9 : Nat → Int32), f_X12_value 0 (nI e) 0 0 0 0 ib na nc st t = some (w1, badC f a, w3, w4, w5, w6, w7, w8, w9)) → Sf (f_X12_story tl pl en bd cl co op stk ib code ca cf ct many na nc nf ns nt st sf t (nI s) (nI e)) (fun z => badC f a = z.1 ∧ yTX G z) := by
    intro f a h1 h2 h3 hx
    obtain ⟨w1, w3, w4, w5, w6, w7, w8, w9, hx⟩ := hx
    rw [hR, hx, cb9_o, isGood_n (badC_ne h1 h2 (by omega)), cb1_o, if_pos rfl]
    exact story_bad (neg f a h1 h2 h3) hT
  rcases hpost with ⟨r0, a, ea, hae, hf, hv⟩ | ⟨r1, a, k1, j1, na1, nc1, st1, ea, q1, q2, q3, q4, q5, q6, q7, q8, q9, q10, ⟨f, fC, fR⟩, q12⟩
  · have r0' : r3 = 0 := r0
    have ea' : a' = nI a := ea
    refine fin0 f' a (nI e) u' code' mid (upd sta 0 0) (badS f' a hf.1 hf.2 hae (val_bad ib he hv)) (hW _ ?_)
    rw [if_pos r0', ea']
  · have r1' : r3 = 1 := r1
    have ea' : a' = nI a := ea
    have q8' : u' = nI (0 + (k1 + j1 - 0)) := q8
    rw [Nat.sub_zero, Nat.zero_add] at q8'
    have fC' : CR code' 0 (k1 + j1) 16 f := CR_mono fC bd_16
    have fR' : RR (emC st1 0 j1 nc1 k1) (emC z0 0 j1 na1 k1) 0 (k1 + j1) f := fR
    have hpd : j1 ≤ 2 ∧ ∀ i, i < j1 → isA (st1 (0 + i)) := by
      rcases q7 with h | h | h
      · exact absurd h.1 (by omega)
      · exact absurd h.1 (by omega)
      · exact h.2
    have hV := val_run ib he q2 q5 (q12.2 rfl) (by rw [tpN_0]; unfold isA; decide) (by rw [tpN_0]; decide) hpd.2 (by omega) (by omega)
    have hV1 : ¬ hN t e a = 93 → f_X12_value 0 (nI e) 0 0 0 0 ib na nc st t = some (nI a, 0, nI (k1 + j1), nI 0, nI 0, 0, emC z0 0 j1 na1 k1, emC st1 0 j1 nc1 k1, st1) := hV.1
    have hV2 : hN t e a = 93 → f_X12_value 0 (nI e) 0 0 0 0 ib na nc st t = some (nI a, badC 1 a, nI (k1 + j1), nI 0, nI 0, 0, emC z0 0 j1 na1 k1, emC st1 0 j1 nc1 k1, st1) := hV.2
    have r1n : ¬ r3 = 0 := by rw [r1']; decide
    by_cases c : a = e
    · subst c
      have hn93 : ¬ hN t a a = 93 := by unfold hN; rw [if_neg (by omega)]; decide
      have hw := written_n (code := code') (mid := upd mid 0 (nI (k1 + j1))) (sta := upd (upd sta 0 0) 1 (nI (k1 + j1))) (u := k1 + j1) (i := 0) (by omega) (by omega)
      rw [show nI 0 + 1 = 1 by decide] at hw
      have hX := hW (nI a, nI a, nI (k1 + j1), f', code', upd mid 0 (nI (k1 + j1)), upd (upd sta 0 0) 1 (nI (k1 + j1)), some (nI 1, (k1 + j1, code'), (2, upd (upd sta 0 0) 1 (nI (k1 + j1))), (1, upd mid 0 (nI (k1 + j1))))) (by
        rw [if_neg r1n, ea', if_pos (nI_le (Nat.le_refl _) (by omega)), wrI_o (by decide), wrI_o (by decide), q8', show (0 : Int32).toNatClampNeg = 0 by decide, show (1 : Int32).toNatClampNeg = 1 by decide, hw, cb1_o])
      rw [hX, cb8_o]
      refine Sf_oN (fun hn => by cases hn) (fun v hn => ?_)
      cases hn
      rw [f_X9_clear, cb1_o, gdN_o (jin_n (by omega) (by omega))]
      have hS := story_good (G := G) (code := code) (ca := ca) (cf := cf) (ct := ct) (sf := sf) (many := many) (nf := nf) (ns := ns) (nt := nt) (st := st1) (sta := sta) (mid := mid) (a1 := 0) (a2 := nI a) (a3 := 0) (a4 := nI a) (a6 := nI 0) (a7 := nI 0) (a8 := 0) (k := s) (by omega) (by omega) rfl fC' fR' hT
      rw [hR, hV1 hn93, cb9_o, isGood_0, cb1_o, if_neg (by decide), if_pos (nI_le (Nat.le_refl _) (by omega))]
      refine Sf_some (Sf_mono hS (fun z hz => ⟨hz.1, fun G' hG' => ?_⟩))
      obtain ⟨ta, eG⟩ := hG'
      rw [eG]
      exact hz.2 ta
    · have hal : a < e := by omega
      have hX := hW (nI e, nI a, u', 1, code', mid, upd sta 0 0, none) (by
        rw [if_neg r1n, ea', if_neg (nI_ge hal (by omega)), f_X6_fail, cb2_o])
      refine fin0 1 a (nI e) u' code' mid (upd sta 0 0) ?_ hX
      by_cases d93 : hN t e a = 93
      · exact badS 1 a (by decide) (by decide) q2 ⟨_, _, _, _, _, _, _, _, hV2 d93⟩
      · rw [hR, hV1 d93, cb9_o, isGood_0, cb1_o, if_neg (by decide), if_neg (nI_ge hal (by omega)), wrongs_n, cb1_o]
        exact story_bad (neg 1 a (by decide) (by decide) q2) hT
end T5
end
section
/-! what is counted -/
theorem TX_S {G G' : kG} {q : Option (Nat × Int32 × Int32 × Int32 × Int32 × Int32 × Int32)} {code ca cf ct sf many : Nat → Int32} (h : TX G code ca cf ct sf many) (hG : kGS G q G') : TX G' code ca cf ct sf many := by
  have e : G'.2 = G.2 := by
    cases q with
    | none => have e : G' = G := hG; rw [e]
    | some q => obtain ⟨a, e⟩ := hG; rw [e]; rfl
  intro s hs
  rw [e]
  exact h s hs
theorem TX_cnt {G : kG} {s : Nat} {code ca cf ct sf many : Nat → Int32} (h : TX G code ca cf ct sf many) (hs : s < 20) : oT G (some s) (cb1 (f_X11_clausesOf_N) fun r => some r) (fun _ t => cb1 (f_X11_clausesOf (t.2.1)) fun r => some r) = some (many s) := by
  show (if s < 20 then (match G.2 s with | none => (cb1 (f_X11_clausesOf_N) fun r => some r) | some t => (cb1 (f_X11_clausesOf (t.2.1)) fun r => some r)) else none) = _
  rw [if_pos hs]
  rcases h s hs with ⟨g1, g2⟩ | ⟨x, c, g1, g2, g3⟩
  · rw [g1, g2]
    rfl
  · rw [g1, g2]
    have e : x.2.1 = nI c := by
      rcases g3 with g | g | g
      · exact g.2.1
      · exact g.2.2.1
      · exact g.2.1
    show cb1 (f_X11_clausesOf (x.2.1)) _ = _
    rw [f_X11_clausesOf, cb1_o, e]
set_option maxHeartbeats 4000000 in
theorem count_sim {G : kG} {so no bl ni sd tp p1 : Int32} {code ca cf ct sf many : Nat → Int32} (hk0 : 0 ≤ so.toInt) (hk1 : so.toInt ≤ 10) (hG : ∀ i : Nat, (i : Int) < so.toInt → ∃ s, G.1 i = some s) (hT : TX G code ca cf ct sf many) : Sf (f_X11_count G bl ni no so sd tp p1) (fun y => f_X12_count tp so sd no bl ni many p1 = some y) := by
  have z : (0 : Int32).toInt = 0 := by decide
  have l1 : (1 : Int32).toInt = 1 := by decide
  have l10 : (10 : Int32).toInt = 10 := by decide
  have l14 : (14 : Int32).toInt = 14 := by decide
  have l20 : (20 : Int32).toInt = 20 := by decide
  have l23 : (23 : Int32).toInt = 23 := by decide
  have l30 : (30 : Int32).toInt = 30 := by decide
  have l35 : (35 : Int32).toInt = 35 := by decide
  have rg := rgI p1
  obtain ⟨r1, e1, h1⟩ := e_X12_isSource so (p1 - 10) hk0 hk1
  obtain ⟨r2, e2, h2⟩ := s_X12_isReader (p1 - 20)
  obtain ⟨r3, e3, h3⟩ := s_X12_isTale (p1 - 30)
  have h1 := h1.2
  have h2 := h2.2
  have h3 := h3.2
  have hR : f_X12_count tp so sd no bl ni many p1 = if r1 = 0 then (if r2 = 0 then (if r3 = 0 then (if p1 = 0 then some so else if p1 = 1 then some no else if p1 = 2 then some bl else if p1 = 3 then some ni else if p1 = 4 then some sd else if p1 = 5 then some tp else some (-1)) else rdI many 20 ((14 + p1) - 30) fun v => some v) else rdI many 20 ((10 + p1) - 20) fun v => some v) else rdI many 20 ((0 + p1) - 10) fun v => some v := by
    rw [f_X12_count, e1, cb1_o, e2, cb1_o, e3, cb1_o]
  have hA : (r1.toInt = 1 ∧ 10 ≤ p1.toInt ∧ p1.toInt < 10 + so.toInt ∧ (p1 - 10).toInt = p1.toInt - 10) ∨ (r1.toInt = 0 ∧ (p1.toInt < 10 ∨ 10 + so.toInt ≤ p1.toInt)) := by
    rcases h1 with ⟨a, b, c⟩ | ⟨a, b⟩
    · have := back_e (p := p1) 10 l10 (by omega) (by omega) (by omega) (by omega)
      omega
    · right
      refine ⟨a, ?_⟩
      by_cases w : 10 ≤ p1.toInt
      · have := sbN p1 10 10 l10 (by omega) (by omega)
        omega
      · omega
  have hB : (r2.toInt = 1 ∧ 20 ≤ p1.toInt ∧ p1.toInt ≤ 23 ∧ (p1 - 20).toInt = p1.toInt - 20) ∨ (r2.toInt = 0 ∧ (p1.toInt < 20 ∨ 23 < p1.toInt)) := by
    rcases h2 with ⟨a, b, c⟩ | ⟨a, b⟩
    · have := back_e (p := p1) 20 l20 (by omega) (by omega) (by omega) (by omega)
      omega
    · right
      refine ⟨a, ?_⟩
      by_cases w : 20 ≤ p1.toInt
      · have := sbN p1 20 20 l20 (by omega) (by omega)
        omega
      · omega
  have hC : (r3.toInt = 1 ∧ 30 ≤ p1.toInt ∧ p1.toInt ≤ 35 ∧ (p1 - 30).toInt = p1.toInt - 30) ∨ (r3.toInt = 0 ∧ (p1.toInt < 30 ∨ 35 < p1.toInt)) := by
    rcases h3 with ⟨a, b, c⟩ | ⟨a, b⟩
    · have := back_e (p := p1) 30 l30 (by omega) (by omega) (by omega) (by omega)
      omega
    · right
      refine ⟨a, ?_⟩
      by_cases w : 30 ≤ p1.toInt
      · have := sbN p1 30 30 l30 (by omega) (by omega)
        omega
      · omega
  have hsmall : ((p1.toInt < 10 ∨ 10 + so.toInt ≤ p1.toInt) ∧ (p1.toInt < 20 ∨ 23 < p1.toInt) ∧ (p1.toInt < 30 ∨ 35 < p1.toInt)) → f_X12_count tp so sd no bl ni many p1 = (if p1 = 0 then some so else if p1 = 1 then some no else if p1 = 2 then some bl else if p1 = 3 then some ni else if p1 = 4 then some sd else if p1 = 5 then some tp else some (-1)) := by
    intro h
    rw [hR, if_pos (i32_eq (by omega)), if_pos (i32_eq (by omega)), if_pos (i32_eq (by omega))]
  have hs2 : p1.toInt < 10 → ((p1.toInt < 10 ∨ 10 + so.toInt ≤ p1.toInt) ∧ (p1.toInt < 20 ∨ 23 < p1.toInt) ∧ (p1.toInt < 30 ∨ 35 < p1.toInt)) := fun h => by omega
  rw [f_X11_count]
  refine Sf_ite (fun c => Sf_some ?_) (fun c0 => Sf_ite (fun c => Sf_some ?_) (fun c1 => Sf_ite (fun c => Sf_some ?_) (fun c2 => Sf_ite (fun c => Sf_some ?_) (fun c3 => Sf_ite (fun c => Sf_some ?_) (fun c4 => Sf_ite (fun c => Sf_some ?_) (fun c5 => ?_))))))
  · rw [hsmall (hs2 (by rw [c]; decide)), if_pos c]
  · rw [hsmall (hs2 (by rw [c]; decide)), if_neg c0, if_pos c]
  · rw [hsmall (hs2 (by rw [c]; decide)), if_neg c0, if_neg c1, if_pos c]
  · rw [hsmall (hs2 (by rw [c]; decide)), if_neg c0, if_neg c1, if_neg c2, if_pos c]
  · rw [hsmall (hs2 (by rw [c]; decide)), if_neg c0, if_neg c1, if_neg c2, if_neg c3, if_pos c]
  · rw [hsmall (hs2 (by rw [c]; decide)), if_neg c0, if_neg c1, if_neg c2, if_neg c3, if_neg c4, if_pos c]
  refine Sf_cb1 (R := fun y => f_X12_count tp so sd no bl ni many p1 = some y) ?_ (fun r h => Sf_some h)
  rw [f_X11_textCount]
  have a1 := adX 10 so (by omega) (by omega)
  have a2 := sbX (10 + so) 1 (by omega) (by omega)
  refine Sf_cb1 (s_X11_isWithin p1 10 ((10 + so) - 1)) (fun q hq => ?_)
  have hq := hq.2
  refine Sf_ite (fun g => ?_) (fun g => ?_)
  · have g := eqI g
    refine Sf_cb1 (s_X11_isWithin p1 20 23) (fun q2 hq2 => ?_)
    have hq2 := hq2.2
    refine Sf_ite (fun g2 => ?_) (fun g2 => ?_)
    · have g2 := eqI g2
      refine Sf_cb1 (s_X11_isWithin p1 30 35) (fun q3 hq3 => ?_)
      have hq3 := hq3.2
      refine Sf_ite (fun g3 => Sf_some ?_) (fun g3 => ?_)
      · have g3 := eqI g3
        rw [hsmall (by omega), if_neg c0, if_neg c1, if_neg c2, if_neg c3, if_neg c4, if_neg c5]
      · have g3 := neI g3
        have hc := hC.resolve_right (fun w => by omega)
        have ht := tN (p1 - 30) (by omega)
        refine Sf_gdN (by omega) (by omega) ?_
        have hx : (14 + p1) - 30 = nI (14 + (p1 - 30).toNatClampNeg) := i32_eq (by
          have b1 := adX 14 p1 (by omega) (by omega)
          have b2 := sbX (14 + p1) 30 (by omega) (by omega)
          rw [nI_toInt (by omega)]; omega)
        rw [TX_cnt hT (by omega)]
        refine Sf_some ?_
        rw [hR, if_pos (i32_eq (by omega)), if_pos (i32_eq (by omega)), if_neg (fun w => by have := eqI w; omega), hx, rdI_o (jin_n (by omega) (by omega)), nI_clamp (by omega)]
    · have g2 := neI g2
      have hc := hB.resolve_right (fun w => by omega)
      have ht := tN (p1 - 20) (by omega)
      refine Sf_gdN (by omega) (by omega) ?_
      have hx : (10 + p1) - 20 = nI (10 + (p1 - 20).toNatClampNeg) := i32_eq (by
        have b1 := adX 10 p1 (by omega) (by omega)
        have b2 := sbX (10 + p1) 20 (by omega) (by omega)
        rw [nI_toInt (by omega)]; omega)
      rw [TX_cnt hT (by omega)]
      refine Sf_some ?_
      rw [hR, if_pos (i32_eq (by omega)), if_neg (fun w => by have := eqI w; omega), hx, rdI_o (jin_n (by omega) (by omega)), nI_clamp (by omega)]
  · have g := neI g
    have hc := hA.resolve_right (fun w => by omega)
    have ht := tN (p1 - 10) (by omega)
    have hx : (0 + p1) - 10 = nI (p1 - 10).toNatClampNeg := i32_eq (by
      have b1 := adX 0 p1 (by omega) (by omega)
      have b2 := sbX (0 + p1) 10 (by omega) (by omega)
      rw [nI_toInt (by omega)]; omega)
    refine Sf_cb1 (e_X7_sourceAt G so (p1 - 10) hk0 hk1) (fun q4 hq4 => ?_)
    have hq5 : q4 = some (p1 - 10).toNatClampNeg := by
      rcases hq4 with w | w
      · exact w.2.2
      · exfalso; have := w.2; omega
    subst hq5
    refine Sf_oS (fun i hi => ?_) (fun h => ?_) (fun i s0 hi hi10 hs => ?_)
    · cases hi; omega
    · exfalso
      rcases h with h | ⟨i, hi, hn⟩
      · cases h
      · cases hi
        obtain ⟨s, hs⟩ := hG (p1 - 10).toNatClampNeg (by omega)
        rw [hs] at hn
        cases hn
    · cases hi
      rw [TX_cnt hT (by omega)]
      refine Sf_some ?_
      rw [hR, if_neg (fun w => by have := eqI w; omega), hx, rdI_o (jin_n (by omega) (by omega)), nI_clamp (by omega)]
end
section
/-! what a text says, on both sides -/
def sV (f : Sem) (V : Int32 → Int32) : Int32 := (f V).getD 0
theorem cL_end {nn to m n lp : Nat} {arr Lt vals : Nat → Int32} {K : Int32 → (Nat → Int32) → Option (Int32 × (Nat → Int32))} (hto : to ≤ 120) : cL nn arr Lt to K (n + 1) m lp to vals = K (nI m) vals := by
  unfold cL
  rw [f_X5_reckon_L9, if_pos (nI_le (Nat.le_refl _) (by omega))]
theorem reck_n {nn u L : Nat} {code Lt vals : Nat → Int32} {f : Sem} {V : Int32 → Int32} (h : CR code u L 16 f) (hL : u + L ≤ nn) (hn : nn ≤ 120) (hV : ∀ c, valB c = true → Lt c.toNatClampNeg = V c) : ∃ vals' : Nat → Int32, f_X5_reckon nn code Lt vals (nI u) (nI (u + L)) = some (sV f V, vals') := by
  obtain ⟨n, hF⟩ : ∃ n, FU = (n + 1) + L := ⟨FU - L - 1, by have := FU_ge; omega⟩
  have h0 : f_X5_reckon nn code Lt vals (nI u) (nI (u + L)) = cL nn code Lt (u + L) f_X5_reckon_J273 ((n + 1) + L) 0 u u vals := by
    rw [f_X5_reckon, hF]; rfl
  obtain ⟨h1, h2⟩ := h V Lt code vals nn (u + L) 0 (n + 1) u f_X5_reckon_J273 hV (fun _ _ => rfl) (Nat.le_refl _) hL hn (by omega) (Nat.le_refl _)
  rw [h0]
  unfold sV
  cases hf : f V with
  | none =>
    obtain ⟨v', e⟩ := h2 hf
    exact ⟨v', e⟩
  | some v =>
    obtain ⟨v', lp', -, e2, -, e4⟩ := h1 v hf
    refine ⟨v', ?_⟩
    rw [e4, cL_end (by omega), f_X5_reckon_J273, if_pos (by decide), rdI_o (by decide), show (0 : Int32).toNatClampNeg = 0 by decide, e2]
    rfl
noncomputable abbrev wksF (q code ca rf wo : Nat → Int32) (a b : Int32) : Option ((Nat → Int32) × (Nat → Int32)) := f_X12_works (q 0) (q 1) (q 2) (q 3) (q 4) (q 5) (q 6) (q 7) (q 8) (q 9) (q 10) (q 11) (q 12) code ca rf wo a b
theorem works_n {s k L : Nat} {q code ca rf wo : Nat → Int32} {f : Sem} {V : Int32 → Int32} (h : RR (fun j => code (120 * s + j)) (fun j => ca (120 * s + j)) k L f) (hs : s < 20) (hL : k + L ≤ 120) (hV : ∀ c, valB c = true → vO q c = V c) : ∃ rf' wo' : Nat → Int32, wksF q code ca rf wo (nI (120 * s + k)) (nI (120 * s + (k + L))) = some (rf', wo') ∧ (∀ v, f V = some v → rf' 0 = 0 ∧ wo' 0 = v) ∧ (f V = none → rf' 0 = 1) := by
  obtain ⟨n, hF⟩ : ∃ n, FU = (n + 1) + L := ⟨FU - L - 1, by have := FU_ge; omega⟩
  obtain ⟨rf', wo', -, h2, h3, h4⟩ := h V q code ca rf wo (120 * s) (120 * s + (k + L)) 0 (n + 1) hV (fun i hi => by rw [Nat.add_assoc]; exact ⟨rfl, rfl⟩) (by omega) (by omega) (by omega)
  refine ⟨rf', wo', ?_, h3, h4⟩
  have h0 : wksF q code ca rf wo (nI (120 * s + k)) (nI (120 * s + (k + L))) = rL q code ca (120 * s + (k + L)) ((n + 1) + L) 0 (120 * s + k) rf wo := by
    unfold wksF
    rw [f_X12_works, hF]; rfl
  rw [h0, h2]
  unfold rL
  rw [f_X12_works_L5, if_pos (by rw [show 120 * s + k + L = 120 * s + (k + L) by omega]; exact nI_le (Nat.le_refl _) (by omega))]
noncomputable abbrev holF (q code ca cf ct rf wo : Nat → Int32) (a : Int32) : Option (Int32 × (Nat → Int32) × (Nat → Int32)) := f_X12_holds (q 0) (q 1) (q 2) (q 3) (q 4) (q 5) (q 6) (q 7) (q 8) (q 9) (q 10) (q 11) (q 12) code ca cf ct rf wo a
noncomputable abbrev sumF (q code ca cf sf rf wo : Nat → Int32) (a : Int32) : Option (Int32 × (Nat → Int32) × (Nat → Int32)) := f_X12_sumOf (q 0) (q 1) (q 2) (q 3) (q 4) (q 5) (q 6) (q 7) (q 8) (q 9) (q 10) (q 11) (q 12) code ca cf rf sf wo a
/-- a clause's two sides -/
def clEv (lw : Int32) (v : kTv) (code ca cf ct sf : Nat → Int32) (s x : Nat) (V : Int32 → Int32) (p : Bool × Int32) : Prop :=
  (∀ Lt vals : Nat → Int32, (∀ c, valB c = true → Lt c.toNatClampNeg = V c) → ∃ (r : Int32) (vals' : Nat → Int32), f_X5_reckon v.2.1.1 v.2.1.2 Lt vals (v.2.2.2.2 x) (v.2.2.1.2 (x + 1)) = some (r, vals') ∧ (r = 0 ↔ p.1 = false)) ∧
  (∀ q rf wo : Nat → Int32, (∀ c, valB c = true → vO q c = V c) → ∃ (r : Int32) (rf' wo' : Nat → Int32), holF q code ca cf ct rf wo (nI (12 * s + x)) = some (r, rf', wo') ∧ (r = 0 ↔ p.1 = false)) ∧
  (¬ lw = 0 → (∀ Lt vals : Nat → Int32, (∀ c, valB c = true → Lt c.toNatClampNeg = V c) → ∃ vals' : Nat → Int32, f_X5_reckon v.2.1.1 v.2.1.2 Lt vals (v.2.2.1.2 x) (v.2.2.2.2 x) = some (p.2, vals')) ∧ (∀ q rf wo : Nat → Int32, (∀ c, valB c = true → vO q c = V c) → ∃ rf' wo' : Nat → Int32, sumF q code ca cf sf rf wo (nI (12 * s + x)) = some (p.2, rf', wo')))
theorem sum_n {s x k L : Nat} {q code ca cf sf rf wo : Nat → Int32} {f : Sem} {V : Int32 → Int32} (h : RR (fun j => code (120 * s + j)) (fun j => ca (120 * s + j)) k L f) (hs : s < 20) (hx : x < 12) (hL : k + L ≤ 120) (h1 : sf (12 * s + x) = nI (120 * s + k)) (h2 : cf (12 * s + x) = nI (120 * s + (k + L))) (hV : ∀ c, valB c = true → vO q c = V c) : ∃ rf' wo' : Nat → Int32, sumF q code ca cf sf rf wo (nI (12 * s + x)) = some (sV f V, rf', wo') := by
  obtain ⟨rf', wo', e1, e2, e3⟩ := works_n (rf := rf) (wo := wo) h hs hL hV
  have j1 : jin (nI (12 * s + x)) 240 = true := jin_n (by omega) (by omega)
  refine ⟨rf', wo', ?_⟩
  have e1' : f_X12_works (q 0) (q 1) (q 2) (q 3) (q 4) (q 5) (q 6) (q 7) (q 8) (q 9) (q 10) (q 11) (q 12) code ca rf wo (nI (120 * s + k)) (nI (120 * s + (k + L))) = some (rf', wo') := e1
  unfold sumF sV
  rw [f_X12_sumOf, rdI_o j1, rdI_o j1, nI_clamp (by omega), h1, h2, e1', cb2_o, rdI_o (by decide), show (0 : Int32).toNatClampNeg = 0 by decide]
  cases hf : f V with
  | none => rw [e3 hf, if_neg (by decide)]; rfl
  | some v => rw [(e2 v hf).1, if_pos rfl, rdI_o (by decide), show (0 : Int32).toNatClampNeg = 0 by decide, (e2 v hf).2]; rfl
theorem hol_n {s x k L : Nat} {q code ca cf ct rf wo : Nat → Int32} {f : Sem} {V : Int32 → Int32} (h : RR (fun j => code (120 * s + j)) (fun j => ca (120 * s + j)) k L f) (hb : isBoo f) (hs : s < 20) (hx : x < 12) (hL : k + L ≤ 120) (h1 : cf (12 * s + x) = nI (120 * s + k)) (h2 : ct (12 * s + x) = nI (120 * s + (k + L))) (hV : ∀ c, valB c = true → vO q c = V c) : ∃ rf' wo' : Nat → Int32, holF q code ca cf ct rf wo (nI (12 * s + x)) = some (sV f V, rf', wo') := by
  obtain ⟨rf', wo', e1, e2, e3⟩ := works_n (rf := rf) (wo := wo) h hs hL hV
  have j1 : jin (nI (12 * s + x)) 240 = true := jin_n (by omega) (by omega)
  refine ⟨rf', wo', ?_⟩
  have e1' : f_X12_works (q 0) (q 1) (q 2) (q 3) (q 4) (q 5) (q 6) (q 7) (q 8) (q 9) (q 10) (q 11) (q 12) code ca rf wo (nI (120 * s + k)) (nI (120 * s + (k + L))) = some (rf', wo') := e1
  unfold holF sV
  rw [f_X12_holds, rdI_o j1, rdI_o j1, nI_clamp (by omega), h1, h2, e1', cb2_o, rdI_o (by decide), show (0 : Int32).toNatClampNeg = 0 by decide]
  cases hf : f V with
  | none => rw [e3 hf, if_neg (by decide)]; rfl
  | some v =>
    rw [(e2 v hf).1, if_pos rfl, rdI_o (by decide), show (0 : Int32).toNatClampNeg = 0 by decide, (e2 v hf).2]
    rcases hb V v hf with e | e
    · rw [e, if_neg (by decide)]; rfl
    · rw [e, if_pos rfl]; rfl
theorem text_eval {lw : Int32} {v : kTv} {code ca cf ct sf : Nat → Int32} {s c : Nat} (hT : TXR lw v code ca cf ct sf s c) (hs : s < 20) (V : Int32 → Int32) : ∃ F : Nat → Bool × Int32, ∀ x, x < c → clEv lw v code ca cf ct sf s x V (F x) := by
  obtain ⟨t1, t2, t3, t4, t5, t6, t7⟩ := hT
  refine Classical.axiomOfChoice (r := fun x p => x < c → clEv lw v code ca cf ct sf s x V p) (fun x => ?_)
  by_cases hx : x < c
  · obtain ⟨a, L1, L2, g1, g2, g3, g4, g5, g6, g7, g8, g, gb, gC, gR⟩ := t7 x hx
    by_cases hl : lw = 0
    · refine ⟨(!(sV g V == 0), 0), fun _ => ⟨fun Lt vals hV => ?_, fun q rf wo hV => ?_, fun w => absurd hl w⟩⟩
      · obtain ⟨v', e⟩ := reck_n (vals := vals) gC (by omega) t4 hV
        exact ⟨_, v', by rw [g2, g3]; exact e, by simp only [Bool.not_eq_false', beq_iff_eq]⟩
      · obtain ⟨rf', wo', e⟩ := hol_n (rf := rf) (wo := wo) gR gb hs (by omega) (by omega) g6 g7 hV
        exact ⟨_, rf', wo', e, by simp only [Bool.not_eq_false', beq_iff_eq]⟩
    · obtain ⟨f, fC, fR⟩ := g8 hl
      refine ⟨(!(sV g V == 0), sV f V), fun _ => ⟨fun Lt vals hV => ?_, fun q rf wo hV => ?_, fun _ => ⟨fun Lt vals hV => ?_, fun q rf wo hV => ?_⟩⟩⟩
      · obtain ⟨v', e⟩ := reck_n (vals := vals) gC (by omega) t4 hV
        exact ⟨_, v', by rw [g2, g3]; exact e, by simp only [Bool.not_eq_false', beq_iff_eq]⟩
      · obtain ⟨rf', wo', e⟩ := hol_n (rf := rf) (wo := wo) gR gb hs (by omega) (by omega) g6 g7 hV
        exact ⟨_, rf', wo', e, by simp only [Bool.not_eq_false', beq_iff_eq]⟩
      · obtain ⟨v', e⟩ := reck_n (vals := vals) fC (by omega) t4 hV
        exact ⟨v', by rw [g1, g2]; exact e⟩
      · exact sum_n (rf := rf) (wo := wo) fR hs (by omega) (by omega) g5 g6 hV
  · exact ⟨(false, 0), fun w => absurd w hx⟩
/-- the first clause that holds -/
def isFst (F : Nat → Bool × Int32) (x c z : Nat) : Prop := x ≤ z ∧ z < c ∧ (F z).1 = true ∧ ∀ i, x ≤ i → i < z → (F i).1 = false
def noFst (F : Nat → Bool × Int32) (x c : Nat) : Prop := ∀ i, x ≤ i → i < c → (F i).1 = false
theorem fst_uni {F : Nat → Bool × Int32} {x c z z' : Nat} (h : isFst F x c z) (h' : isFst F x c z') : z = z' := by
  obtain ⟨h1, h2, h3, h4⟩ := h
  obtain ⟨g1, g2, g3, g4⟩ := h'
  rcases Nat.lt_trichotomy z z' with w | w | w
  · exact absurd ((g4 z h1 w).symm.trans h3) (by decide)
  · exact w
  · exact absurd ((h4 z' g1 w).symm.trans g3) (by decide)
theorem fst_no {F : Nat → Bool × Int32} {x c z : Nat} (h : isFst F x c z) (h' : noFst F x c) : False := by
  obtain ⟨h1, h2, h3, h4⟩ := h
  exact absurd ((h' z h1 h2).symm.trans h3) (by decide)
theorem first_L {lw : Int32} {v : kTv} {code ca cf ct sf Lt : Nat → Int32} {s c : Nat} {V : Int32 → Int32} {F : Nat → Bool × Int32} (hc : v.1 = nI c) (hc2 : c ≤ 12) (h5 : v.2.2.1.1 = c + 1) (h6 : v.2.2.2.1 = c) (hF : ∀ x, x < c → clEv lw v code ca cf ct sf s x V (F x)) (hV : ∀ c, valB c = true → Lt c.toNatClampNeg = V c) :
    ∀ (r x n : Nat) (vals : Nat → Int32), x + r = c → Sf (f_X5_firstThatHolds_L2 v.1 v.2.1.1 v.2.1.2 v.2.2.2.1 v.2.2.2.2 v.2.2.1.1 v.2.2.1.2 Lt (n + r + 1) (nI x) vals) (fun y => (∃ z, isFst F x c z ∧ y.1 = nI z) ∨ (noFst F x c ∧ y.1 = -1)) := by
  intro r
  induction r with
  | zero =>
    intro x n vals h
    have hx : x = c := by omega
    subst hx
    rw [Nat.add_zero, f_X5_firstThatHolds_L2, hc, if_pos (nI_le (Nat.le_refl _) (by omega))]
    exact Sf_some (Or.inr ⟨fun i h1 h2 => absurd h1 (by omega), rfl⟩)
  | succ r ih =>
    intro x n vals h
    have hx : x < c := by omega
    obtain ⟨q, vals', e1, e2⟩ := (hF x hx).1 Lt vals hV
    have j1 : jin (nI x) v.2.2.2.1 = true := by rw [h6]; exact jin_n hx (by omega)
    have j2 : jin (nI (x + 1)) v.2.2.1.1 = true := by rw [h5]; exact jin_n (by omega) (by omega)
    have hle : ¬ v.1 ≤ nI x := by rw [hc]; exact nI_ge hx (by omega)
    rw [show n + (r + 1) + 1 = (n + r + 1) + 1 by omega, f_X5_firstThatHolds_L2, if_neg hle, rdI_o j1, nI_1, rdI_o j2, nI_clamp (by omega), nI_clamp (by omega), e1, cb2_o]
    refine Sf_ite (fun g => ?_) (fun g => ?_)
    · have hf := e2.mp g
      rw [nmI_o]
      refine Sf_mono (ih (x + 1) n vals' (by omega)) (fun y hy => ?_)
      rcases hy with ⟨z, ⟨z1, z2, z3, z4⟩, hz⟩ | ⟨hn, hy⟩
      · refine Or.inl ⟨z, ⟨by omega, z2, z3, fun i i1 i2 => ?_⟩, hz⟩
        by_cases d : i = x
        · rw [d]; exact hf
        · exact z4 i (by omega) i2
      · refine Or.inr ⟨fun i i1 i2 => ?_, hy⟩
        by_cases d : i = x
        · rw [d]; exact hf
        · exact hn i (by omega) i2
    · refine Sf_some (Or.inl ⟨x, ⟨Nat.le_refl _, hx, ?_, fun i i1 i2 => absurd i1 (by omega)⟩, rfl⟩)
      cases hb : (F x).1 with
      | true => rfl
      | false => exact absurd (e2.mpr hb) g
theorem first_n {lw : Int32} {v : kTv} {code ca cf ct sf Lt vals : Nat → Int32} {s c : Nat} {V : Int32 → Int32} {F : Nat → Bool × Int32} (hT : TXR lw v code ca cf ct sf s c) (hF : ∀ x, x < c → clEv lw v code ca cf ct sf s x V (F x)) (hV : ∀ c, valB c = true → Lt c.toNatClampNeg = V c) : Sf (f_X5_firstThatHolds v.2.1.1 v.2.2.2.1 v.2.2.1.1 v.1 v.2.1.2 v.2.2.2.2 v.2.2.1.2 Lt vals) (fun y => (∃ z, isFst F 0 c z ∧ y.1 = nI z) ∨ (noFst F 0 c ∧ y.1 = -1)) := by
  obtain ⟨t1, t2, t3, t4, t5, t6, -⟩ := hT
  obtain ⟨n, hn⟩ : ∃ n, FU = n + c + 1 := ⟨FU - c - 1, by have := FU_ge; omega⟩
  have h := first_L t1 t3 t5 t6 hF hV c 0 n vals (by omega)
  rw [← hn, nI_0] at h
  rw [f_X5_firstThatHolds]
  exact h
theorem worth_n {lw : Int32} {v : kTv} {code ca cf ct sf Lt vals : Nat → Int32} {s c z : Nat} {V : Int32 → Int32} {F : Nat → Bool × Int32} (hT : TXR lw v code ca cf ct sf s c) (hl : ¬ lw = 0) (hF : ∀ x, x < c → clEv lw v code ca cf ct sf s x V (F x)) (hV : ∀ c, valB c = true → Lt c.toNatClampNeg = V c) (hz : z < c) : ∃ vals' : Nat → Int32, f_X5_worth v.2.1.1 v.2.2.2.1 v.2.2.1.1 v.2.1.2 v.2.2.2.2 v.2.2.1.2 Lt vals (nI z) = some ((F z).2, vals') := by
  obtain ⟨t1, t2, t3, t4, t5, t6, -⟩ := hT
  obtain ⟨vals', e⟩ := ((hF z hz).2.2 hl).1 Lt vals hV
  have j1 : jin (nI z) v.2.2.2.1 = true := by rw [t6]; exact jin_n hz (by omega)
  have j2 : jin (nI z) v.2.2.1.1 = true := by rw [t5]; exact jin_n (by omega) (by omega)
  refine ⟨vals', ?_⟩
  rw [f_X5_worth, rdI_o j2, rdI_o j1, nI_clamp (by omega), e, cb2_o]
end
section
/-! the letters of a height -/
theorem i64_n {n : Nat} (h : n < 2147483648) : Int32.toInt64 (nI n) = lN n := by
  apply Int64.toInt_inj.mp
  rw [t64, nI_toInt (by omega)]
  unfold lN
  exact (Int64.toInt_ofNat_of_lt (by omega)).symm
theorem luck_e {sd p d m : Int32} (h1 : 0 ≤ sd.toInt ∧ sd.toInt ≤ 999) (h2 : 0 ≤ p.toInt ∧ p.toInt ≤ 9) (h3 : 0 ≤ d.toInt ∧ d.toInt ≤ 399) (h4 : 0 ≤ m.toInt ∧ m.toInt ≤ 1439) : f_X12_luckOf sd p d m = f_X7_luck sd p d m := by
  rw [f_X12_luckOf, f_X7_luck, nmI_o]
  have e1 : ∀ x : Int32, 0 ≤ x.toInt → x = nI x.toNatClampNeg := fun x h => i32_eq (by have := tN x h; have g := rgI x; rw [nI_toInt (by omega)]; omega)
  rw [e1 sd h1.1, e1 p h2.1, e1 d h3.1, e1 m h4.1]
  have t1 := tN sd h1.1
  have t2 := tN p h2.1
  have t3 := tN d h3.1
  have t4 := tN m h4.1
  generalize sd.toNatClampNeg = a at *
  generalize p.toNatClampNeg = b at *
  generalize d.toNatClampNeg = c at *
  generalize m.toNatClampNeg = e at *
  rw [show (1009 : Int32) = nI 1009 from rfl, show (9176 : Int32) = nI 9176 from rfl, show (31 : Int32) = nI 31 from rfl, pk_mul, pk_mul, pk_mul, nI_add, nI_add, nI_add]
  have hn : a + 1009 * c + 9176 * e + 31 * b < 16777216 := by omega
  generalize a + 1009 * c + 9176 * e + 31 * b = n at *
  have hL : ((nI n * 25173) + 13849) &&& 65535 = nI ((25173 * n + 13849) % 65536) := by
    rw [show (25173 : Int32) = nI 25173 from rfl, show (13849 : Int32) = nI 13849 from rfl, pk_mul, nI_add, pk_and _ 16 (by decide)]
    have e2 : (nI (n * 25173 + 13849)).toBitVec.toNat = (n * 25173 + 13849) % 2 ^ 32 := rfl
    rw [e2]
    exact congrArg nI (by omega)
  have hR : Int64.toInt32 (jremL ((25173 * (Int32.toInt64 (nI n))) + 13849) 65536) = nI ((25173 * n + 13849) % 65536) := by
    rw [i64_n (by omega), show (25173 : Int64) * lN n + 13849 = lN (25173 * n + 13849) by unfold lN; rw [Int64.ofNat_add, Int64.ofNat_mul]; rfl, show (65536 : Int64) = lN 65536 from rfl, lrem_e (by omega) (by omega) (by omega)]
    unfold lN
    first
      | exact Int64.toInt32_ofNat' _
      | exact i32_eq (by rw [Int64.toInt_toInt32, Int64.toInt_ofNat_of_lt (by omega), Int.bmod_eq_of_le (by omega) (by omega), nI_toInt (by omega)])
  rw [hL, hR]
theorem far_e {a b : Int32} (h1 : 0 ≤ a.toInt ∧ a.toInt ≤ 1439) (h2 : 0 ≤ b.toInt ∧ b.toInt ≤ 1439) : f_X12_farOf a b = f_X11_minutesApart a b := by
  have l0 : (0 : Int32).toInt = 0 := by decide
  have l1 : (1440 : Int32).toInt = 1440 := by decide
  have s1 := sbX a b (by omega) (by omega)
  have s2 := sbX b a (by omega) (by omega)
  have s3 := sbX 0 (a - b) (by omega) (by omega)
  have key : ∀ v : Int32, 0 ≤ v.toInt → v.toInt ≤ 1439 → f_X12_farOf_J14 v = some (jmin v (1440 - v)) := by
    intro v h3 h4
    have s4 := sbX 1440 v (by omega) (by omega)
    rw [f_X12_farOf_J14]
    unfold jmin
    by_cases c : 1440 - v ≤ v
    · rw [if_pos c]
      have c' := leI c
      by_cases d : 1440 - v < v
      · rw [if_pos d]
      · rw [if_neg d]
        have d' := nltI d
        exact congrArg some (i32_eq (by omega))
    · rw [if_neg c]
      have c' := nleI c
      rw [if_neg (fun d => by have := ltI d; omega)]
  rw [f_X12_farOf, f_X11_minutesApart, nmI_o]
  unfold jabs
  by_cases c : b ≤ a
  · have c' := leI c
    rw [if_pos c, if_pos (show (0 : Int32) ≤ a - b from Int32.le_iff_toInt_le.mpr (by omega)), key _ (by omega) (by omega)]
  · have c' := nleI c
    rw [if_neg c, if_neg (fun w => by have := leI w; omega), key _ (by omega) (by omega)]
    rw [show b - a = 0 - (a - b) from i32_eq (by omega)]
def qv (a b d f g h l m n s t u x : Int32) : Nat → Int32 := fun i => [a, b, d, f, g, h, l, m, n, s, t, u, x].getD i 0
theorem vO_all (q : Nat → Int32) : vO q 97 = q 0 ∧ vO q 98 = q 1 ∧ vO q 100 = q 2 ∧ vO q 102 = q 3 ∧ vO q 103 = q 4 ∧ vO q 104 = q 5 ∧ vO q 108 = q 6 ∧ vO q 109 = q 7 ∧ vO q 110 = q 8 ∧ vO q 115 = q 9 ∧ vO q 116 = q 10 ∧ vO q 117 = q 11 ∧ vO q 120 = q 12 := by
  refine ⟨?_, ?_, ?_, ?_, ?_, ?_, ?_, ?_, ?_, ?_, ?_, ?_, ?_⟩ <;> (unfold vO f_X12_valueOf; simp (config := { decide := true }) only [if_true, if_false, Option.getD_some, ite_true, ite_false])
theorem V_all {V : Int32 → Int32} {q : Nat → Int32} (h : V 97 = q 0 ∧ V 98 = q 1 ∧ V 100 = q 2 ∧ V 102 = q 3 ∧ V 103 = q 4 ∧ V 104 = q 5 ∧ V 108 = q 6 ∧ V 109 = q 7 ∧ V 110 = q 8 ∧ V 115 = q 9 ∧ V 116 = q 10 ∧ V 117 = q 11 ∧ V 120 = q 12) : ∀ c, valB c = true → vO q c = V c := by
  intro c hc
  obtain ⟨a1, a2, a3, a4, a5, a6, a7, a8, a9, a10, a11, a12, a13⟩ := vO_all q
  obtain ⟨b1, b2, b3, b4, b5, b6, b7, b8, b9, b10, b11, b12, b13⟩ := h
  unfold valB at hc
  simp only [Bool.or_eq_true, beq_iff_eq] at hc
  rcases hc with ((((((((((((h | h) | h) | h) | h) | h) | h) | h) | h) | h) | h) | h) | h) <;> subst h <;> first | exact a1.trans b1.symm | exact a2.trans b2.symm | exact a3.trans b3.symm | exact a4.trans b4.symm | exact a5.trans b5.symm | exact a6.trans b6.symm | exact a7.trans b7.symm | exact a8.trans b8.symm | exact a9.trans b9.symm | exact a10.trans b10.symm | exact a11.trans b11.symm | exact a12.trans b12.symm | exact a13.trans b13.symm
/-- letters of the sky's reckoner that are never set -/
def LtS (L : Nat → Int32) : Prop := L 98 = 0 ∧ L 103 = 0 ∧ L 104 = 0 ∧ L 108 = 0 ∧ L 110 = 0 ∧ L 116 = 0
theorem LtS_upd {L : Nat → Int32} {i : Nat} {x : Int32} (h : LtS L) (hi : ¬ (i = 98 ∨ i = 103 ∨ i = 104 ∨ i = 108 ∨ i = 110 ∨ i = 116)) : LtS (upd L i x) := by
  obtain ⟨h1, h2, h3, h4, h5, h6⟩ := h
  refine ⟨?_, ?_, ?_, ?_, ?_, ?_⟩ <;> (rw [upd_n (by omega)]; assumption)
end
section
/-! a height, on both sides -/
abbrev R16 : Type := Int32 × Int32 × Int32 × Int32 × Int32 × Int32 × Int32 × Int32 × Int32 × Int32 × Int32 × Int32 × Int32 × Int32 × (Nat → Int32) × (Nat → Int32)
theorem hgt_L {v : kTv} {code ca cf ct sf many : Nat → Int32} {s c : Nat} {V : Int32 → Int32} {F : Nat → Bool × Int32} {p2 p3 A W S U X : Int32} {K : Int32 → (Nat → Int32) → (Nat → Int32) → Option R16} (hs : s < 10) (hc : c ≤ 12) (hm : many s = nI c) (hF : ∀ x, x < c → clEv 1 v code ca cf ct sf s x V (F x)) (hV : ∀ c, valB c = true → vO (qv A 0 p2 W 0 0 0 p3 0 S 0 U X) c = V c) :
    ∀ (r x n : Nat) (rf wo : Nat → Int32), x + r = c → ∃ rf' wo' : Nat → Int32, (∃ z, isFst F x c z ∧ f_X12_heightOf_L95 code ca cf ct many (nI s) p2 p3 0 0 0 0 0 0 A W S U X K (n + r + 1) (nI (12 * s + x)) rf wo = K (nI (12 * s + z)) rf' wo') ∨ (noFst F x c ∧ f_X12_heightOf_L95 code ca cf ct many (nI s) p2 p3 0 0 0 0 0 0 A W S U X K (n + r + 1) (nI (12 * s + x)) rf wo = some (0, A, 0, p2, W, 0, 0, 0, p3, 0, S, 0, U, X, rf', wo')) := by
  have j1 : jin (0 + nI s) 20 = true := by rw [show (0 : Int32) = nI 0 from nI_0.symm, nI_add]; exact jin_n (by omega) (by omega)
  have c1 : (0 + nI s).toNatClampNeg = s := by rw [show (0 : Int32) = nI 0 from nI_0.symm, nI_add, nI_clamp (by omega), Nat.zero_add]
  have c2 : (12 : Int32) * (0 + nI s) + nI c = nI (12 * s + c) := by rw [show (0 : Int32) = nI 0 from nI_0.symm, show (12 : Int32) = nI 12 from rfl, nI_add, pk_mul, nI_add, Nat.zero_add]
  intro r
  induction r with
  | zero =>
    intro x n rf wo h
    have hx : x = c := by omega
    subst hx
    refine ⟨rf, wo, Or.inr ⟨fun i h1 h2 => absurd h1 (by omega), ?_⟩⟩
    rw [Nat.add_zero, f_X12_heightOf_L95, rdI_o j1, c1, hm, c2, if_pos (nI_le (Nat.le_refl _) (by omega))]
  | succ r ih =>
    intro x n rf wo h
    have hx : x < c := by omega
    obtain ⟨q, rf1, wo1, e1, e2⟩ := (hF x hx).2.1 (qv A 0 p2 W 0 0 0 p3 0 S 0 U X) rf wo hV
    have e1 : f_X12_holds A 0 p2 W 0 0 0 p3 0 S 0 U X code ca cf ct rf wo (nI (12 * s + x)) = some (q, rf1, wo1) := e1
    rw [show n + (r + 1) + 1 = (n + r + 1) + 1 by omega, f_X12_heightOf_L95, rdI_o j1, c1, hm, c2, if_neg (nI_ge (by omega) (by omega)), e1, cb3_o]
    by_cases g : q = 0
    · have hf := e2.mp g
      rw [if_pos g, nmI_o, nI_1, show 12 * s + x + 1 = 12 * s + (x + 1) by omega]
      obtain ⟨rf', wo', hh⟩ := ih (x + 1) n rf1 wo1 (by omega)
      refine ⟨rf', wo', ?_⟩
      rcases hh with ⟨z, ⟨z1, z2, z3, z4⟩, hz⟩ | ⟨hn, hy⟩
      · refine Or.inl ⟨z, ⟨by omega, z2, z3, fun i i1 i2 => ?_⟩, hz⟩
        by_cases d : i = x
        · rw [d]; exact hf
        · exact z4 i (by omega) i2
      · refine Or.inr ⟨fun i i1 i2 => ?_, hy⟩
        by_cases d : i = x
        · rw [d]; exact hf
        · exact hn i (by omega) i2
    · rw [if_neg g]
      refine ⟨rf1, wo1, Or.inl ⟨x, ⟨Nat.le_refl _, hx, ?_, fun i i1 i2 => absurd i1 (by omega)⟩, rfl⟩⟩
      cases hb : (F x).1 with
      | true => rfl
      | false => exact absurd (e2.mpr hb) g
section HG
variable {sd a1 a2 a3 a4 a5 a6 a7 a8 a9 a10 a11 a12 a13 p2 p3 : Int32} {bs code ca cf ct rf many mo sf wd wi wo Lt vals : Nat → Int32} {s c : Nat} {v : kTv}
noncomputable abbrev S_of (p2 p3 : Int32) : Int32 := jrem (p3 + (4 * p2)) 1440
noncomputable abbrev A_of (bs mo : Nat → Int32) (s : Nat) (p2 p3 : Int32) : Int32 := jmin (jabs ((if bs s = 0 then p3 else S_of p2 p3) - mo s)) (1440 - jabs ((if bs s = 0 then p3 else S_of p2 p3) - mo s))
noncomputable abbrev C_of (wd : Nat → Int32) (s : Nat) (p2 : Int32) : Int32 := if ((jshr (wd s) (jrem p2 7)) &&& 1) = 1 then 1 else 0
theorem S_rg (h2 : 0 ≤ p2.toInt ∧ p2.toInt ≤ 399) (h3 : 0 ≤ p3.toInt ∧ p3.toInt ≤ 1439) : 0 ≤ (S_of p2 p3).toInt ∧ (S_of p2 p3).toInt ≤ 1439 := by
  have l4 : (4 : Int32).toInt = 4 := by decide
  have l5 : (1440 : Int32).toInt = 1440 := by decide
  have m1 := mlY 4 p2 4 l4 (by omega) (by omega)
  have m2 := adX p3 (4 * p2) (by omega) (by omega)
  have m3 := rm_ (p3 + 4 * p2) 1440 (by omega)
  have m4 := m3.2.2.1 (by omega)
  unfold S_of
  omega
theorem away_e (hs : s < 10) (h2 : 0 ≤ p2.toInt ∧ p2.toInt ≤ 399) (h3 : 0 ≤ p3.toInt ∧ p3.toInt ≤ 1439) (hm : 0 ≤ (mo s).toInt ∧ (mo s).toInt ≤ 1439) : f_X12_awayOf bs mo (nI s) p2 p3 = some (A_of bs mo s p2 p3) ∧ f_X11_minutesApart (if bs s = 0 then p3 else S_of p2 p3) (mo s) = some (A_of bs mo s p2 p3) := by
  have j1 : jin (nI s) 10 = true := jin_n (by omega) (by omega)
  have hA : f_X11_minutesApart (if bs s = 0 then p3 else S_of p2 p3) (mo s) = some (A_of bs mo s p2 p3) := by rw [f_X11_minutesApart, nmI_o]
  refine ⟨?_, hA⟩
  rw [f_X12_awayOf, rdI_o j1, nI_clamp (by omega)]
  by_cases c : bs s = 0
  · rw [if_pos c] at hA
    rw [if_pos c, f_X12_awayOf_J18, rdI_o j1, nI_clamp (by omega), far_e h3 hm, hA, cb1_o]
  · rw [if_neg c] at hA
    rw [if_neg c, f_X12_starAt, cb1_o, f_X12_awayOf_J18, rdI_o j1, nI_clamp (by omega), far_e (S_rg h2 h3) hm, hA, cb1_o]
theorem there_e (hs : s < 10) (h2 : 0 ≤ p2.toInt ∧ p2.toInt ≤ 399) (h3 : 0 ≤ p3.toInt ∧ p3.toInt ≤ 1439) (hm : 0 ≤ (mo s).toInt ∧ (mo s).toInt ≤ 1439) : f_X12_isThere bs mo wd wi (nI s) p2 p3 = some (if C_of wd s p2 = 0 then 0 else if wi s < A_of bs mo s p2 p3 then 0 else 1) := by
  have j1 : jin (nI s) 10 = true := jin_n (by omega) (by omega)
  have hh : f_X12_has (wd s) (jrem p2 7) = some (C_of wd s p2) := by
    rw [f_X12_has]; unfold C_of
    split <;> rfl
  rw [f_X12_isThere, rdI_o j1, nI_clamp (by omega), hh, cb1_o]
  by_cases c : C_of wd s p2 = 0
  · rw [if_pos c, if_pos c]
  · rw [if_neg c, if_neg c, (away_e hs h2 h3 hm).1, cb1_o, rdI_o j1, nI_clamp (by omega)]
    split <;> rfl
noncomputable abbrev hOfR (sd a1 a2 a3 a4 a5 a6 a7 a8 a9 a10 a11 a12 a13 : Int32) (bs code ca cf ct rf many mo sf wd wi wo : Nat → Int32) (s : Nat) (p2 p3 : Int32) : Option R16 := f_X12_heightOf sd a1 a2 a3 a4 a5 a6 a7 a8 a9 a10 a11 a12 a13 bs code ca cf ct rf many mo sf wd wi wo (nI s) p2 p3
theorem hgt_no (hs : s < 10) (h2 : 0 ≤ p2.toInt ∧ p2.toInt ≤ 399) (h3 : 0 ≤ p3.toInt ∧ p3.toInt ≤ 1439) (hm : 0 ≤ (mo s).toInt ∧ (mo s).toInt ≤ 1439) (hn : C_of wd s p2 = 0 ∨ wi s < A_of bs mo s p2 p3) : Sf (hOfR sd a1 a2 a3 a4 a5 a6 a7 a8 a9 a10 a11 a12 a13 bs code ca cf ct rf many mo sf wd wi wo s p2 p3) (fun z => z.1 = 0) := by
  unfold hOfR
  have hT : f_X12_isThere bs mo wd wi (nI s) p2 p3 = some 0 := by
    rw [there_e hs h2 h3 hm]
    by_cases c : C_of wd s p2 = 0
    · rw [if_pos c]
    · rw [if_neg c, if_pos (hn.resolve_left c)]
  rw [f_X12_heightOf, hT, cb1_o, if_pos rfl]
  exact Sf_some rfl
noncomputable abbrev U_of (p2 p3 : Int32) : Int32 := jmin (jabs (S_of p2 p3 - S_of p2 720)) (1440 - jabs (S_of p2 p3 - S_of p2 720))
theorem hgt_yes (hs : s < 10) (h2 : 0 ≤ p2.toInt ∧ p2.toInt ≤ 399) (h3 : 0 ≤ p3.toInt ∧ p3.toInt ≤ 1439) (hm : 0 ≤ (mo s).toInt ∧ (mo s).toInt ≤ 1439) (h1 : ¬ C_of wd s p2 = 0) (h4 : ¬ wi s < A_of bs mo s p2 p3) (hsd : 0 ≤ sd.toInt ∧ sd.toInt ≤ 999) {X : Int32} (hX : f_X7_luck sd (nI s) p2 p3 = some X) : hOfR sd a1 a2 a3 a4 a5 a6 a7 a8 a9 a10 a11 a12 a13 bs code ca cf ct rf many mo sf wd wi wo s p2 p3 = f_X12_heightOf_L95 code ca cf ct many (nI s) p2 p3 0 0 0 0 0 0 (A_of bs mo s p2 p3) (jrem p2 7) (S_of p2 p3) (U_of p2 p3) X (f_X12_heightOf_J127 code ca cf sf p2 p3 0 0 0 0 0 0 (A_of bs mo s p2 p3) (jrem p2 7) (S_of p2 p3) (U_of p2 p3) X) FU (nI (12 * s)) rf wo := by
  have hT : f_X12_isThere bs mo wd wi (nI s) p2 p3 = some 1 := by rw [there_e hs h2 h3 hm, if_neg h1, if_neg h4]
  have l7 : 0 ≤ (720 : Int32).toInt ∧ (720 : Int32).toInt ≤ 1439 := by decide
  have hU : f_X12_farOf (S_of p2 p3) (jrem (720 + (4 * p2)) 1440) = some (U_of p2 p3) := by
    have := far_e (S_rg h2 h3) (S_rg (p3 := 720) h2 l7)
    rw [this, f_X11_minutesApart, nmI_o]
  have c2 : (12 : Int32) * (0 + nI s) = nI (12 * s) := by rw [show (0 : Int32) = nI 0 from nI_0.symm, show (12 : Int32) = nI 12 from rfl, nI_add, pk_mul, Nat.zero_add]
  have ts : (nI s).toInt = (s : Int) := nI_toInt (by omega)
  unfold hOfR
  rw [f_X12_heightOf, hT, cb1_o, if_neg (by decide), f_X12_clears, cb13_o, (away_e hs h2 h3 hm).1, cb1_o, nmI_o, f_X12_starAt, cb1_o, hU, cb1_o, luck_e hsd (by omega) h2 h3, hX, cb1_o, nmI_o, c2]
theorem clamp_e (w : Int32) : jmax 0 (jmin 1000 w) = if 0 ≤ w then (if w ≤ 1000 then w else 1000) else 0 := by
  have l0 : (0 : Int32).toInt = 0 := by decide
  have l1 : (1000 : Int32).toInt = 1000 := by decide
  have hm : jmin 1000 w = if w ≤ 1000 then w else 1000 := by
    unfold jmin
    by_cases c : w < 1000
    · have c' := ltI c
      rw [if_pos c, if_pos (Int32.le_iff_toInt_le.mpr (by omega))]
    · have c' := nltI c
      rw [if_neg c]
      by_cases d : w ≤ 1000
      · have d' := leI d
        rw [if_pos d]; exact i32_eq (by omega)
      · rw [if_neg d]
  rw [hm]
  unfold jmax
  by_cases d : w ≤ 1000
  · have d' := leI d
    rw [if_pos d]
    by_cases c : 0 ≤ w
    · have c' := leI c
      rw [if_pos c]
      by_cases g : 0 < w
      · rw [if_pos g]
      · have g' := nltI g
        rw [if_neg g]; exact i32_eq (by omega)
    · have c' := nleI c
      rw [if_neg c, if_neg (fun g => by have := ltI g; omega)]
  · have d' := nleI d
    rw [if_neg d, if_pos (show (0 : Int32) < 1000 by decide), if_pos (Int32.le_iff_toInt_le.mpr (by omega))]
set_option maxHeartbeats 4000000 in
theorem hgt_sim (hs : s < 10) (h2 : 0 ≤ p2.toInt ∧ p2.toInt ≤ 399) (h3 : 0 ≤ p3.toInt ∧ p3.toInt ≤ 1439) (hm : 0 ≤ (mo s).toInt ∧ (mo s).toInt ≤ 1439) (hsd : 0 ≤ sd.toInt ∧ sd.toInt ≤ 999) (hT : TXR 1 v code ca cf ct sf s c) (hmany : many s = nI c) (hLS : LtS Lt) :
    Sf (f_X7_heightOf v.2.1.1 v.2.2.2.1 v.2.2.1.1 sd (nI s) (bs s) (mo s) (wi s) (wd s) v.1 v.2.1.2 v.2.2.2.2 v.2.2.1.2 Lt vals p2 p3) (fun y => LtS y.2.1 ∧ Sf (hOfR sd a1 a2 a3 a4 a5 a6 a7 a8 a9 a10 a11 a12 a13 bs code ca cf ct rf many mo sf wd wi wo s p2 p3) (fun z => z.1 = y.1)) := by
  have hcl : f_X7_heightOf v.2.1.1 v.2.2.2.1 v.2.2.1.1 sd (nI s) (bs s) (mo s) (wi s) (wd s) v.1 v.2.1.2 v.2.2.2.2 v.2.2.1.2 Lt vals p2 p3 = f_X7_heightOf_J20 sd (nI s) (mo s) (wi s) (wd s) v.1 v.2.1.1 v.2.1.2 v.2.2.2.1 v.2.2.2.2 v.2.2.1.1 v.2.2.1.2 Lt vals p2 p3 (S_of p2 p3) (if bs s = 0 then p3 else S_of p2 p3) := by
    rw [f_X7_heightOf, f_X11_starMinute, cb1_o]
    by_cases c : bs s = 0
    · rw [if_pos c, if_pos c]
    · rw [if_neg c, if_neg c]
  have hCm : f_X8_comesOn (wd s) p2 = some (C_of wd s p2) := by
    rw [f_X8_comesOn]; unfold C_of
    split <;> rfl
  rw [hcl, f_X7_heightOf_J20, (away_e hs h2 h3 hm).2, cb1_o]
  refine Sf_ite (fun g => Sf_some ⟨hLS, hgt_no hs h2 h3 hm (Or.inr g)⟩) (fun g => ?_)
  rw [hCm, cb1_o]
  refine Sf_ite (fun g2 => Sf_some ⟨hLS, hgt_no hs h2 h3 hm (Or.inl g2)⟩) (fun g2 => ?_)
  obtain ⟨X, hX, -⟩ := s_X7_luck sd (nI s) p2 p3
  have hU : f_X11_minutesApart (S_of p2 p3) (S_of p2 720) = some (U_of p2 p3) := by rw [f_X11_minutesApart, nmI_o]
  have hS7 : f_X11_starMinute p2 720 = some (S_of p2 720) := by rw [f_X11_starMinute]
  rw [wrI_o (by decide), wrI_o (by decide), wrI_o (by decide), wrI_o (by decide), hS7, cb1_o, hU, cb1_o, wrI_o (by decide), nmI_o, wrI_o (by decide), hX, cb1_o, wrI_o (by decide), show (100 : Int32).toNatClampNeg = 100 by decide, show (109 : Int32).toNatClampNeg = 109 by decide, show (115 : Int32).toNatClampNeg = 115 by decide, show (97 : Int32).toNatClampNeg = 97 by decide, show (117 : Int32).toNatClampNeg = 117 by decide, show (102 : Int32).toNatClampNeg = 102 by decide, show (120 : Int32).toNatClampNeg = 120 by decide]
  have hLS' : LtS (upd (upd (upd (upd (upd (upd (upd Lt 100 p2) 109 p3) 115 (S_of p2 p3)) 97 (A_of bs mo s p2 p3)) 117 (U_of p2 p3)) 102 (jrem p2 7)) 120 X) := LtS_upd (LtS_upd (LtS_upd (LtS_upd (LtS_upd (LtS_upd (LtS_upd hLS (by omega)) (by omega)) (by omega)) (by omega)) (by omega)) (by omega)) (by omega)
  have hV : ∀ c, valB c = true → vO (qv (A_of bs mo s p2 p3) 0 p2 (jrem p2 7) 0 0 0 p3 0 (S_of p2 p3) 0 (U_of p2 p3) X) c = (upd (upd (upd (upd (upd (upd (upd Lt 100 p2) 109 p3) 115 (S_of p2 p3)) 97 (A_of bs mo s p2 p3)) 117 (U_of p2 p3)) 102 (jrem p2 7)) 120 X) c.toNatClampNeg := by
    obtain ⟨k1, k2', k3, k4, k5, k6⟩ := hLS'
    refine V_all (V := fun c => (upd (upd (upd (upd (upd (upd (upd Lt 100 p2) 109 p3) 115 (S_of p2 p3)) 97 (A_of bs mo s p2 p3)) 117 (U_of p2 p3)) 102 (jrem p2 7)) 120 X) c.toNatClampNeg) ⟨?_, k1, ?_, ?_, k2', k3, k4, ?_, k5, ?_, k6, ?_, ?_⟩ <;> rfl
  generalize (upd (upd (upd (upd (upd (upd (upd Lt 100 p2) 109 p3) 115 (S_of p2 p3)) 97 (A_of bs mo s p2 p3)) 117 (U_of p2 p3)) 102 (jrem p2 7)) 120 X) = L' at *
  obtain ⟨F, hF⟩ := text_eval hT (by omega) (fun c => L' c.toNatClampNeg)
  have hc12 : c ≤ 12 := hT.2.2.1
  obtain ⟨n, hn⟩ : ∃ n, FU = n + c + 1 := ⟨FU - c - 1, by have := FU_ge; omega⟩
  have hR := hgt_L (K := f_X12_heightOf_J127 code ca cf sf p2 p3 0 0 0 0 0 0 (A_of bs mo s p2 p3) (jrem p2 7) (S_of p2 p3) (U_of p2 p3) X) hs hc12 hmany hF hV c 0 n rf wo (by omega)
  rw [← hn, Nat.add_zero, ← hgt_yes (a1 := a1) (a2 := a2) (a3 := a3) (a4 := a4) (a5 := a5) (a6 := a6) (a7 := a7) (a8 := a8) (a9 := a9) (a10 := a10) (a11 := a11) (a12 := a12) (a13 := a13) (rf := rf) (wo := wo) hs h2 h3 hm g2 g hsd hX] at hR
  obtain ⟨rf', wo', hR⟩ := hR
  refine Sf_cb2 (first_n hT hF (fun c _ => rfl)) (fun r vals' hr => ?_)
  rcases hr with ⟨z, hz, hr⟩ | ⟨hz, hr⟩
  · have hr : r = nI z := hr
    have hzc : z < c := hz.2.1
    have hne : ¬ nI z = -1 := fun w => by have := eqI w; rw [nI_toInt (by omega)] at this; have m1 : (-1 : Int32).toInt = -1 := (by decide); omega
    rw [hr, if_neg hne]
    obtain ⟨vals2, hw⟩ := worth_n (vals := vals') hT (by decide) hF (fun c _ => rfl) hzc
    rw [hw, cb2_o]
    refine Sf_some ⟨hLS', ?_⟩
    rcases hR with ⟨z', hz', e⟩ | ⟨hn', e⟩
    · have := fst_uni hz hz'
      subst this
      rw [e, f_X12_heightOf_J127]
      obtain ⟨rf2, wo2, hsum⟩ := ((hF z hzc).2.2 (by decide)).2 (qv (A_of bs mo s p2 p3) 0 p2 (jrem p2 7) 0 0 0 p3 0 (S_of p2 p3) 0 (U_of p2 p3) X) rf' wo' hV
      have hsum : f_X12_sumOf (A_of bs mo s p2 p3) 0 p2 (jrem p2 7) 0 0 0 p3 0 (S_of p2 p3) 0 (U_of p2 p3) X code ca cf rf' sf wo' (nI (12 * s + z)) = some ((F z).2, rf2, wo2) := hsum
      rw [hsum, cb3_o]
      show Sf _ (fun w : R16 => w.1 = jmax 0 (jmin 1000 (F z).2))
      rw [clamp_e]
      by_cases d : 0 ≤ (F z).2
      · rw [if_pos d, if_pos d]
        by_cases d2 : (F z).2 ≤ 1000
        · rw [if_pos d2, if_pos d2]; exact Sf_some rfl
        · rw [if_neg d2, if_neg d2]; exact Sf_some rfl
      · rw [if_neg d, if_neg d]; exact Sf_some rfl
    · exact absurd (fst_no hz hn') (fun w => w)
  · have hr : r = -1 := hr
    rw [if_pos hr]
    refine Sf_some ⟨hLS', ?_⟩
    rcases hR with ⟨z', hz', e⟩ | ⟨hn', e⟩
    · exact absurd (fst_no hz' hz) (fun w => w)
    · rw [e]; exact Sf_some rfl
end HG
end
section
/-! stories, on both sides -/
def LtN (L : Nat → Int32) : Prop := L 97 = 0 ∧ L 98 = 0 ∧ L 102 = 0 ∧ L 103 = 0 ∧ L 104 = 0 ∧ L 108 = 0 ∧ L 109 = 0 ∧ L 115 = 0 ∧ L 116 = 0 ∧ L 117 = 0 ∧ L 120 = 0
theorem LtN_upd {L : Nat → Int32} {i : Nat} {x : Int32} (h : LtN L) (hi : i = 100 ∨ i = 110) : LtN (upd L i x) := by
  obtain ⟨h1, h2, h3, h4, h5, h6, h7, h8, h9, h10, h11⟩ := h
  refine ⟨?_, ?_, ?_, ?_, ?_, ?_, ?_, ?_, ?_, ?_, ?_⟩ <;> (rw [upd_n (by omega)]; assumption)
abbrev R15 : Type := Int32 × Int32 × Int32 × Int32 × Int32 × Int32 × Int32 × Int32 × Int32 × Int32 × Int32 × Int32 × Int32 × (Nat → Int32) × (Nat → Int32)
noncomputable abbrev saysF (a1 a2 a3 a4 a5 a6 a7 a8 a9 a10 a11 a12 a13 : Int32) (code ca cf rf days sf wo : Nat → Int32) (k x : Nat) : Option R16 := f_X12_saysOf a1 a2 a3 a4 a5 a6 a7 a8 a9 a10 a11 a12 a13 code ca cf rf days sf wo (nI k) (nI x)
theorem tale_eval {v : kTv} {code ca cf ct sf : Nat → Int32} {k c : Nat} (hT : TXE v code ca cf ct sf (14 + k) c) (hk : k < 6) (days : Nat → Int32) : ∃ w : Nat → Int32, ∀ x, x < 30 → (∀ Lt vals : Nat → Int32, LtN Lt → ∃ Lt' vals' : Nat → Int32, f_X2_shiftBy v.2.1.1 v.2.2.2.1 v.2.2.1.1 v.2.1.2 v.2.2.2.2 v.2.2.1.2 days Lt vals (nI x) = some (w x, Lt', vals') ∧ LtN Lt') ∧ (∀ (a1 a2 a3 a4 a5 a6 a7 a8 a9 a10 a11 a12 a13 : Int32) (rf wo : Nat → Int32), ∃ z : R15, saysF a1 a2 a3 a4 a5 a6 a7 a8 a9 a10 a11 a12 a13 code ca cf rf days sf wo k x = some (w x, z)) := by
  obtain ⟨t1, t2, L, t3, t4, t5, t6, t7, t8, t9, t10, t11, t12, f, fC, fR⟩ := hT
  refine ⟨fun x => sV f (fun c => vO (qv 0 0 (days x) 0 0 0 0 0 (nI x) 0 0 0 0) c), fun x hx => ⟨fun Lt vals hL => ?_, fun a1 a2 a3 a4 a5 a6 a7 a8 a9 a10 a11 a12 a13 rf wo => ?_⟩⟩
  · have hL' : LtN (upd (upd Lt 100 (days x)) 110 (nI x)) := LtN_upd (LtN_upd hL (by omega)) (by omega)
    have hV : ∀ c, valB c = true → vO (qv 0 0 (days x) 0 0 0 0 0 (nI x) 0 0 0 0) c = (upd (upd Lt 100 (days x)) 110 (nI x)) c.toNatClampNeg := by
      obtain ⟨k1, k2', k3, k4, k5, k6, k7, k8, k9, k10, k11⟩ := hL'
      refine V_all (V := fun c => (upd (upd Lt 100 (days x)) 110 (nI x)) c.toNatClampNeg) ⟨k1, k2', ?_, k3, k4, k5, k6, k7, ?_, k8, k9, k10, k11⟩ <;> rfl
    obtain ⟨vals', e⟩ := reck_n (vals := vals) (Lt := upd (upd Lt 100 (days x)) 110 (nI x)) (V := fun c => vO (qv 0 0 (days x) 0 0 0 0 0 (nI x) 0 0 0 0) c) fC (show 0 + L ≤ v.2.1.1 by omega) (by omega) (fun c hc => (hV c hc).symm)
    refine ⟨_, vals', ?_, hL'⟩
    have e : f_X5_reckon v.2.1.1 v.2.1.2 (upd (upd Lt 100 (days x)) 110 (nI x)) vals (v.2.2.1.2 0) (v.2.2.2.2 0) = some (sV f (fun c => vO (qv 0 0 (days x) 0 0 0 0 0 (nI x) 0 0 0 0) c), vals') := by
      rw [t7, t8]; rw [Nat.zero_add] at e; exact e
    have j1 : jin 0 v.2.2.2.1 = true := by rw [t6]; decide
    have j2 : jin 0 v.2.2.1.1 = true := by rw [t5]; decide
    rw [f_X2_shiftBy, rdI_o (jin_n (by omega) (by omega)), nI_clamp (by omega), wrI_o (by decide), wrI_o (by decide), show (100 : Int32).toNatClampNeg = 100 by decide, show (110 : Int32).toNatClampNeg = 110 by decide, f_X5_worth, rdI_o j2, rdI_o j1, show (0 : Int32).toNatClampNeg = 0 by decide, e, cb2_o, cb2_o]
  · obtain ⟨rf', wo', e⟩ := sum_n (x := 0) (rf := rf) (wo := wo) (q := qv 0 0 (days x) 0 0 0 0 0 (nI x) 0 0 0 0) (V := fun c => vO (qv 0 0 (days x) 0 0 0 0 0 (nI x) 0 0 0 0) c) (cf := cf) (sf := sf) fR (by omega) (by omega) (by omega) (by rw [Nat.add_zero, Nat.add_zero]; exact t10) (by rw [Nat.add_zero, Nat.zero_add]; exact t11) (fun _ _ => rfl)
    have e : f_X12_sumOf 0 0 (days x) 0 0 0 0 0 (nI x) 0 0 0 0 code ca cf rf sf wo (nI (12 * (14 + k))) = some (sV f (fun c => vO (qv 0 0 (days x) 0 0 0 0 0 (nI x) 0 0 0 0) c), rf', wo') := e
    have c2 : (12 : Int32) * (14 + nI k) = nI (12 * (14 + k)) := by rw [show (14 : Int32) = nI 14 from rfl, show (12 : Int32) = nI 12 from rfl, nI_add, pk_mul]
    refine ⟨(0, 0, days x, 0, 0, 0, 0, 0, nI x, 0, 0, 0, 0, rf', wo'), ?_⟩
    unfold saysF
    rw [f_X12_saysOf, f_X12_clears, cb13_o, rdI_o (jin_n (by omega) (by omega)), nI_clamp (by omega), c2, e, cb3_o]
/-- is a story told -/
theorem told_n {G : kG} {code ca cf ct sf many : Nat → Int32} {k : Nat} (hT : TX G code ca cf ct sf many) (hk : k < 6) : (G.2 (14 + k) = none ∧ f_X12_isTold many (nI k) = some 0) ∨ (∃ x : kTx, G.2 (14 + k) = some x ∧ f_X12_isTold many (nI k) = some 1 ∧ TXE x.2 code ca cf ct sf (14 + k) 1) := by
  have h14 : (14 : Int32) + nI k = nI (14 + k) := by rw [show (14 : Int32) = nI 14 from rfl, nI_add]
  have ht : f_X12_isTale (nI k) = some 1 := by
    obtain ⟨y, e, h⟩ := s_X12_isTale (nI k)
    have tk : (nI k).toInt = (k : Int) := nI_toInt (by omega)
    have l1 : (1 : Int32).toInt = 1 := by decide
    rw [e, show y = 1 from i32_eq (by omega)]
  have hi : f_X12_isTold many (nI k) = if many (14 + k) ≤ 0 then some 0 else some 1 := by
    rw [f_X12_isTold, ht, cb1_o, if_neg (by decide), h14, rdI_o (jin_n (by omega) (by omega)), nI_clamp (by omega)]
  rcases hT (14 + k) (by omega) with ⟨g1, g2⟩ | ⟨x, c, g1, g2, g3⟩
  · exact Or.inl ⟨g1, by rw [hi, g2, if_pos (by decide)]⟩
  · rcases g3 with g | g | ⟨-, g⟩
    · exact absurd g.1 (by omega)
    · exact absurd g.2.1 (by omega)
    · have e := g.2.1
      subst e
      exact Or.inr ⟨x, g1, by rw [hi, g2, if_neg (by decide)], g⟩
section NT
variable {G : kG} {days code ca cf ct sf many rf wo Lt vals : Nat → Int32} {ni y1 y2 a1 a2 a3 a4 a5 a6 a7 a8 a9 a10 a11 a12 a13 : Int32}
theorem night_n (h0 : 0 ≤ ni.toInt) (h1 : ni.toInt ≤ 30) : ∃ r : Int32, f_X11_isWithin y2 0 (ni - 1) = some r ∧ f_X12_isNight ni y2 = some r ∧ ((r = 1 ∧ 0 ≤ y2.toInt ∧ y2.toInt < ni.toInt) ∨ r = 0) := by
  have l0 : (0 : Int32).toInt = 0 := by decide
  have l1 : (1 : Int32).toInt = 1 := by decide
  have s1 := sbX ni 1 (by omega) (by omega)
  obtain ⟨r, e, h⟩ := s_X11_isWithin y2 0 (ni - 1)
  have h := h.2
  have e2 : f_X12_isNight ni y2 = some (bI ((0 : Int64).toInt ≤ (Int32.toInt64 y2).toInt ∧ (Int32.toInt64 y2).toInt ≤ (Int32.toInt64 (ni - 1)).toInt)) := by
    rw [f_X12_isNight, L_iff, cb1_o]
    unfold bo bI
    split
    · rw [if_pos (Or.inr rfl)]
    · rw [if_pos (Or.inl rfl)]
  rw [t64, t64, i64_0] at e2
  rcases h with ⟨a, b, c⟩ | ⟨a, b⟩
  · have : r = 1 := i32_eq (by omega)
    subst this
    refine ⟨1, e, ?_, Or.inl ⟨rfl, by omega, by omega⟩⟩
    rw [e2]; unfold bI; rw [if_pos ⟨by omega, by omega⟩]
  · have : r = 0 := i32_eq (by omega)
    subst this
    refine ⟨0, e, ?_, Or.inr rfl⟩
    rw [e2]; unfold bI; rw [if_neg (fun w => by omega)]
theorem err_n : ∃ r : Int32, f_X11_isNightError y2 = some r ∧ f_X12_isError y2 = some r ∧ ((r = 1 ∧ 0 ≤ y2.toInt ∧ y2.toInt ≤ 100000) ∨ r = 0) := by
  have l0 : (0 : Int32).toInt = 0 := by decide
  have l1 : (1 : Int32).toInt = 1 := by decide
  have lh : (100000 : Int32).toInt = 100000 := by decide
  have lH : (100000 : Int64).toInt = 100000 := by decide
  obtain ⟨r, e, h⟩ := s_X11_isWithin y2 0 100000
  have h := h.2
  have e1 : f_X11_isNightError y2 = bo r (some r) := by rw [f_X11_isNightError, e, cb1_o]
  have e2 : f_X12_isError y2 = some (bI ((0 : Int64).toInt ≤ (Int32.toInt64 y2).toInt ∧ (Int32.toInt64 y2).toInt ≤ (100000 : Int64).toInt)) := by
    rw [f_X12_isError, L_iff, cb1_o]
    unfold bo bI
    split
    · rw [if_pos (Or.inr rfl)]
    · rw [if_pos (Or.inl rfl)]
  rw [t64, i64_0, lH] at e2
  rcases h with ⟨a, b, c⟩ | ⟨a, b⟩
  · have : r = 1 := i32_eq (by omega)
    subst this
    refine ⟨1, by rw [e1]; unfold bo; rw [if_pos (Or.inr rfl)], ?_, Or.inl ⟨rfl, by omega, by omega⟩⟩
    rw [e2]; unfold bI; rw [if_pos ⟨by omega, by omega⟩]
  · have : r = 0 := i32_eq (by omega)
    subst this
    refine ⟨0, by rw [e1]; unfold bo; rw [if_pos (Or.inl rfl)], ?_, Or.inr rfl⟩
    rw [e2]; unfold bI; rw [if_neg (fun w => by omega)]
theorem storyAt_n : (∃ k : Nat, k < 6 ∧ y1 = nI k ∧ f_X2_storyAt G y1 = some (some (14 + k))) ∨ (f_X2_storyAt G y1 = some none ∧ f_X12_isTold many y1 = some 0) := by
  have l0 : (0 : Int32).toInt = 0 := by decide
  obtain ⟨r, e, h⟩ := s_X11_isStory y1
  have h := h.2
  rcases h with ⟨a, b, c⟩ | ⟨a, b⟩
  · have t := tN y1 b
    refine Or.inl ⟨y1.toNatClampNeg, by omega, i32_eq (by rw [nI_toInt (by omega)]; omega), ?_⟩
    rw [f_X2_storyAt, e, cb1_o, if_neg (fun w => by have := eqI w; omega)]
    have hy : y1 = nI y1.toNatClampNeg := i32_eq (by rw [nI_toInt (by omega)]; omega)
    have j : jin y1 6 = true := by rw [hy]; exact jin_n (by omega) (by omega)
    rw [gdN_o j]
  · refine Or.inr ⟨?_, ?_⟩
    · rw [f_X2_storyAt, e, cb1_o, if_pos (i32_eq (by omega))]
    · obtain ⟨q, e2, h2⟩ := s_X12_isTale y1
      have h2 := h2.2
      rw [f_X12_isTold, e2, cb1_o, if_pos (i32_eq (by omega))]
set_option maxHeartbeats 4000000 in
theorem says_sim (hT : TX G code ca cf ct sf many) (h0 : 0 ≤ ni.toInt) (h1 : ni.toInt ≤ 30) (hL : LtN Lt) :
    Sf (f_X11_says G ni days Lt vals y1 y2) (fun y => LtN y.2.1 ∧ Sf (f_X12_says ni a1 a2 a3 a4 a5 a6 a7 a8 a9 a10 a11 a12 a13 code ca cf rf many days sf wo y1 y2) (fun z => y.1 = z.1)) := by
  rw [f_X11_says]
  rcases storyAt_n (G := G) (many := many) (y1 := y1) with ⟨k, hk, hy, e⟩ | ⟨e, e2⟩
  · subst hy
    rw [e, cb1_o]
    rcases told_n hT hk with ⟨g1, g2⟩ | ⟨x, g1, g2, g3⟩
    · refine Sf_oT (fun i hi => by cases hi; omega) (fun _ => Sf_some ⟨hL, ?_⟩) (fun i t hi _ ht => ?_)
      · rw [f_X12_says, g2, cb1_o, if_pos rfl]; exact Sf_some rfl
      · cases hi; rw [g1] at ht; cases ht
    · refine Sf_oT (fun i hi => by cases hi; omega) (fun h => ?_) (fun i t hi _ ht => ?_)
      · exfalso
        rcases h with h | ⟨i, hi, hn⟩
        · cases h
        · cases hi; rw [g1] at hn; cases hn
      · cases hi
        rw [g1] at ht
        cases ht
        obtain ⟨r, e3, e4, hr⟩ := night_n (y2 := y2) h0 h1
        rw [e3, cb1_o]
        refine Sf_ite (fun g => Sf_some ⟨hL, ?_⟩) (fun g => ?_)
        · rw [f_X12_says, g2, cb1_o, if_neg (by decide), e4, cb1_o, if_pos g]; exact Sf_some rfl
        · have hr := hr.resolve_right g
          have ht := tN y2 hr.2.1
          have hy2 : y2 = nI y2.toNatClampNeg := i32_eq (by rw [nI_toInt (by omega)]; omega)
          generalize y2.toNatClampNeg = n at *
          subst hy2
          obtain ⟨w, hw⟩ := tale_eval g3 hk days
          obtain ⟨hw1, hw2⟩ := hw n (by omega)
          obtain ⟨Lt', vals', e5, hL'⟩ := hw1 Lt vals hL
          obtain ⟨z, e6⟩ := hw2 a1 a2 a3 a4 a5 a6 a7 a8 a9 a10 a11 a12 a13 rf wo
          obtain ⟨z1, z2, z3, z4, z5, z6, z7, z8, z9, z10, z11, z12, z13, z14, z15⟩ := z
          have e6 : f_X12_saysOf a1 a2 a3 a4 a5 a6 a7 a8 a9 a10 a11 a12 a13 code ca cf rf days sf wo (nI k) (nI n) = some (w n, z1, z2, z3, z4, z5, z6, z7, z8, z9, z10, z11, z12, z13, z14, z15) := e6
          rw [e5, cb3_o]
          refine Sf_some ⟨hL', ?_⟩
          rw [f_X12_says, g2, cb1_o, if_neg (by decide), e4, cb1_o, if_neg g, e6, cb16_o]
          exact Sf_some rfl
  · rw [e, cb1_o]
    refine Sf_oT (fun i hi => by cases hi) (fun _ => Sf_some ⟨hL, ?_⟩) (fun i t hi _ ht => by cases hi)
    rw [f_X12_says, e2, cb1_o, if_pos rfl]; exact Sf_some rfl
end NT
end
section
/-! where a story falls, on both sides -/
theorem sub64 (r v : Int32) : (Int32.toInt64 r - Int32.toInt64 v).toInt = r.toInt - v.toInt := by
  have h1 := rgI r
  have h2 := rgI v
  rw [Int64.toInt_sub, t64, t64, Int.bmod_eq_of_le (by omega) (by omega)]
abbrev inTol (r v p : Int32) : Prop := -p.toInt ≤ r.toInt - v.toInt ∧ r.toInt - v.toInt ≤ p.toInt
theorem tolR {r v p : Int32} (h0 : 0 ≤ p.toInt) : f_X12_lies (Int32.toInt64 r - Int32.toInt64 v) (Int32.toInt64 (-p)) (Int32.toInt64 p) = some (bI (inTol r v p)) := by
  rw [L_iff, sub64, t64, t64, ngX p (by omega)]
theorem tolC {r v p : Int32} (h0 : 0 ≤ p.toInt) : (lg_cmp (jabsL (Int32.toInt64 r - Int32.toInt64 v)) (Int32.toInt64 p) ≤ 0) ↔ inTol r v p := by
  have h1 := rgI r
  have h2 := rgI v
  have e : (lg_cmp (jabsL (Int32.toInt64 r - Int32.toInt64 v)) (Int32.toInt64 p) ≤ 0) ↔ ¬ (0 < lg_cmp (jabsL (Int32.toInt64 r - Int32.toInt64 v)) (Int32.toInt64 p)) := by
    rw [Int32.le_iff_toInt_le, Int32.lt_iff_toInt_lt]; omega
  rw [e, lg_gt, t64]
  have s := sub64 r v
  have z : (0 : Int64).toInt = 0 := by decide
  unfold jabsL inTol
  by_cases c : 0 < Int32.toInt64 r - Int32.toInt64 v
  · rw [if_pos c]
    have c' := Int64.lt_iff_toInt_lt.mp c
    omega
  · rw [if_neg c]
    have c' : ¬ (0 : Int64).toInt < (Int32.toInt64 r - Int32.toInt64 v).toInt := fun w => c (Int64.lt_iff_toInt_lt.mpr w)
    have n : (-(Int32.toInt64 r - Int32.toInt64 v)).toInt = -(r.toInt - v.toInt) := by
      rw [Int64.toInt_neg, s, Int.bmod_eq_of_le (by omega) (by omega)]
    rw [n]
    omega
/-- the first night that a story misses -/
def isFal (w shift : Nat → Int32) (p : Int32) (x m z : Nat) : Prop := x ≤ z ∧ z < m ∧ ¬ inTol (w z) (shift z) p ∧ ∀ i, x ≤ i → i < z → inTol (w i) (shift i) p
def noFal (w shift : Nat → Int32) (p : Int32) (x m : Nat) : Prop := ∀ i, x ≤ i → i < m → inTol (w i) (shift i) p
theorem fal_uni {w shift : Nat → Int32} {p : Int32} {x m z z' : Nat} (h : isFal w shift p x m z) (h' : isFal w shift p x m z') : z = z' := by
  obtain ⟨h1, h2, h3, h4⟩ := h
  obtain ⟨g1, g2, g3, g4⟩ := h'
  rcases Nat.lt_trichotomy z z' with c | c | c
  · exact absurd (g4 z h1 c) h3
  · exact c
  · exact absurd (h4 z' g1 c) g3
theorem fal_no {w shift : Nat → Int32} {p : Int32} {x m z : Nat} (h : isFal w shift p x m z) (h' : noFal w shift p x m) : False := h.2.2.1 (h' z h.1 h.2.1)
section FL
variable {v : kTv} {days shift code ca cf ct sf w : Nat → Int32} {k m : Nat} {p : Int32}
theorem fall_L (hm : m ≤ 30) (hp : 0 ≤ p.toInt) (hw : ∀ x, x < 30 → ∀ Lt vals : Nat → Int32, LtN Lt → ∃ Lt' vals' : Nat → Int32, f_X2_shiftBy v.2.1.1 v.2.2.2.1 v.2.2.1.1 v.2.1.2 v.2.2.2.2 v.2.2.1.2 days Lt vals (nI x) = some (w x, Lt', vals') ∧ LtN Lt') :
    ∀ (r x n : Nat) (Lt vals : Nat → Int32), x + r = m → LtN Lt → Sf (f_X2_fallOf_L2 (nI m) v.2.1.1 v.2.1.2 v.2.2.2.1 v.2.2.2.2 v.2.2.1.1 v.2.2.1.2 days shift p (n + r + 1) (nI x) Lt vals) (fun y => LtN y.2.1 ∧ ((∃ z, isFal w shift p x m z ∧ y.1 = nI z) ∨ (noFal w shift p x m ∧ y.1 = -2))) := by
  intro r
  induction r with
  | zero =>
    intro x n Lt vals h hL
    have hx : x = m := by omega
    subst hx
    rw [Nat.add_zero, f_X2_fallOf_L2, if_pos (nI_le (Nat.le_refl _) (by omega))]
    exact Sf_some ⟨hL, Or.inr ⟨fun i h1 h2 => absurd h1 (by omega), rfl⟩⟩
  | succ r ih =>
    intro x n Lt vals h hL
    obtain ⟨Lt', vals', e, hL'⟩ := hw x (by omega) Lt vals hL
    rw [show n + (r + 1) + 1 = (n + r + 1) + 1 by omega, f_X2_fallOf_L2, if_neg (nI_ge (by omega) (by omega)), e, cb3_o, rdI_o (jin_n (by omega) (by omega)), nI_clamp (by omega)]
    refine Sf_ite (fun g => ?_) (fun g => ?_)
    · have hf := (tolC hp).mp g
      rw [nmI_o, nI_1]
      refine Sf_mono (ih (x + 1) n Lt' vals' (by omega) hL') (fun y hy => ⟨hy.1, ?_⟩)
      rcases hy.2 with ⟨z, ⟨z1, z2, z3, z4⟩, hz⟩ | ⟨hn, hy⟩
      · refine Or.inl ⟨z, ⟨by omega, z2, z3, fun i i1 i2 => ?_⟩, hz⟩
        by_cases d : i = x
        · rw [d]; exact hf
        · exact z4 i (by omega) i2
      · refine Or.inr ⟨fun i i1 i2 => ?_, hy⟩
        by_cases d : i = x
        · rw [d]; exact hf
        · exact hn i (by omega) i2
    · exact Sf_some ⟨hL', Or.inl ⟨x, ⟨Nat.le_refl _, by omega, fun c => g ((tolC hp).mpr c), fun i i1 i2 => absurd i1 (by omega)⟩, rfl⟩⟩
theorem falls_L (hm : m ≤ 30) (hp : 0 ≤ p.toInt) (hw : ∀ x, x < 30 → ∀ (a1 a2 a3 a4 a5 a6 a7 a8 a9 a10 a11 a12 a13 : Int32) (rf wo : Nat → Int32), ∃ z : R15, saysF a1 a2 a3 a4 a5 a6 a7 a8 a9 a10 a11 a12 a13 code ca cf rf days sf wo k x = some (w x, z)) :
    ∀ (r x n : Nat) (a1 a2 a3 a4 a5 a6 a7 a8 a9 a10 a11 a12 a13 : Int32) (rf wo : Nat → Int32), x + r = m → Sf (f_X12_fallsAt_L2 (nI m) code ca cf shift days sf (nI k) p (n + r + 1) (nI x) a1 a2 a3 a4 a5 a6 a7 a8 a9 a10 a11 a12 a13 rf wo) (fun y => (∃ z, isFal w shift p x m z ∧ y.1 = nI z) ∨ (noFal w shift p x m ∧ y.1 = nI m)) := by
  intro r
  induction r with
  | zero =>
    intro x n a1 a2 a3 a4 a5 a6 a7 a8 a9 a10 a11 a12 a13 rf wo h
    have hx : x = m := by omega
    subst hx
    rw [Nat.add_zero, f_X12_fallsAt_L2, if_pos (nI_le (Nat.le_refl _) (by omega))]
    exact Sf_some (Or.inr ⟨fun i h1 h2 => absurd h1 (by omega), rfl⟩)
  | succ r ih =>
    intro x n a1 a2 a3 a4 a5 a6 a7 a8 a9 a10 a11 a12 a13 rf wo h
    obtain ⟨z, e⟩ := hw x (by omega) a1 a2 a3 a4 a5 a6 a7 a8 a9 a10 a11 a12 a13 rf wo
    obtain ⟨z1, z2, z3, z4, z5, z6, z7, z8, z9, z10, z11, z12, z13, z14, z15⟩ := z
    have e : f_X12_saysOf a1 a2 a3 a4 a5 a6 a7 a8 a9 a10 a11 a12 a13 code ca cf rf days sf wo (nI k) (nI x) = some (w x, z1, z2, z3, z4, z5, z6, z7, z8, z9, z10, z11, z12, z13, z14, z15) := e
    rw [show n + (r + 1) + 1 = (n + r + 1) + 1 by omega, f_X12_fallsAt_L2, if_neg (nI_ge (by omega) (by omega)), e, cb16_o, rdI_o (jin_n (by omega) (by omega)), nI_clamp (by omega), tolR hp, cb1_o]
    refine Sf_ite (fun g => ?_) (fun g => ?_)
    · rw [bI_0] at g
      exact Sf_some (Or.inl ⟨x, ⟨Nat.le_refl _, by omega, g, fun i i1 i2 => absurd i1 (by omega)⟩, rfl⟩)
    · rw [bI_0] at g
      have hf := Classical.not_not.mp g
      rw [nmI_o, nI_1]
      refine Sf_mono (ih (x + 1) n z1 z2 z3 z4 z5 z6 z7 z8 z9 z10 z11 z12 z13 z14 z15 (by omega)) (fun y hy => ?_)
      rcases hy with ⟨z, ⟨z1, z2, z3, z4⟩, hz⟩ | ⟨hn, hy⟩
      · refine Or.inl ⟨z, ⟨by omega, z2, z3, fun i i1 i2 => ?_⟩, hz⟩
        by_cases d : i = x
        · rw [d]; exact hf
        · exact z4 i (by omega) i2
      · refine Or.inr ⟨fun i i1 i2 => ?_, hy⟩
        by_cases d : i = x
        · rw [d]; exact hf
        · exact hn i (by omega) i2
/-- both: the same night, or none -/
theorem falls_both (hT : TXE v code ca cf ct sf (14 + k) 1) (hk : k < 6) (hm : m ≤ 30) (hp : 0 ≤ p.toInt) : ∃ t : Option Nat, (∀ z, t = some z → z < m) ∧
    (∀ Lt vals : Nat → Int32, LtN Lt → Sf (f_X2_fallOf v.2.1.1 v.2.2.2.1 v.2.2.1.1 (nI m) v.2.1.2 v.2.2.2.2 v.2.2.1.2 days shift Lt vals p) (fun y => LtN y.2.1 ∧ y.1 = (match t with | some z => nI z | none => -2))) ∧
    (∀ (a1 a2 a3 a4 a5 a6 a7 a8 a9 a10 a11 a12 a13 : Int32) (rf wo : Nat → Int32), Sf (f_X12_fallsAt (nI m) a1 a2 a3 a4 a5 a6 a7 a8 a9 a10 a11 a12 a13 code ca cf shift rf days sf wo (nI k) p) (fun y => y.1 = (match t with | some z => nI z | none => nI m))) := by
  obtain ⟨w, hw⟩ := tale_eval hT hk days
  obtain ⟨n, hn⟩ : ∃ n, FU = n + m + 1 := ⟨FU - m - 1, by have := FU_ge; omega⟩
  have hC := fall_L (v := v) (days := days) (shift := shift) (w := w) hm hp (fun x hx => (hw x hx).1) m 0 n
  have hR := falls_L (code := code) (ca := ca) (cf := cf) (sf := sf) (days := days) (shift := shift) (w := w) (k := k) hm hp (fun x hx => (hw x hx).2) m 0 n
  rw [← hn, nI_0] at hC hR
  by_cases c : noFal w shift p 0 m
  · refine ⟨none, fun z hz => (by cases hz), fun Lt vals hL => ?_, fun a1 a2 a3 a4 a5 a6 a7 a8 a9 a10 a11 a12 a13 rf wo => ?_⟩
    · rw [f_X2_fallOf]
      refine Sf_mono (hC Lt vals (by omega) hL) (fun y hy => ⟨hy.1, ?_⟩)
      rcases hy.2 with ⟨z, hz, -⟩ | ⟨-, h⟩
      · exact absurd (fal_no hz c) (fun w => w)
      · exact h
    · rw [f_X12_fallsAt]
      refine Sf_mono (hR a1 a2 a3 a4 a5 a6 a7 a8 a9 a10 a11 a12 a13 rf wo (by omega)) (fun y hy => ?_)
      rcases hy with ⟨z, hz, -⟩ | ⟨-, h⟩
      · exact absurd (fal_no hz c) (fun w => w)
      · exact h
  · obtain ⟨z0', hz0⟩ : ∃ z, isFal w shift p 0 m z := by
      obtain ⟨y, -, hy⟩ := hR 0 0 0 0 0 0 0 0 0 0 0 0 0 days days (by omega)
      rcases hy with ⟨z, hz, -⟩ | ⟨h, -⟩
      · exact ⟨z, hz⟩
      · exact absurd h c
    refine ⟨some z0', fun z hz => by cases hz; exact hz0.2.1, fun Lt vals hL => ?_, fun a1 a2 a3 a4 a5 a6 a7 a8 a9 a10 a11 a12 a13 rf wo => ?_⟩
    · rw [f_X2_fallOf]
      refine Sf_mono (hC Lt vals (by omega) hL) (fun y hy => ⟨hy.1, ?_⟩)
      rcases hy.2 with ⟨z, hz, h⟩ | ⟨h, -⟩
      · rw [h, fal_uni hz hz0]
      · exact absurd h c
    · rw [f_X12_fallsAt]
      refine Sf_mono (hR a1 a2 a3 a4 a5 a6 a7 a8 a9 a10 a11 a12 a13 rf wo (by omega)) (fun y hy => ?_)
      rcases hy with ⟨z, hz, h⟩ | ⟨h, -⟩
      · rw [h, fal_uni hz hz0]
      · exact absurd h c
end FL
section FS
variable {G : kG} {days shift code ca cf ct sf many rf wo Lt vals : Nat → Int32} {ni y1 y2 a1 a2 a3 a4 a5 a6 a7 a8 a9 a10 a11 a12 a13 : Int32}
set_option maxHeartbeats 4000000 in
theorem falls_sim (hT : TX G code ca cf ct sf many) (h0 : 0 ≤ ni.toInt) (h1 : ni.toInt ≤ 30) (hL : LtN Lt) :
    Sf (f_X11_falls G ni days shift Lt vals y1 y2) (fun y => LtN y.2.1 ∧ Sf (f_X12_falls ni a1 a2 a3 a4 a5 a6 a7 a8 a9 a10 a11 a12 a13 code ca cf shift rf many days sf wo y1 y2) (fun z => y.1 = z.1)) := by
  rw [f_X11_falls]
  rcases storyAt_n (G := G) (many := many) (y1 := y1) with ⟨k, hk, hy, e⟩ | ⟨e, e2⟩
  · subst hy
    rw [e, cb1_o]
    rcases told_n hT hk with ⟨g1, g2⟩ | ⟨x, g1, g2, g3⟩
    · refine Sf_oT (fun i hi => by cases hi; omega) (fun _ => Sf_some ⟨hL, ?_⟩) (fun i t hi _ ht => ?_)
      · rw [f_X12_falls, g2, cb1_o, if_pos rfl]; exact Sf_some rfl
      · cases hi; rw [g1] at ht; cases ht
    · refine Sf_oT (fun i hi => by cases hi; omega) (fun h => ?_) (fun i t hi _ ht => ?_)
      · exfalso
        rcases h with h | ⟨i, hi, hn⟩
        · cases h
        · cases hi; rw [g1] at hn; cases hn
      · cases hi
        rw [g1] at ht
        cases ht
        obtain ⟨r, e3, e4, hr⟩ := err_n (y2 := y2)
        rw [e3, cb1_o]
        refine Sf_ite (fun g => Sf_some ⟨hL, ?_⟩) (fun g => ?_)
        · rw [f_X12_falls, g2, cb1_o, if_neg (by decide), e4, cb1_o, if_pos g]; exact Sf_some rfl
        · have hr := hr.resolve_right g
          have ht := tN ni h0
          have hni : ni = nI ni.toNatClampNeg := i32_eq (by rw [nI_toInt (by omega)]; omega)
          generalize ni.toNatClampNeg = m at *
          subst hni
          obtain ⟨t, ht2, hC, hR⟩ := falls_both (days := days) (shift := shift) (m := m) (p := y2) g3 hk (by omega) hr.2.1
          refine Sf_cb3 (hC Lt vals hL) (fun b1 b2 b3 hb => Sf_some ⟨hb.1, ?_⟩)
          rw [f_X12_falls, g2, cb1_o, if_neg (by decide), e4, cb1_o, if_neg g]
          refine Sf_cb16 (hR a1 a2 a3 a4 a5 a6 a7 a8 a9 a10 a11 a12 a13 rf wo) (fun c1 c2 c3 c4 c5 c6 c7 c8 c9 c10 c11 c12 c13 c14 c15 c16 hc => ?_)
          have hb2 := hb.2
          cases t with
          | none =>
            have hc : c1 = nI m := hc
            have hb2 : b1 = -2 := hb2
            rw [if_pos hc]
            exact Sf_some hb2
          | some z =>
            have hc : c1 = nI z := hc
            have hb2 : b1 = nI z := hb2
            have hz := ht2 z rfl
            rw [if_neg (fun w => by rw [hc] at w; have := (nI_eq (by omega) (by omega)).mp w; omega)]
            exact Sf_some (hb2.trans hc.symm)
  · rw [e, cb1_o]
    refine Sf_oT (fun i hi => by cases hi) (fun _ => Sf_some ⟨hL, ?_⟩) (fun i t hi _ ht => by cases hi)
    rw [f_X12_falls, e2, cb1_o, if_pos rfl]; exact Sf_some rfl
end FS
end
section
/-! told, on both sides -/
def goS (B : Nat → Bool) : Nat → Nat → Nat → Int32 → Nat × Int32
  | 0, _, c, l => (c, l)
  | r + 1, k, c, l => if B k = true then goS B r (k + 1) (c + 1) (nI k) else goS B r (k + 1) c l
def goW (B : Nat → Nat → Bool) (p2 : Int32) : Nat → Nat → Int32
  | 0, _ => -1
  | r + 1, x => if (goS (B x) 6 0 0 (-1)).1 = 1 then (if p2 = 0 then nI x else (goS (B x) 6 0 0 (-1)).2) else goW B p2 r (x + 1)
theorem goS_le (B : Nat → Bool) : ∀ (r k c : Nat) (l : Int32), (goS B r k c l).1 ≤ c + r := by
  intro r
  induction r with
  | zero => intro k c l; exact Nat.le_refl _
  | succ r ih =>
    intro k c l
    rw [goS]
    split
    · have := ih (k + 1) (c + 1) (nI k); omega
    · have := ih (k + 1) c l; omega
abbrev FT : Type := Option (Option Nat)
def fallV (t : FT) : Int32 := match t with
  | none => 0
  | some none => -2
  | some (some z) => nI z
def stB (T : Nat → FT) (x k : Nat) : Bool := match T k with
  | none => false
  | some none => true
  | some (some z) => decide (x < z)
section TL
variable {G : kG} {days shift code ca cf ct sf many : Nat → Int32} {m : Nat} {p p2 : Int32} {T : Nat → FT}
def TFact (G : kG) (days shift code ca cf sf many : Nat → Int32) (m : Nat) (p : Int32) (k : Nat) (t : FT) : Prop :=
  (t = none ∧ G.2 (14 + k) = none ∧ f_X12_isTold many (nI k) = some 0) ∨
  (∃ (u : Option Nat) (x : kTx), t = some u ∧ (∀ z, u = some z → z < m) ∧ G.2 (14 + k) = some x ∧ f_X12_isTold many (nI k) = some 1 ∧
    (∀ Lt vals : Nat → Int32, LtN Lt → Sf (f_X2_fallOf x.2.2.1.1 x.2.2.2.2.1 x.2.2.2.1.1 (nI m) x.2.2.1.2 x.2.2.2.2.2 x.2.2.2.1.2 days shift Lt vals p) (fun y => LtN y.2.1 ∧ y.1 = fallV t)) ∧
    (∀ (a1 a2 a3 a4 a5 a6 a7 a8 a9 a10 a11 a12 a13 : Int32) (rf wo : Nat → Int32), Sf (f_X12_fallsAt (nI m) a1 a2 a3 a4 a5 a6 a7 a8 a9 a10 a11 a12 a13 code ca cf shift rf days sf wo (nI k) p) (fun y => y.1 = (match u with | some z => nI z | none => nI m))))
theorem tfacts (hT : TX G code ca cf ct sf many) (hm : m ≤ 30) (hp : 0 ≤ p.toInt) : ∃ T : Nat → FT, ∀ k, k < 6 → TFact G days shift code ca cf sf many m p k (T k) := by
  refine Classical.axiomOfChoice (r := fun k t => k < 6 → TFact G days shift code ca cf sf many m p k t) (fun k => ?_)
  by_cases hk : k < 6
  · rcases told_n hT hk with ⟨g1, g2⟩ | ⟨x, g1, g2, g3⟩
    · exact ⟨none, fun _ => Or.inl ⟨rfl, g1, g2⟩⟩
    · obtain ⟨t, t1, t2, t3⟩ := falls_both (days := days) (shift := shift) (m := m) (p := p) g3 hk hm hp
      refine ⟨some t, fun _ => Or.inr ⟨t, x, rfl, t1, g1, g2, fun Lt vals hL => Sf_mono (t2 Lt vals hL) (fun y hy => ⟨hy.1, ?_⟩), t3⟩⟩
      rw [hy.2]
      cases t <;> rfl
  · exact ⟨none, fun w => absurd w hk⟩
theorem fill_L {K : (Nat → Int32) → (Nat → Int32) → (Nat → Int32) → Option (Int32 × (Nat → Int32) × (Nat → Int32) × (Nat → Int32))} {P : Int32 × (Nat → Int32) × (Nat → Int32) × (Nat → Int32) → Prop} (hT : ∀ k, k < 6 → TFact G days shift code ca cf sf many m p k (T k)) (hK : ∀ fa Lt vals : Nat → Int32, (∀ j, j < 6 → fa j = fallV (T j)) → LtN Lt → Sf (K fa Lt vals) P) :
    ∀ (r k n : Nat) (fa Lt vals : Nat → Int32), k + r = 6 → (∀ j, j < k → fa j = fallV (T j)) → LtN Lt → Sf (f_X2_alone_L2 (nI m) days shift p G K (n + r + 1) (nI k) fa Lt vals) P := by
  intro r
  induction r with
  | zero =>
    intro k n fa Lt vals h hfa hL
    have hk : k = 6 := by omega
    subst hk
    rw [Nat.add_zero, f_X2_alone_L2, if_pos (by decide)]
    exact hK fa Lt vals hfa hL
  | succ r ih =>
    intro k n fa Lt vals h hfa hL
    have hk : k < 6 := by omega
    have j6 : jin (nI k) 6 = true := jin_n hk (by omega)
    have nx : ∀ q : Int32, q = fallV (T k) → ∀ j, j < k + 1 → (upd fa k q) j = fallV (T j) := fun q hq j hj => by
      by_cases d : j = k
      · rw [d, upd_s]; exact hq
      · rw [upd_n d]; exact hfa j (by omega)
    rw [show n + (r + 1) + 1 = (n + r + 1) + 1 by omega, f_X2_alone_L2, if_neg (show ¬ (6 : Int32) ≤ nI k from nI_ge (a := k) (b := 6) hk (by omega)), gdN_o j6, nI_clamp (by omega)]
    rcases hT k hk with ⟨t1, t2, t3⟩ | ⟨u, x, t1, t2, t3, t4, t5, t6⟩
    · refine Sf_oT (fun i hi => by cases hi; omega) (fun _ => ?_) (fun i t hi _ ht => ?_)
      · rw [wrI_o j6, nmI_o, nI_1, nI_clamp (by omega)]
        exact ih (k + 1) n _ Lt vals (by omega) (nx 0 (by rw [t1]; rfl)) hL
      · cases hi; rw [t2] at ht; cases ht
    · refine Sf_oT (fun i hi => by cases hi; omega) (fun h => ?_) (fun i t hi _ ht => ?_)
      · exfalso
        rcases h with h | ⟨i, hi, hn⟩
        · cases h
        · cases hi; rw [t3] at hn; cases hn
      · cases hi
        rw [t3] at ht
        cases ht
        rw [gdN_o j6]
        refine Sf_cb3 (t5 Lt vals hL) (fun b1 b2 b3 hb => ?_)
        rw [wrI_o j6, nmI_o, nI_1, nI_clamp (by omega)]
        exact ih (k + 1) n _ b2 b3 (by omega) (nx b1 hb.2) hb.1
theorem count_L {fa : Nat → Int32} {x : Nat} {K : Int32 → Int32 → Option (Int32 × (Nat → Int32) × (Nat → Int32) × (Nat → Int32))} (hT : ∀ k, k < 6 → TFact G days shift code ca cf sf many m p k (T k)) (hm : m ≤ 30) (hx : x < 30) (hfa : ∀ j, j < 6 → fa j = fallV (T j)) :
    ∀ (r k n c : Nat) (l : Int32), k + r = 6 → f_X2_alone_L63 fa (nI x) K (n + r + 1) (nI c) l (nI k) = K (nI (goS (stB T x) r k c l).1) (goS (stB T x) r k c l).2 := by
  intro r
  induction r with
  | zero =>
    intro k n c l h
    have hk : k = 6 := by omega
    subst hk
    rw [Nat.add_zero, f_X2_alone_L63, if_pos (by decide)]
    rfl
  | succ r ih =>
    intro k n c l h
    have hk : k < 6 := by omega
    have j6 : jin (nI k) 6 = true := jin_n hk (by omega)
    rw [show n + (r + 1) + 1 = (n + r + 1) + 1 by omega, f_X2_alone_L63, if_neg (show ¬ (6 : Int32) ≤ nI k from nI_ge (a := k) (b := 6) hk (by omega)), rdI_o j6, rdI_o j6, nI_clamp (by omega), hfa k hk, goS]
    have hJ : f_X2_alone_J93 (nI c) (f_X2_alone_L63 fa (nI x) K (n + r + 1)) (nI k) = K (nI (goS (stB T x) r (k + 1) (c + 1) (nI k)).1) (goS (stB T x) r (k + 1) (c + 1) (nI k)).2 := by
      rw [f_X2_alone_J93, nmI_o, nmI_o, nI_1, nI_1, ih (k + 1) n (c + 1) (nI k) (by omega)]
    rcases hT k hk with ⟨t1, -⟩ | ⟨u, -, t1, t2, -⟩
    · rw [t1]
      have e : stB T x k = false := by unfold stB; rw [t1]
      have le : fallV none ≤ nI x := nI_le (a := 0) (b := x) (by omega) (by omega)
      rw [e, if_neg (show ¬ (false = true) by decide), if_neg (show ¬ fallV none = -2 by decide), if_pos le, nmI_o, nI_1, ih (k + 1) n c l (by omega)]
    · rw [t1]
      cases u with
      | none =>
        have e : stB T x k = true := by unfold stB; rw [t1]
        rw [e, if_pos (show fallV (some none) = -2 from rfl), hJ, if_pos (show true = true from rfl)]
      | some z =>
        have hz := t2 z rfl
        have e : stB T x k = decide (x < z) := by unfold stB; rw [t1]
        have ne : ¬ fallV (some (some z)) = -2 := fun w => by
          have w : nI z = -2 := w
          have := eqI w
          rw [nI_toInt (by omega)] at this
          have m2 : (-2 : Int32).toInt = -2 := by decide
          omega
        rw [e, if_neg ne]
        by_cases d : x < z
        · rw [if_neg (show ¬ fallV (some (some z)) ≤ nI x from nI_ge (a := x) (b := z) d (by omega)), hJ, if_pos (decide_eq_true d)]
        · rw [if_pos (show fallV (some (some z)) ≤ nI x from nI_le (a := z) (b := x) (by omega) (by omega)), nmI_o, nI_1, ih (k + 1) n c l (by omega), if_neg (fun w => d (of_decide_eq_true w))]
theorem alone_L {fa Lt vals : Nat → Int32} (hT : ∀ k, k < 6 → TFact G days shift code ca cf sf many m p k (T k)) (hm : m ≤ 30) (hfa : ∀ j, j < 6 → fa j = fallV (T j)) (hL : LtN Lt) :
    ∀ (r x n : Nat), x + r = m → Sf (f_X2_alone_L46 (nI m) fa Lt vals (f_X2_alone_J112 p2 fa Lt vals) (n + r + 1) (nI x)) (fun y => LtN y.2.2.1 ∧ y.1 = goW (fun x k => stB T x k) p2 r x) := by
  intro r
  induction r with
  | zero =>
    intro x n h
    have hx : x = m := by omega
    subst hx
    rw [Nat.add_zero, f_X2_alone_L46, if_pos (nI_le (Nat.le_refl _) (by omega))]
    exact Sf_some ⟨hL, rfl⟩
  | succ r ih =>
    intro x n h
    obtain ⟨n6, hn6⟩ : ∃ n, FU = n + 6 + 1 := ⟨FU - 7, by have := FU_ge; omega⟩
    have hle := goS_le (stB T x) 6 0 0 (-1)
    have hc := count_L (K := f_X2_alone_J106 (nI x) (f_X2_alone_L46 (nI m) fa Lt vals (f_X2_alone_J112 p2 fa Lt vals) (n + r + 1)) (f_X2_alone_J112 p2 fa Lt vals)) (x := x) hT hm (by omega) hfa 6 0 n6 0 (-1) (by omega)
    rw [← hn6, nI_0] at hc
    rw [show n + (r + 1) + 1 = (n + r + 1) + 1 by omega, f_X2_alone_L46, if_neg (nI_ge (by omega) (by omega)), hc, f_X2_alone_J106, goW]
    by_cases d : (goS (stB T x) 6 0 0 (-1)).1 = 1
    · rw [if_pos d, if_pos (by rw [d]; decide), f_X2_alone_J112]
      by_cases d2 : p2 = 0
      · rw [if_pos d2, if_pos d2]; exact Sf_some ⟨hL, rfl⟩
      · rw [if_neg d2, if_neg d2]; exact Sf_some ⟨hL, rfl⟩
    · rw [if_neg d, if_neg (show ¬ nI (goS (stB T x) 6 0 0 (-1)).1 = (1 : Int32) from fun w => d ((nI_eq (b := 1) (by omega) (by omega)).mp w)), nmI_o, nI_1]
      exact ih (x + 1) n (by omega)
theorem rcount_L {x : Nat} {K : Int32 → Int32 → Int32 → Int32 → Int32 → Int32 → Int32 → Int32 → Int32 → Int32 → Int32 → Int32 → Int32 → Int32 → Int32 → (Nat → Int32) → (Nat → Int32) → Option R16} {P : R16 → Prop} (hT : ∀ k, k < 6 → TFact G days shift code ca cf sf many m p k (T k)) (hm : m ≤ 30) (hx : x < m) {c0 : Nat} {l0' : Int32} (hK : ∀ (a1 a2 a3 a4 a5 a6 a7 a8 a9 a10 a11 a12 a13 : Int32) (rf wo : Nat → Int32), Sf (K (nI c0) l0' a1 a2 a3 a4 a5 a6 a7 a8 a9 a10 a11 a12 a13 rf wo) P) :
    ∀ (r k n c : Nat) (l : Int32) (a1 a2 a3 a4 a5 a6 a7 a8 a9 a10 a11 a12 a13 : Int32) (rf wo : Nat → Int32), k + r = 6 → goS (stB T x) r k c l = (c0, l0') → Sf (f_X12_told_L38 (nI m) code ca cf shift many days sf p (nI x) K (n + r + 1) (nI c) l (nI k) a1 a2 a3 a4 a5 a6 a7 a8 a9 a10 a11 a12 a13 rf wo) P := by
  intro r
  induction r with
  | zero =>
    intro k n c l a1 a2 a3 a4 a5 a6 a7 a8 a9 a10 a11 a12 a13 rf wo h hg
    have hk : k = 6 := by omega
    subst hk
    rw [goS] at hg
    cases hg
    rw [Nat.add_zero, f_X12_told_L38, if_pos (by decide)]
    exact hK a1 a2 a3 a4 a5 a6 a7 a8 a9 a10 a11 a12 a13 rf wo
  | succ r ih =>
    intro k n c l a1 a2 a3 a4 a5 a6 a7 a8 a9 a10 a11 a12 a13 rf wo h hg
    have hk : k < 6 := by omega
    rw [goS] at hg
    rw [show n + (r + 1) + 1 = (n + r + 1) + 1 by omega, f_X12_told_L38, if_neg (show ¬ (6 : Int32) ≤ nI k from nI_ge (a := k) (b := 6) hk (by omega))]
    rcases hT k hk with ⟨t1, t2, t3⟩ | ⟨u, y, t1, t2, t3, t4, t5, t6⟩
    · have e : stB T x k = false := by unfold stB; rw [t1]
      rw [e, if_neg (show ¬ (false = true) by decide)] at hg
      rw [t3, cb1_o, if_pos rfl, nmI_o, nI_1]
      exact ih (k + 1) n c l a1 a2 a3 a4 a5 a6 a7 a8 a9 a10 a11 a12 a13 rf wo (by omega) hg
    · rw [t4, cb1_o, if_neg (by decide)]
      refine Sf_cb16 (t6 a1 a2 a3 a4 a5 a6 a7 a8 a9 a10 a11 a12 a13 rf wo) (fun c1 b1 b2 b3 b4 b5 b6 b7 b8 b9 b10 b11 b12 b13 b14 b15 hc => ?_)
      cases u with
      | none =>
        have hc : c1 = nI m := hc
        have e : stB T x k = true := by unfold stB; rw [t1]
        rw [e, if_pos rfl] at hg
        rw [hc, if_pos (nI_lt hx (by omega)), nmI_o, nmI_o, nI_1, nI_1]
        exact ih (k + 1) n (c + 1) (nI k) _ _ _ _ _ _ _ _ _ _ _ _ _ _ _ (by omega) hg
      | some z =>
        have hz := t2 z rfl
        have hc : c1 = nI z := hc
        have e : stB T x k = decide (x < z) := by unfold stB; rw [t1]
        rw [e] at hg
        rw [hc]
        by_cases d : x < z
        · rw [if_pos (decide_eq_true d)] at hg
          rw [if_pos (nI_lt d (by omega)), nmI_o, nmI_o, nI_1, nI_1]
          exact ih (k + 1) n (c + 1) (nI k) _ _ _ _ _ _ _ _ _ _ _ _ _ _ _ (by omega) hg
        · rw [if_neg (fun w => d (of_decide_eq_true w))] at hg
          rw [if_neg (nI_nlt (by omega) (by omega)), nmI_o, nI_1]
          exact ih (k + 1) n c l _ _ _ _ _ _ _ _ _ _ _ _ _ _ _ (by omega) hg
theorem told_L (hT : ∀ k, k < 6 → TFact G days shift code ca cf sf many m p k (T k)) (hm : m ≤ 30) :
    ∀ (r x n : Nat) (a1 a2 a3 a4 a5 a6 a7 a8 a9 a10 a11 a12 a13 : Int32) (rf wo : Nat → Int32), x + r = m → Sf (f_X12_told_L21 (nI m) code ca cf shift many days sf p (f_X12_told_J87 p2) (n + r + 1) (nI x) a1 a2 a3 a4 a5 a6 a7 a8 a9 a10 a11 a12 a13 rf wo) (fun z => z.1 = goW (fun x k => stB T x k) p2 r x) := by
  intro r
  induction r with
  | zero =>
    intro x n a1 a2 a3 a4 a5 a6 a7 a8 a9 a10 a11 a12 a13 rf wo h
    have hx : x = m := by omega
    subst hx
    rw [Nat.add_zero, f_X12_told_L21, if_pos (nI_le (Nat.le_refl _) (by omega))]
    exact Sf_some rfl
  | succ r ih =>
    intro x n a1 a2 a3 a4 a5 a6 a7 a8 a9 a10 a11 a12 a13 rf wo h
    obtain ⟨n6, hn6⟩ : ∃ n, FU = n + 6 + 1 := ⟨FU - 7, by have := FU_ge; omega⟩
    have hle := goS_le (stB T x) 6 0 0 (-1)
    rw [show n + (r + 1) + 1 = (n + r + 1) + 1 by omega, f_X12_told_L21, if_neg (nI_ge (by omega) (by omega)), hn6, show (0 : Int32) = nI 0 from nI_0.symm]
    refine rcount_L (c0 := (goS (stB T x) 6 0 0 (-1)).1) (l0' := (goS (stB T x) 6 0 0 (-1)).2) hT hm (by omega) (fun b1 b2 b3 b4 b5 b6 b7 b8 b9 b10 b11 b12 b13 b14 b15 => ?_) 6 0 n6 0 (-1) a1 a2 a3 a4 a5 a6 a7 a8 a9 a10 a11 a12 a13 rf wo (by omega) rfl
    rw [f_X12_told_J81, goW]
    by_cases d : (goS (stB T x) 6 0 0 (-1)).1 = 1
    · rw [if_pos d, if_pos (by rw [d]; decide), f_X12_told_J87]
      by_cases d2 : p2 = 0
      · rw [if_pos d2, if_pos d2]; exact Sf_some rfl
      · rw [if_neg d2, if_neg d2]; exact Sf_some rfl
    · rw [if_neg d, if_neg (show ¬ nI (goS (stB T x) 6 0 0 (-1)).1 = (1 : Int32) from fun w => d ((nI_eq (b := 1) (by omega) (by omega)).mp w)), nmI_o, nI_1]
      exact ih (x + 1) n _ _ _ _ _ _ _ _ _ _ _ _ _ _ _ (by omega)
end TL
theorem lies01 {y : Int32} : ∃ r : Int32, f_X11_isWithin y 0 1 = some r ∧ f_X12_lies (Int32.toInt64 y) 0 1 = some r := by
  have l0 : (0 : Int32).toInt = 0 := by decide
  have l1 : (1 : Int32).toInt = 1 := by decide
  obtain ⟨r, e, h⟩ := s_X11_isWithin y 0 1
  have h := h.2
  refine ⟨r, e, ?_⟩
  rw [L_iff, t64, i64_0, i64_1]
  unfold bI
  rcases h with ⟨a, b, c⟩ | ⟨a, b⟩
  · rw [if_pos ⟨by omega, by omega⟩, show r = 1 from i32_eq (by omega)]
  · rw [if_neg (fun w => by omega), show r = 0 from i32_eq (by omega)]
set_option maxHeartbeats 4000000 in
theorem told_sim {G : kG} {days shift code ca cf ct sf many rf wo fa Lt vals : Nat → Int32} {ni y1 y2 a1 a2 a3 a4 a5 a6 a7 a8 a9 a10 a11 a12 a13 : Int32} (hT : TX G code ca cf ct sf many) (h0 : 0 ≤ ni.toInt) (h1 : ni.toInt ≤ 30) (hL : LtN Lt) :
    Sf (f_X11_told G ni days fa shift Lt vals y1 y2) (fun y => LtN y.2.2.1 ∧ Sf (f_X12_told ni a1 a2 a3 a4 a5 a6 a7 a8 a9 a10 a11 a12 a13 code ca cf shift rf many days sf wo y1 y2) (fun z => y.1 = z.1)) := by
  rw [f_X11_told]
  obtain ⟨r, e3, e4, hr⟩ := err_n (y2 := y1)
  rw [e3, cb1_o]
  refine Sf_ite (fun g => Sf_some ⟨hL, ?_⟩) (fun g => ?_)
  · rw [f_X12_told, e4, cb1_o, if_pos g]; exact Sf_some rfl
  have hr := hr.resolve_right g
  obtain ⟨q, e5, e6⟩ := lies01 (y := y2)
  rw [e5, cb1_o]
  refine Sf_ite (fun g2 => Sf_some ⟨hL, ?_⟩) (fun g2 => ?_)
  · rw [f_X12_told, e4, cb1_o, if_neg g, e6, cb1_o, if_pos g2]; exact Sf_some rfl
  have ht := tN ni h0
  have hni : ni = nI ni.toNatClampNeg := i32_eq (by rw [nI_toInt (by omega)]; omega)
  generalize ni.toNatClampNeg = m at *
  subst hni
  obtain ⟨T, hF⟩ := tfacts (days := days) (shift := shift) (m := m) (p := y1) hT (by omega) hr.2.1
  obtain ⟨n6, hn6⟩ : ∃ n, FU = n + 6 + 1 := ⟨FU - 7, by have := FU_ge; omega⟩
  obtain ⟨n, hn⟩ : ∃ n, FU = n + m + 1 := ⟨FU - m - 1, by have := FU_ge; omega⟩
  refine Sf_cb4 (R := fun y => LtN y.2.2.1 ∧ y.1 = goW (fun x k => stB T x k) y2 m 0) ?_ (fun b1 b2 b3 b4 hb => Sf_some ⟨hb.1, ?_⟩)
  · rw [f_X2_alone, hn6, show (0 : Int32) = nI 0 from nI_0.symm]
    refine fill_L hF (fun fa' Lt' vals' hfa hL' => ?_) 6 0 n6 fa Lt vals (by omega) (fun j hj => absurd hj (by omega)) hL
    have h := alone_L (p2 := y2) (vals := vals') hF (by omega) hfa hL' m 0 n (by omega)
    rw [← hn, nI_0] at h
    rw [f_X2_alone_J44]
    exact h
  · have h := told_L (p2 := y2) hF (by omega) m 0 n a1 a2 a3 a4 a5 a6 a7 a8 a9 a10 a11 a12 a13 rf wo (by omega)
    rw [← hn, nI_0] at h
    rw [f_X12_told, e4, cb1_o, if_neg g, e6, cb1_o, if_neg g2]
    exact Sf_mono h (fun z hz => hb.2.trans hz.symm)
end
section
/-! what stays: letters of the sky's reckoner that are never set -/
def Pt {β : Type} (o : Option β) (P : β → Prop) : Prop := ∀ y, o = some y → P y
section PT
variable {β : Type} {P : β → Prop}
theorem Pt_some {y : β} (h : P y) : Pt (some y) P := fun z hz => by cases hz; exact h
theorem Pt_none : Pt (none : Option β) P := fun z hz => by cases hz
theorem Pt_ite {C : Prop} {_ : Decidable C} {a b : Option β} (h1 : Pt a P) (h2 : Pt b P) : Pt (if C then a else b) P := by
  intro y hy
  by_cases c : C
  · rw [if_pos c] at hy; exact h1 y hy
  · rw [if_neg c] at hy; exact h2 y hy
theorem Pt_nmI {e : Int32} {k : Int32 → Option β} (h : ∀ v, Pt (k v) P) : Pt (nmI e k) P := fun y hy => h e y hy
theorem Pt_rdI {f : Nat → Int32} {n : Nat} {i : Int32} {k : Int32 → Option β} (h : ∀ v, Pt (k v) P) : Pt (rdI f n i k) P := fun y hy => by
  obtain ⟨-, v, -, e⟩ := rdI_s hy
  exact h v y e
theorem Pt_wrI {f : Nat → Int32} {n : Nat} {i x : Int32} {k : (Nat → Int32) → Option β} (h : Pt (k (upd f i.toNatClampNeg x)) P) : Pt (wrI f n i x k) P := fun y hy => by
  obtain ⟨-, v, hv, e⟩ := wrI_s hy
  subst hv
  exact h y e
theorem Pt_gdN {n : Nat} {i : Int32} {k : Option β} (h : Pt k P) : Pt (gdN n i k) P := fun y hy => h y (gdN_s hy).2
theorem Pt_oS {G : kG} {r : Option Nat} {nb : Option β} {sb : Nat → kSr → Option β} (h1 : Pt nb P) (h2 : ∀ i s, Pt (sb i s) P) : Pt (oS G r nb sb) P := fun y hy => by
  rcases oS_s hy with ⟨-, e⟩ | ⟨i, s, -, -, -, -, e⟩
  · exact h1 y e
  · exact h2 i s y e
theorem Pt_oT {G : kG} {r : Option Nat} {nb : Option β} {tb : Nat → kTx → Option β} (h1 : Pt nb P) (h2 : ∀ i s, Pt (tb i s) P) : Pt (oT G r nb tb) P := fun y hy => by
  rcases oT_s hy with ⟨-, e⟩ | ⟨i, s, -, -, -, -, e⟩
  · exact h1 y e
  · exact h2 i s y e
theorem Pt_cb1 {T1 : Type} {x : Option T1} {k : T1 → Option β} (h : ∀ v, Pt (k v) P) : Pt (cb1 x k) P := fun y hy => by
  obtain ⟨v, -, e⟩ := cb1_s hy
  exact h v y e
theorem Pt_cb2 {T1 T2 : Type} {x : Option (T1 × T2)} {k : T1 → T2 → Option β} (h : ∀ a b, Pt (k a b) P) : Pt (cb2 x k) P := fun y hy => by
  obtain ⟨a, b, -, e⟩ := cb2_s hy
  exact h a b y e
theorem Pt_cb3 {T1 T2 T3 : Type} {x : Option (T1 × T2 × T3)} {k : T1 → T2 → T3 → Option β} (h : ∀ a b c, Pt (k a b c) P) : Pt (cb3 x k) P := fun y hy => by
  obtain ⟨a, b, c, -, e⟩ := cb3_s hy
  exact h a b c y e
theorem Pt_cb3R {T1 T2 T3 : Type} {x : Option (T1 × T2 × T3)} {R : T1 × T2 × T3 → Prop} {k : T1 → T2 → T3 → Option β} (hx : Pt x R) (h : ∀ a b c, R (a, b, c) → Pt (k a b c) P) : Pt (cb3 x k) P := fun y hy => by
  obtain ⟨a, b, c, e0, e⟩ := cb3_s hy
  exact h a b c (hx _ e0) y e
theorem Pt_cb4 {T1 T2 T3 T4 : Type} {x : Option (T1 × T2 × T3 × T4)} {k : T1 → T2 → T3 → T4 → Option β} (h : ∀ a b c d, Pt (k a b c d) P) : Pt (cb4 x k) P := fun y hy => by
  obtain ⟨a, b, c, d, -, e⟩ := cb4_s hy
  exact h a b c d y e
theorem Pt_cb5R {T1 T2 T3 T4 T5 : Type} {x : Option (T1 × T2 × T3 × T4 × T5)} {R : T1 × T2 × T3 × T4 × T5 → Prop} {k : T1 → T2 → T3 → T4 → T5 → Option β} (hx : Pt x R) (h : ∀ a b c d e, R (a, b, c, d, e) → Pt (k a b c d e) P) : Pt (cb5 x k) P := fun y hy => by
  obtain ⟨a, b, c, d, e', e0, e⟩ := cb5_s hy
  exact h a b c d e' (hx _ e0) y e
theorem Pt_cb5 {T1 T2 T3 T4 T5 : Type} {x : Option (T1 × T2 × T3 × T4 × T5)} {k : T1 → T2 → T3 → T4 → T5 → Option β} (h : ∀ a b c d e, Pt (k a b c d e) P) : Pt (cb5 x k) P := Pt_cb5R (R := fun _ => True) (fun _ _ => trivial) (fun a b c d e _ => h a b c d e)
theorem Pt_cb7R {T1 T2 T3 T4 T5 T6 T7 : Type} {x : Option (T1 × T2 × T3 × T4 × T5 × T6 × T7)} {R : T1 × T2 × T3 × T4 × T5 × T6 × T7 → Prop} {k : T1 → T2 → T3 → T4 → T5 → T6 → T7 → Option β} (hx : Pt x R) (h : ∀ a b c d e f g, R (a, b, c, d, e, f, g) → Pt (k a b c d e f g) P) : Pt (cb7 x k) P := fun y hy => by
  obtain ⟨a, b, c, d, e', f, g, e0, e⟩ := cb7_s hy
  exact h a b c d e' f g (hx _ e0) y e
end PT
theorem hgt_Pt {nc nm ns : Nat} {sd nu stv mi wi wd cl p2 p3 : Int32} {co md sta Lt vals : Nat → Int32} (hL : LtS Lt) : Pt (f_X7_heightOf nc nm ns sd nu stv mi wi wd cl co md sta Lt vals p2 p3) (fun y => LtS y.2.1) := by
  have hJ : ∀ t0 r2, Pt (f_X7_heightOf_J20 sd nu mi wi wd cl nc co nm md ns sta Lt vals p2 p3 r2 t0) (fun y => LtS y.2.1) := by
    intro t0 r2
    rw [f_X7_heightOf_J20]
    refine Pt_cb1 (fun r24 => Pt_ite (Pt_some hL) (Pt_cb1 (fun r40 => Pt_ite (Pt_some hL) ?_)))
    refine Pt_wrI (Pt_wrI (Pt_wrI (Pt_wrI (Pt_cb1 (fun _ => Pt_cb1 (fun _ => Pt_wrI (Pt_nmI (fun _ => Pt_wrI (Pt_cb1 (fun _ => Pt_wrI ?_))))))))))
    rw [show (100 : Int32).toNatClampNeg = 100 by decide, show (109 : Int32).toNatClampNeg = 109 by decide, show (115 : Int32).toNatClampNeg = 115 by decide, show (97 : Int32).toNatClampNeg = 97 by decide, show (117 : Int32).toNatClampNeg = 117 by decide, show (102 : Int32).toNatClampNeg = 102 by decide, show (120 : Int32).toNatClampNeg = 120 by decide]
    have hL' := fun a b c d e f g => LtS_upd (x := g) (i := 120) (LtS_upd (x := f) (i := 102) (LtS_upd (x := e) (i := 117) (LtS_upd (x := d) (i := 97) (LtS_upd (x := c) (i := 115) (LtS_upd (x := b) (i := 109) (LtS_upd (x := a) (i := 100) hL (by omega)) (by omega)) (by omega)) (by omega)) (by omega)) (by omega)) (by omega)
    exact Pt_cb2 (fun _ _ => Pt_ite (Pt_some (hL' _ _ _ _ _ _ _)) (Pt_cb2 (fun _ _ => Pt_some (hL' _ _ _ _ _ _ _))))
  rw [f_X7_heightOf]
  exact Pt_cb1 (fun _ => Pt_ite (hJ _ _) (hJ _ _))
theorem one_Pt {nc nm ns : Nat} {sd day nu stv mi wi sh wd cl t0 : Int32} {co md sta : Nat → Int32} : ∀ (n : Nat) (x : Int32) (he hi sp Lt vals : Nat → Int32), LtS Lt → Pt (f_X7_layOne_L33 sd day nu stv mi wi sh wd cl nc co nm md ns sta t0 n x he hi sp Lt vals) (fun y => LtS y.2.2.2.1) := by
  intro n
  induction n with
  | zero => intro x he hi sp Lt vals hL; exact Pt_none
  | succ n ih =>
    intro x he hi sp Lt vals hL
    rw [f_X7_layOne_L33]
    exact Pt_ite (Pt_some hL) (Pt_cb1 (fun _ => Pt_cb3R (hgt_Pt hL) (fun _ L' _ hL' => Pt_cb3 (fun _ _ _ => Pt_nmI (fun _ => ih _ _ _ _ L' _ hL')))))
theorem layOne_Pt {nc nm ns : Nat} {sd day nu stv mi wi sh wd cl : Int32} {he hi sp co md sta Lt vals : Nat → Int32} (hL : LtS Lt) : Pt (f_X7_layOne nc nm ns sd day nu stv mi wi sh wd he hi sp cl co md sta Lt vals) (fun y => LtS y.2.2.2.1) := by
  rw [f_X7_layOne]
  refine Pt_ite ?_ ?_
  · rw [f_X7_layOne_J25]
    exact Pt_nmI (fun _ => one_Pt _ _ _ _ _ _ _ hL)
  · rw [f_X7_layOne_J25]
    exact Pt_nmI (fun _ => one_Pt _ _ _ _ _ _ _ hL)
theorem layL_Pt {G : kG} {mn sd p2 rd dy : Int32} : ∀ (n : Nat) (x : Int32) (he hi sp Lt vals : Nat → Int32), LtS Lt → Pt (f_X7_lay_L16 mn sd p2 G rd dy n x he hi sp Lt vals) (fun y => LtS y.2.2.2.2.2.1) := by
  intro n
  induction n with
  | zero => intro x he hi sp Lt vals hL; exact Pt_none
  | succ n ih =>
    intro x he hi sp Lt vals hL
    rw [f_X7_lay_L16]
    exact Pt_ite (Pt_some hL) (Pt_gdN (Pt_oS (Pt_nmI (fun _ => ih _ _ _ _ _ _ hL)) (fun _ _ => Pt_oT (Pt_nmI (fun _ => ih _ _ _ _ _ _ hL)) (fun _ _ => Pt_cb1 (fun _ => Pt_ite (Pt_nmI (fun _ => ih _ _ _ _ _ _ hL)) (Pt_cb5R (layOne_Pt hL) (fun _ _ _ L' _ hL' => Pt_nmI (fun _ => ih _ _ _ _ L' _ hL'))))))))
theorem lay_Pt {G : kG} {mn sd rd dy p2 : Int32} {he hi sp Lt vals : Nat → Int32} (hL : LtS Lt) : Pt (f_X7_lay G mn sd rd dy he hi sp Lt vals p2) (fun y => LtS y.2.2.2.2.2.1) := by
  rw [f_X7_lay]
  exact Pt_ite (Pt_some hL) (Pt_cb5 (fun _ _ _ _ _ => layL_Pt _ _ _ _ _ _ _ hL))
section SK
variable {G : kG} {rd dy mn sd tl p1 p2 p3 p4 p5 : Int32} {he hi mk sp pL pv Lt vals tb : Nat → Int32}
theorem paper_Pt (hL : LtS Lt) : Pt (f_X11_paper G rd dy mn sd he hi sp Lt vals p1 p2 p3) (fun y => LtS y.2.2.2.2.2.2.1) := by
  rw [f_X11_paper]
  exact Pt_cb1 (fun _ => Pt_ite (Pt_some hL) (Pt_cb1 (fun _ => Pt_ite (Pt_some hL) (Pt_cb1 (fun _ => Pt_ite (Pt_some hL) (Pt_cb7R (lay_Pt hL) (fun _ _ _ _ _ L' _ hL' => Pt_ite (Pt_rdI (fun _ => Pt_some hL')) (Pt_rdI (fun _ => Pt_some hL')))))))))
theorem marks_Pt (hL : LtS Lt) : Pt (f_X11_marks G rd dy mn sd he hi mk sp pL pv Lt vals p1 p2 p3) (fun y => LtS y.2.2.2.2.2.2.2.2.2.1) := by
  have hJ : ∀ {a1 a2 a3 a4 : Int32} {b1 b2 b3 b4 b5 b6 b7 b8 : Nat → Int32} {a5 : Int32}, LtS b4 → Pt (f_X11_marks_J47 a1 a2 a3 b1 b2 b3 b4 b5 a5 b6 b7 b8) (fun y => LtS y.2.2.2.2.2.2.2.2.2.1) := by
    intro a1 a2 a3 a4 b1 b2 b3 b4 b5 b6 b7 b8 a5 h
    rw [f_X11_marks_J47]
    exact Pt_ite (Pt_cb1 (fun _ => Pt_some h)) (Pt_cb1 (fun _ => Pt_some h))
  rw [f_X11_marks]
  exact Pt_cb1 (fun _ => Pt_ite (Pt_some hL) (Pt_cb1 (fun _ => Pt_ite (Pt_some hL) (Pt_ite (Pt_cb7R (lay_Pt hL) (fun _ _ _ _ _ L' _ hL' => Pt_gdN (Pt_oT (Pt_cb3 (fun _ _ _ => hJ (a4 := 0) hL')) (fun _ _ => Pt_cb4 (fun _ _ _ _ => hJ (a4 := 0) hL'))))) (Pt_some hL)))))
theorem check_Pt (hL : LtS Lt) : Pt (f_X11_check G rd dy mn sd tl he hi mk sp tb pL pv Lt vals p1 p2 p3) (fun y => LtS y.2.2.2.2.2.2.2.2.2.2.1) := by
  have hJ : ∀ {a1 a2 a3 a4 a5 : Int32} {b0 b1 b2 b3 b4 b5 b6 b7 b8 : Nat → Int32}, LtS b4 → Pt (f_X11_check_J61 a1 b0 a2 a3 a4 b1 b2 b3 b4 b5 a5 b6 b7 b8) (fun y => LtS y.2.2.2.2.2.2.2.2.2.2.1) := by
    intro a1 a2 a3 a4 a5 b0 b1 b2 b3 b4 b5 b6 b7 b8 h
    rw [f_X11_check_J61]
    exact Pt_cb1 (fun _ => Pt_cb1 (fun _ => Pt_some h))
  rw [f_X11_check]
  exact Pt_cb1 (fun _ => Pt_ite (Pt_some hL) (Pt_cb1 (fun _ => Pt_ite (Pt_some hL) (Pt_cb1 (fun _ => Pt_ite (Pt_some hL) (Pt_cb7R (lay_Pt hL) (fun _ _ _ _ _ L' _ hL' => Pt_gdN (Pt_oT (Pt_cb3 (fun _ _ _ => hJ hL')) (fun _ _ => Pt_cb4 (fun _ _ _ _ => hJ hL'))))))))))
theorem passed_L : ∀ (n : Nat) (x7 x8 dy rd : Int32) (he hi mk pL pv sp Lt vals : Nat → Int32), LtS Lt → Pt (f_X11_passed_L74 mn sd p1 p2 p4 p5 G (f_X11_passed_J143 p1 p2 p5) (f_X11_passed_J177 p5) n x7 x8 dy rd he hi mk pL pv sp Lt vals) (fun y => LtS y.2.2.2.2.2.2.2.2.2.1) := by
  intro n
  induction n with
  | zero => intro x7 x8 dy rd he hi mk pL pv sp Lt vals hL; exact Pt_none
  | succ n ih =>
    intro x7 x8 dy rd he hi mk pL pv sp Lt vals hL
    rw [f_X11_passed_L74]
    refine Pt_ite ?_ (Pt_cb7R (lay_Pt hL) (fun _ _ _ _ _ L' _ hL' => Pt_gdN (Pt_oT (Pt_cb3 (fun _ _ _ => ?_)) (fun _ _ => Pt_cb4 (fun _ _ _ _ => ?_)))))
    · rw [f_X11_passed_J177]; exact Pt_ite (Pt_some hL) (Pt_some hL)
    all_goals
      rw [f_X11_passed_J108]
      refine Pt_gdN (Pt_oT (Pt_cb3 (fun _ _ _ => ?_)) (fun _ _ => Pt_cb4 (fun _ _ _ _ => ?_)))
      all_goals
        rw [f_X11_passed_J122]
        refine Pt_cb1 (fun _ => Pt_ite ?_ (Pt_ite ?_ ?_))
        · rw [f_X11_passed_J164]; exact Pt_nmI (fun _ => Pt_nmI (fun _ => ih _ _ _ _ _ _ _ _ _ _ _ _ hL'))
        · rw [f_X11_passed_J164]; exact Pt_nmI (fun _ => Pt_nmI (fun _ => ih _ _ _ _ _ _ _ _ _ _ _ _ hL'))
        · rw [f_X11_passed_J143]; exact Pt_ite (Pt_some hL') (Pt_cb1 (fun _ => Pt_some hL'))
theorem passed_Pt (hL : LtS Lt) : Pt (f_X11_passed G rd dy mn sd he hi mk sp pL pv Lt vals p1 p2 p3 p4 p5) (fun y => LtS y.2.2.2.2.2.2.2.2.2.1) := by
  have hJ : ∀ t : Int32, Pt (f_X11_passed_J44 rd dy mn sd he hi mk sp pL pv Lt vals p1 p2 p3 p4 p5 G t) (fun y => LtS y.2.2.2.2.2.2.2.2.2.1) := by
    intro t
    rw [f_X11_passed_J44]
    exact Pt_ite (Pt_some hL) (Pt_ite (Pt_some hL) (Pt_ite (passed_L _ _ _ _ _ _ _ _ _ _ _ _ _ hL) (Pt_some hL)))
  rw [f_X11_passed]
  exact Pt_cb1 (fun _ => Pt_ite (hJ 0) (Pt_cb1 (fun _ => Pt_ite (hJ 0) (Pt_cb1 (fun _ => Pt_ite (hJ 0) (Pt_cb1 (fun _ => Pt_ite (hJ 0) (Pt_cb1 (fun _ => Pt_ite (hJ 0) (hJ 1))))))))))
end SK
end
section
/-! height, the method -/
section HT
variable {so sd a1 a2 a3 a4 a5 a6 a7 a8 a9 a10 a11 a12 a13 p1 p2 p3 : Int32} {bs code ca cf ct rf many mo sf wd wi sh wo Lt vals : Nat → Int32} {s : Nat} {G : kG}
theorem hN0 {st mi w d : Int32} : f_X7_heightOf_N st mi w d p2 p3 = some 0 := by
  have hJ : ∀ t : Int32, f_X7_heightOf_N_J20 mi w d p2 t = some 0 := by
    intro t
    rw [f_X7_heightOf_N_J20, f_X11_minutesApart, nmI_o, cb1_o]
    obtain ⟨q, e, -⟩ := s_X8_comesOn d p2
    rw [e, cb1_o]
    split
    · rfl
    · split <;> rfl
  rw [f_X7_heightOf_N, f_X11_starMinute, cb1_o]
  split <;> exact hJ _
theorem hgt_none (hs : s < 10) (h2 : 0 ≤ p2.toInt ∧ p2.toInt ≤ 399) (h3 : 0 ≤ p3.toInt ∧ p3.toInt ≤ 1439) (hm : 0 ≤ (mo s).toInt ∧ (mo s).toInt ≤ 1439) (hsd : 0 ≤ sd.toInt ∧ sd.toInt ≤ 999) (hmany : many s = 0) : Sf (hOfR sd a1 a2 a3 a4 a5 a6 a7 a8 a9 a10 a11 a12 a13 bs code ca cf ct rf many mo sf wd wi wo s p2 p3) (fun z => z.1 = 0) := by
  by_cases c : C_of wd s p2 = 0
  · exact hgt_no hs h2 h3 hm (Or.inl c)
  by_cases d : wi s < A_of bs mo s p2 p3
  · exact hgt_no hs h2 h3 hm (Or.inr d)
  obtain ⟨X, hX, -⟩ := s_X7_luck sd (nI s) p2 p3
  obtain ⟨n, hn⟩ : ∃ n, FU = n + 1 := ⟨FU - 1, by have := FU_ge; omega⟩
  have j1 : jin (0 + nI s) 20 = true := by rw [show (0 : Int32) = nI 0 from nI_0.symm, nI_add]; exact jin_n (by omega) (by omega)
  have c1 : (0 + nI s).toNatClampNeg = s := by rw [show (0 : Int32) = nI 0 from nI_0.symm, nI_add, nI_clamp (by omega), Nat.zero_add]
  have c2 : (12 : Int32) * (0 + nI s) + 0 = nI (12 * s) := by rw [show (0 : Int32) = nI 0 from nI_0.symm, show (12 : Int32) = nI 12 from rfl, nI_add, pk_mul, nI_add, Nat.zero_add, Nat.add_zero]
  rw [hgt_yes hs h2 h3 hm c d hsd hX, hn, f_X12_heightOf_L95, rdI_o j1, c1, hmany, c2, if_pos (nI_le (Nat.le_refl _) (by omega))]
  exact Sf_some rfl
set_option maxHeartbeats 4000000 in
theorem height_sim (hk0 : 0 ≤ so.toInt) (hk1 : so.toInt ≤ 10) (hsd : 0 ≤ sd.toInt ∧ sd.toInt ≤ 999) (hsrc : SRC G so bs mo wi sh wd) (hT : TX G code ca cf ct sf many) (hL : LtS Lt) :
    Sf (f_X11_height G so sd Lt vals p1 p2 p3) (fun y => LtS y.2.1 ∧ Sf (f_X12_height so sd a1 a2 a3 a4 a5 a6 a7 a8 a9 a10 a11 a12 a13 bs code ca cf ct rf many mo sf wd wi wo p1 p2 p3) (fun z => y.1 = z.1)) := by
  have l0 : (0 : Int32).toInt = 0 := by decide
  obtain ⟨ri, hri, hrp⟩ := e_X12_isSource so p1 hk0 hk1
  obtain ⟨rd, hrd, hrd2⟩ := s_X12_isDay p2
  obtain ⟨rm, hrm, hrm2⟩ := s_X12_isMinute p3
  have hrp := hrp.2
  have hrd2 := hrd2.2
  have hrm2 := hrm2.2
  have hno : (ri = 0 ∨ rd = 0 ∨ rm = 0) → Sf (f_X12_height so sd a1 a2 a3 a4 a5 a6 a7 a8 a9 a10 a11 a12 a13 bs code ca cf ct rf many mo sf wd wi wo p1 p2 p3) (fun z => (-1 : Int32) = z.1) := by
    intro h
    rw [f_X12_height, hri, cb1_o]
    by_cases c1 : ri = 0
    · rw [if_pos c1]; exact Sf_some rfl
    · rw [if_neg c1, hrd, cb1_o]
      by_cases c2 : rd = 0
      · rw [if_pos c2]; exact Sf_some rfl
      · rw [if_neg c2, hrm, cb1_o, if_pos ((h.resolve_left c1).resolve_left c2)]; exact Sf_some rfl
  rw [f_X11_height]
  refine Sf_cb1 (e_X7_sourceAt G so p1 hk0 hk1) (fun r hr => ?_)
  refine Sf_oS (fun i hi => ?_) (fun h => ?_) (fun i s0 hi hi10 hs => ?_)
  · rcases hr with h | h
    · rw [h.2.2] at hi
      cases hi
      have := tN p1 h.1
      omega
    · rw [h.1] at hi; cases hi
  · refine Sf_some ⟨hL, hno (Or.inl ?_)⟩
    rcases hr with h' | h'
    · exfalso
      rcases h with h | ⟨i, hi, hn⟩
      · rw [h'.2.2] at h; cases h
      · rw [h'.2.2] at hi
        cases hi
        have := tN p1 h'.1
        obtain ⟨a, hs, -⟩ := hsrc p1.toNatClampNeg (by omega)
        rw [hs] at hn
        cases hn
    · exact i32_eq (by omega)
  · have hr1 : 0 ≤ p1.toInt ∧ p1.toInt < so.toInt ∧ i = p1.toNatClampNeg := by
      rcases hr with h | h
      · rw [h.2.2] at hi; cases hi; exact ⟨h.1, h.2.1, rfl⟩
      · rw [h.1] at hi; cases hi
    obtain ⟨b1, b2, b3⟩ := hr1
    subst b3
    have hti := tN p1 b1
    have hp1 : p1 = nI p1.toNatClampNeg := i32_eq (by rw [nI_toInt (by omega)]; omega)
    generalize p1.toNatClampNeg = s at *
    have hri0 : ¬ ri = 0 := fun w => by have := eqI w; omega
    obtain ⟨a, hsa, hbs, hmo, -⟩ := hsrc s (by omega)
    rw [hsa] at hs
    cases hs
    refine Sf_cb1 (s_X11_isDay p2) (fun r1 h1 => ?_)
    have h1 := h1.2
    refine Sf_ite (fun g => Sf_some ⟨hL, hno (Or.inr (Or.inl (i32_eq (by have := eqI g; omega))))⟩) (fun g => ?_)
    have g := neI g
    refine Sf_cb1 (s_X11_isMinute p3) (fun r2 h2 => ?_)
    have h2 := h2.2
    refine Sf_ite (fun g2 => Sf_some ⟨hL, hno (Or.inr (Or.inr (i32_eq (by have := eqI g2; omega))))⟩) (fun g2 => ?_)
    have g2 := neI g2
    have hd : 0 ≤ p2.toInt ∧ p2.toInt ≤ 399 := by omega
    have hmn : 0 ≤ p3.toInt ∧ p3.toInt ≤ 1439 := by omega
    have hrd0 : ¬ rd = 0 := fun w => by have := eqI w; omega
    have hrm0 : ¬ rm = 0 := fun w => by have := eqI w; omega
    subst hp1
    have hyes : ∀ q : Int32, Sf (hOfR sd a1 a2 a3 a4 a5 a6 a7 a8 a9 a10 a11 a12 a13 bs code ca cf ct rf many mo sf wd wi wo s p2 p3) (fun z => z.1 = q) → Sf (f_X12_height so sd a1 a2 a3 a4 a5 a6 a7 a8 a9 a10 a11 a12 a13 bs code ca cf ct rf many mo sf wd wi wo (nI s) p2 p3) (fun z => q = z.1) := by
      intro q hq
      rw [f_X12_height, hri, cb1_o, if_neg hri0, hrd, cb1_o, if_neg hrd0, hrm, cb1_o, if_neg hrm0]
      exact Sf_cb16 hq (fun c1 c2 c3 c4 c5 c6 c7 c8 c9 c10 c11 c12 c13 c14 c15 c16 hc => Sf_some (show q = c1 from hc.symm))
    rcases hT s (by omega) with ⟨t1, t2⟩ | ⟨x, c, t1, t2, t3⟩
    · refine Sf_oT (fun i hi => by cases hi; omega) (fun _ => ?_) (fun i t hi _ ht => ?_)
      · rw [hN0, cb1_o]
        exact Sf_some ⟨hL, hyes 0 (hgt_none (by omega) hd hmn hmo hsd t2)⟩
      · cases hi; rw [t1] at ht; cases ht
    · refine Sf_oT (fun i hi => by cases hi; omega) (fun h => ?_) (fun i t hi _ ht => ?_)
      · exfalso
        rcases h with h | ⟨i, hi, hn⟩
        · cases h
        · cases hi; rw [t1] at hn; cases hn
      · cases hi
        rw [t1] at ht
        cases ht
        have hR : TXR 1 x.2 code ca cf ct sf s c := by
          rcases t3 with w | w | w
          · exact w.2
          · exact absurd w.1 (by omega)
          · exact absurd w.1 (by omega)
        refine Sf_cb3 (hgt_sim (a1 := a1) (a2 := a2) (a3 := a3) (a4 := a4) (a5 := a5) (a6 := a6) (a7 := a7) (a8 := a8) (a9 := a9) (a10 := a10) (a11 := a11) (a12 := a12) (a13 := a13) (rf := rf) (wo := wo) (bs := bs) (mo := mo) (wi := wi) (wd := wd) (by omega) hd hmn hmo hsd hR t2 hL) (fun q1 q2 q3 hq => Sf_some ⟨hq.1, hyes q1 hq.2⟩)
end HT
end
