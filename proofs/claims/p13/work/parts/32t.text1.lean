/-! what the reference keeps of a text -/
section T1
variable {P : (Nat → Int32) × (Nat → Int32) × (Nat → Int32) × (Nat → Int32) × (Nat → Int32) × (Nat → Int32) → Prop}
theorem keepsA {k s : Nat} {na nc code0 ca0 : Nat → Int32} {K : (Nat → Int32) → (Nat → Int32) → Option ((Nat → Int32) × (Nat → Int32) × (Nat → Int32) × (Nat → Int32) × (Nat → Int32) × (Nat → Int32))} (hs : s < 20) (hk : k ≤ 120)
    (hK : ∀ code ca : Nat → Int32, (∀ j, j < k → code (120 * s + j) = nc j ∧ ca (120 * s + j) = na j) → (∀ q, (q < 120 * s ∨ 120 * s + 120 ≤ q) → code q = code0 q ∧ ca q = ca0 q) → Sf (K code ca) P) :
    ∀ (r x n : Nat) (code ca : Nat → Int32), x + r = k → (∀ j, j < x → code (120 * s + j) = nc j ∧ ca (120 * s + j) = na j) → (∀ q, (q < 120 * s ∨ 120 * s + 120 ≤ q) → code q = code0 q ∧ ca q = ca0 q) → Sf (f_X12_keeps_L84 (nI k) na nc (nI s) K (n + r + 1) (nI x) code ca) P := by
  intro r
  induction r with
  | zero =>
    intro x n code ca h1 h2 h3
    have hx : x = k := by omega
    subst hx
    rw [Nat.add_zero, f_X12_keeps_L84, if_pos (nI_le (Nat.le_refl _) (by omega))]
    exact hK code ca h2 h3
  | succ r ih =>
    intro x n code ca h1 h2 h3
    have j1 : jin (nI x) 120 = true := jin_n (by omega) (by omega)
    have j2 : jin (nI (120 * s + x)) 2400 = true := jin_n (by omega) (by omega)
    rw [show n + (r + 1) + 1 = (n + r + 1) + 1 by omega, f_X12_keeps_L84, if_neg (nI_ge (by omega) (by omega)), show (120 : Int32) = nI 120 from rfl, pk_mul, nI_add, rdI_o j1, wrI_o j2, rdI_o j1, wrI_o j2, nmI_o, nI_1, nI_clamp (by omega), nI_clamp (by omega)]
    refine ih (x + 1) n _ _ (by omega) (fun j hj => ?_) (fun q hq => ?_)
    · by_cases d : j = x
      · subst d; exact ⟨upd_s _ _ _, upd_s _ _ _⟩
      · rw [upd_n (by omega), upd_n (by omega)]; exact h2 j (by omega)
    · rw [upd_n (by omega), upd_n (by omega)]; exact h3 q hq
theorem keepsB {c s : Nat} {nf ns nt cf0 ct0 sf0 : Nat → Int32} {K : (Nat → Int32) → (Nat → Int32) → (Nat → Int32) → Option ((Nat → Int32) × (Nat → Int32) × (Nat → Int32) × (Nat → Int32) × (Nat → Int32) × (Nat → Int32))} (hs : s < 20) (hc : c ≤ 12)
    (hK : ∀ cf ct sf : Nat → Int32, (∀ j, j < c → sf (12 * s + j) = nI (120 * s) + ns j ∧ cf (12 * s + j) = nI (120 * s) + nf j ∧ ct (12 * s + j) = nI (120 * s) + nt j) → (∀ q, (q < 12 * s ∨ 12 * s + 12 ≤ q) → sf q = sf0 q ∧ cf q = cf0 q ∧ ct q = ct0 q) → Sf (K cf ct sf) P) :
    ∀ (r x n : Nat) (cf ct sf : Nat → Int32), x + r = c → (∀ j, j < x → sf (12 * s + j) = nI (120 * s) + ns j ∧ cf (12 * s + j) = nI (120 * s) + nf j ∧ ct (12 * s + j) = nI (120 * s) + nt j) → (∀ q, (q < 12 * s ∨ 12 * s + 12 ≤ q) → sf q = sf0 q ∧ cf q = cf0 q ∧ ct q = ct0 q) → Sf (f_X12_keeps_L2 (nI c) nf ns nt (nI s) K (n + r + 1) (nI x) cf ct sf) P := by
  intro r
  induction r with
  | zero =>
    intro x n cf ct sf h1 h2 h3
    have hx : x = c := by omega
    subst hx
    rw [Nat.add_zero, f_X12_keeps_L2, if_pos (nI_le (Nat.le_refl _) (by omega))]
    exact hK cf ct sf h2 h3
  | succ r ih =>
    intro x n cf ct sf h1 h2 h3
    have j1 : jin (nI x) 12 = true := jin_n (by omega) (by omega)
    have j2 : jin (nI (12 * s + x)) 240 = true := jin_n (by omega) (by omega)
    rw [show n + (r + 1) + 1 = (n + r + 1) + 1 by omega, f_X12_keeps_L2, if_neg (nI_ge (by omega) (by omega)), show (120 : Int32) = nI 120 from rfl, show (12 : Int32) = nI 12 from rfl, pk_mul, pk_mul, nI_add, rdI_o j1, nmI_o, wrI_o j2, rdI_o j1, nmI_o, wrI_o j2, rdI_o j1, nmI_o, wrI_o j2, nmI_o, nI_1, nI_clamp (by omega), nI_clamp (by omega)]
    refine ih (x + 1) n _ _ _ (by omega) (fun j hj => ?_) (fun q hq => ?_)
    · by_cases d : j = x
      · subst d; exact ⟨upd_s _ _ _, upd_s _ _ _, upd_s _ _ _⟩
      · rw [upd_n (by omega), upd_n (by omega), upd_n (by omega)]; exact h2 j (by omega)
    · rw [upd_n (by omega), upd_n (by omega), upd_n (by omega)]; exact h3 q hq
end T1
def keptQ (c k s : Nat) (na nc nf ns nt code0 ca0 cf0 ct0 sf0 many0 : Nat → Int32) (y : (Nat → Int32) × (Nat → Int32) × (Nat → Int32) × (Nat → Int32) × (Nat → Int32) × (Nat → Int32)) : Prop :=
  (∀ j, j < k → y.1 (120 * s + j) = nc j ∧ y.2.1 (120 * s + j) = na j) ∧ (∀ q, (q < 120 * s ∨ 120 * s + 120 ≤ q) → y.1 q = code0 q ∧ y.2.1 q = ca0 q) ∧
  (∀ j, j < c → y.2.2.2.2.2 (12 * s + j) = nI (120 * s) + ns j ∧ y.2.2.1 (12 * s + j) = nI (120 * s) + nf j ∧ y.2.2.2.1 (12 * s + j) = nI (120 * s) + nt j) ∧ (∀ q, (q < 12 * s ∨ 12 * s + 12 ≤ q) → y.2.2.2.2.2 q = sf0 q ∧ y.2.2.1 q = cf0 q ∧ y.2.2.2.1 q = ct0 q) ∧ y.2.2.2.2.1 = upd many0 s (nI c)
theorem keeps_n {c k s : Nat} {na nc nf ns nt code ca cf ct sf many : Nat → Int32} (hs : s < 20) (hk : k ≤ 120) (hc : c ≤ 12) : Sf (f_X12_keeps (nI c) (nI k) code ca cf ct many na nc nf ns nt sf (nI s)) (keptQ c k s na nc nf ns nt code ca cf ct sf many) := by
  obtain ⟨n, hn⟩ : ∃ n, FU = n + c + 1 := ⟨FU - c - 1, by have := FU_ge; omega⟩
  obtain ⟨n', hn'⟩ : ∃ n, FU = n + k + 1 := ⟨FU - k - 1, by have := FU_ge; omega⟩
  rw [f_X12_keeps, show (0 : Int32) = nI 0 from nI_0.symm]
  have h := keepsB (P := keptQ c k s na nc nf ns nt code ca cf ct sf many) (K := f_X12_keeps_J82 (nI c) (nI k) code ca many na nc (nI s)) (nf := nf) (ns := ns) (nt := nt) (cf0 := cf) (ct0 := ct) (sf0 := sf) hs hc (fun cf' ct' sf' h1 h2 => ?_) c 0 n cf ct sf (by omega) (fun j hj => absurd hj (by omega)) (fun q _ => ⟨rfl, rfl, rfl⟩)
  · rw [← hn] at h; exact h
  · rw [f_X12_keeps_J82, show (0 : Int32) = nI 0 from nI_0.symm]
    have h := keepsA (P := keptQ c k s na nc nf ns nt code ca cf ct sf many) (K := f_X12_keeps_J132 (nI c) many (nI s) cf' ct' sf') (na := na) (nc := nc) (code0 := code) (ca0 := ca) hs hk (fun code' ca' g1 g2 => ?_) k 0 n' code ca (by omega) (fun j hj => absurd hj (by omega)) (fun q _ => ⟨rfl, rfl⟩)
    · rw [← hn'] at h; exact h
    · rw [f_X12_keeps_J132, wrI_o (jin_n hs (by omega)), nI_clamp (by omega)]
      exact Sf_some ⟨g1, g2, h1, h2, rfl⟩
