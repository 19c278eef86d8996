/-- the texts that are kept: their clauses' codes lie in the text's own place -/
def XO (code cf ct sf : Nat → Int32) (i j : Nat) : Prop := 120 * (i : Int) ≤ (sf (12 * i + j)).toInt ∧ (sf (12 * i + j)).toInt ≤ (cf (12 * i + j)).toInt ∧ (cf (12 * i + j)).toInt ≤ (ct (12 * i + j)).toInt ∧ (ct (12 * i + j)).toInt ≤ 120 * (i : Int) + 120 ∧ (∃ z, dep code (sf (12 * i + j)).toNatClampNeg ((cf (12 * i + j)).toNatClampNeg - (sf (12 * i + j)).toNatClampNeg) = some z) ∧ (∃ z, dep code (cf (12 * i + j)).toNatClampNeg ((ct (12 * i + j)).toNatClampNeg - (cf (12 * i + j)).toNatClampNeg) = some z)
def rOK (code cf ct sf many : Nat → Int32) : Prop := ∀ i : Nat, i < 20 → 0 ≤ (many i).toInt ∧ (many i).toInt ≤ 12 ∧ ∀ j : Nat, (j : Int) < (many i).toInt → XO code cf ct sf i j
theorem dep_shift {c c' : Nat → Int32} {a a' : Nat} : ∀ {n : Nat}, (∀ i, i < n → c (a + i) = c' (a' + i)) → dep c a n = dep c' a' n := by
  intro n
  induction n with
  | zero => intro _; rfl
  | succ n ih =>
    intro h
    show (dep c a n).bind _ = (dep c' a' n).bind _
    rw [ih (fun i hi => h i (by omega)), h n (by omega)]
theorem idx_e {p x : Int32} (c : Int32) (C : Int) (hC : c.toInt = C) (hC2 : 0 ≤ C) (hC3 : C ≤ 120) (h1 : 0 ≤ p.toInt) (h2 : p.toInt < 20) (h3 : 0 ≤ x.toInt) (h4 : x.toInt ≤ 200) : (c * p + x).toInt = C * p.toInt + x.toInt := by
  have b1 : 0 ≤ C * p.toInt := Int.mul_nonneg hC2 h1
  have b2 : C * p.toInt ≤ 120 * 20 := Int.mul_le_mul hC3 (by omega) h1 (by omega)
  have e1 := mlY c p C hC (by omega) (by omega)
  have e2 := adX (c * p) x (by omega) (by omega)
  omega
theorem keeps_L84 {P : (Nat → Int32) × (Nat → Int32) × (Nat → Int32) × (Nat → Int32) × (Nat → Int32) × (Nat → Int32) → Prop} {k p : Int32} {na nc code0 : Nat → Int32} {K : (Nat → Int32) → (Nat → Int32) → Option ((Nat → Int32) × (Nat → Int32) × (Nat → Int32) × (Nat → Int32) × (Nat → Int32) × (Nat → Int32))} (hp : 0 ≤ p.toInt) (hp2 : p.toInt < 20) (hk : k.toInt ≤ 120)
    (hK : ∀ code ca : Nat → Int32, (∀ j : Nat, (j : Int) < k.toInt → code (120 * p.toNatClampNeg + j) = nc j) → (∀ q : Nat, (q < 120 * p.toNatClampNeg ∨ 120 * p.toNatClampNeg + 120 ≤ q) → code q = code0 q) → Sf (K code ca) P) : ∀ (n : Nat) (x : Int32) (code ca : Nat → Int32), 0 ≤ x.toInt → (∀ j : Nat, (j : Int) < x.toInt → code (120 * p.toNatClampNeg + j) = nc j) → (∀ q : Nat, (q < 120 * p.toNatClampNeg ∨ 120 * p.toNatClampNeg + 120 ≤ q) → code q = code0 q) → 1 + k.toInt - x.toInt < (n : Int) → 1 ≤ n →
    Sf (f_X12_keeps_L84 k na nc p K n x code ca) P := by
  intro n
  induction n with
  | zero => intro x code ca h1 h2 h3 h4 h5; exact absurd h5 (by omega)
  | succ n ih =>
    intro x code ca h1 h2 h3 h4 h5
    rw [f_X12_keeps_L84]
    refine Sf_ite (fun h => ?_) (fun h => ?_)
    · have := leI h
      exact hK code ca (fun j hj => h2 j (by omega)) h3
    · have c1 := nleI h
      have t := tN p hp
      have tx := tN x h1
      have e0 := idx_e (p := p) (x := x) 120 120 (by decide) (by omega) (by omega) hp hp2 h1 (by omega)
      have ti := tN (120 * p + x) (by omega)
      have o1 : (1 : Int32).toInt = 1 := by decide
      have e1 := adX x 1 (by omega) (by omega)
      rw [rdI_o (jin_of h1 (by omega)), wrI_o (jin_of (by omega) (by omega)), rdI_o (jin_of h1 (by omega)), wrI_o (jin_of (by omega) (by omega)), nmI_o]
      refine ih (x + 1) _ _ (by omega) (fun j hj => ?_) (fun q hq => ?_) (by omega) (by omega)
      · unfold upd
        by_cases cj : 120 * p.toNatClampNeg + j = (120 * p + x).toNatClampNeg
        · rw [if_pos cj]; congr 1; omega
        · rw [if_neg cj]; exact h2 j (by omega)
      · unfold upd
        rw [if_neg (by omega)]
        exact h3 q hq
theorem keeps_L2 {P : (Nat → Int32) × (Nat → Int32) × (Nat → Int32) × (Nat → Int32) × (Nat → Int32) × (Nat → Int32) → Prop} {c p : Int32} {nf ns nt cf0 ct0 sf0 : Nat → Int32} {K : (Nat → Int32) → (Nat → Int32) → (Nat → Int32) → Option ((Nat → Int32) × (Nat → Int32) × (Nat → Int32) × (Nat → Int32) × (Nat → Int32) × (Nat → Int32))} (hp : 0 ≤ p.toInt) (hp2 : p.toInt < 20) (hc : c.toInt ≤ 12)
    (hT : ∀ j : Nat, (j : Int) < c.toInt → 0 ≤ (ns j).toInt ∧ (ns j).toInt ≤ (nf j).toInt ∧ (nf j).toInt ≤ (nt j).toInt ∧ (nt j).toInt ≤ 120)
    (hK : ∀ cf ct sf : Nat → Int32, (∀ j : Nat, (j : Int) < c.toInt → (sf (12 * p.toNatClampNeg + j)).toInt = 120 * p.toInt + (ns j).toInt ∧ (cf (12 * p.toNatClampNeg + j)).toInt = 120 * p.toInt + (nf j).toInt ∧ (ct (12 * p.toNatClampNeg + j)).toInt = 120 * p.toInt + (nt j).toInt) → (∀ q : Nat, (q < 12 * p.toNatClampNeg ∨ 12 * p.toNatClampNeg + 12 ≤ q) → sf q = sf0 q ∧ cf q = cf0 q ∧ ct q = ct0 q) → Sf (K cf ct sf) P) : ∀ (n : Nat) (x : Int32) (cf ct sf : Nat → Int32), 0 ≤ x.toInt → (∀ j : Nat, (j : Int) < x.toInt → (sf (12 * p.toNatClampNeg + j)).toInt = 120 * p.toInt + (ns j).toInt ∧ (cf (12 * p.toNatClampNeg + j)).toInt = 120 * p.toInt + (nf j).toInt ∧ (ct (12 * p.toNatClampNeg + j)).toInt = 120 * p.toInt + (nt j).toInt) → (∀ q : Nat, (q < 12 * p.toNatClampNeg ∨ 12 * p.toNatClampNeg + 12 ≤ q) → sf q = sf0 q ∧ cf q = cf0 q ∧ ct q = ct0 q) → 1 + c.toInt - x.toInt < (n : Int) → 1 ≤ n →
    Sf (f_X12_keeps_L2 c nf ns nt p K n x cf ct sf) P := by
  intro n
  induction n with
  | zero => intro x cf ct sf h1 h2 h3 h4 h5; exact absurd h5 (by omega)
  | succ n ih =>
    intro x cf ct sf h1 h2 h3 h4 h5
    rw [f_X12_keeps_L2]
    refine Sf_ite (fun h => ?_) (fun h => ?_)
    · have := leI h
      exact hK cf ct sf (fun j hj => h2 j (by omega)) h3
    · have c1 := nleI h
      have t := tN p hp
      have tx := tN x h1
      obtain ⟨b1, b2, b3, b4⟩ := hT x.toNatClampNeg (by omega)
      have e0 := idx_e (p := p) (x := x) 12 12 (by decide) (by omega) (by omega) hp hp2 h1 (by omega)
      have f1 := idx_e (p := p) (x := ns x.toNatClampNeg) 120 120 (by decide) (by omega) (by omega) hp hp2 (by omega) (by omega)
      have f2 := idx_e (p := p) (x := nf x.toNatClampNeg) 120 120 (by decide) (by omega) (by omega) hp hp2 (by omega) (by omega)
      have f3 := idx_e (p := p) (x := nt x.toNatClampNeg) 120 120 (by decide) (by omega) (by omega) hp hp2 (by omega) (by omega)
      have ti := tN (12 * p + x) (by omega)
      have o1 : (1 : Int32).toInt = 1 := by decide
      have e1 := adX x 1 (by omega) (by omega)
      rw [rdI_o (jin_of h1 (by omega)), nmI_o, wrI_o (jin_of (by omega) (by omega)), rdI_o (jin_of h1 (by omega)), nmI_o, wrI_o (jin_of (by omega) (by omega)), rdI_o (jin_of h1 (by omega)), nmI_o, wrI_o (jin_of (by omega) (by omega)), nmI_o]
      refine ih (x + 1) _ _ _ (by omega) (fun j hj => ?_) (fun q hq => ?_) (by omega) (by omega)
      · unfold upd
        by_cases cj : 12 * p.toNatClampNeg + j = (12 * p + x).toNatClampNeg
        · have ej : j = x.toNatClampNeg := by omega
          rw [if_pos cj, if_pos cj, if_pos cj, ej]
          exact ⟨f1, f2, f3⟩
        · rw [if_neg cj, if_neg cj, if_neg cj]
          exact h2 j (by omega)
      · unfold upd
        have nq : ¬ q = (12 * p + x).toNatClampNeg := by omega
        rw [if_neg nq, if_neg nq, if_neg nq]
        exact h3 q hq
theorem keeps_s {c k p : Int32} {code ca cf ct many na nc nf ns nt sf : Nat → Int32} (hp : 0 ≤ p.toInt) (hp2 : p.toInt < 20) (hk0 : 0 ≤ k.toInt) (hk : k.toInt ≤ 120) (hc0 : 0 ≤ c.toInt) (hc : c.toInt ≤ 12) (hT : TR c k nc nf ns nt) (hR : rOK code cf ct sf many) :
    Sf (f_X12_keeps c k code ca cf ct many na nc nf ns nt sf p) (fun y => rOK y.1 y.2.2.1 y.2.2.2.1 y.2.2.2.2.2 y.2.2.2.2.1) := by
  have := FUi
  have z : (0 : Int32).toInt = 0 := by decide
  have t := tN p hp
  rw [f_X12_keeps]
  refine keeps_L2 (cf0 := cf) (ct0 := ct) (sf0 := sf) hp hp2 hc (fun j hj => ⟨(hT j hj).1, (hT j hj).2.1, (hT j hj).2.2.1, by have := (hT j hj).2.2.2.1; omega⟩) (fun cf1 ct1 sf1 g1 g2 => ?_) FU 0 cf ct sf (by omega) (fun j hj => absurd hj (by omega)) (fun q _ => ⟨rfl, rfl, rfl⟩) (by omega) (by omega)
  rw [f_X12_keeps_J82]
  refine keeps_L84 (code0 := code) hp hp2 hk (fun code1 ca1 g3 g4 => ?_) FU 0 code ca (by omega) (fun j hj => absurd hj (by omega)) (fun q _ => rfl) (by omega) (by omega)
  rw [f_X12_keeps_J132, wrI_o (jin_of hp (by omega))]
  refine Sf_some (show rOK code1 cf1 ct1 sf1 (upd many p.toNatClampNeg c) from fun i hi => ?_)
  by_cases ci : i = p.toNatClampNeg
  · have em : upd many p.toNatClampNeg c i = c := if_pos ci
    rw [em]
    refine ⟨hc0, hc, fun j hj => ?_⟩
    obtain ⟨a1, a2, a3, a4, ⟨z1, h1⟩, ⟨z2, h2⟩⟩ := hT j hj
    rw [ci]
    obtain ⟨u1, u2, u3⟩ := g1 j hj
    have s1 := tN (ns j) a1
    have s2 := tN (nf j) (by omega)
    have s3 := tN (nt j) (by omega)
    have r1 := tN (sf1 (12 * p.toNatClampNeg + j)) (by omega)
    have r2 := tN (cf1 (12 * p.toNatClampNeg + j)) (by omega)
    have r3 := tN (ct1 (12 * p.toNatClampNeg + j)) (by omega)
    refine ⟨by omega, by omega, by omega, by omega, ⟨z1, ?_⟩, ⟨z2, ?_⟩⟩
    · rw [← h1, show (cf1 (12 * p.toNatClampNeg + j)).toNatClampNeg - (sf1 (12 * p.toNatClampNeg + j)).toNatClampNeg = (nf j).toNatClampNeg - (ns j).toNatClampNeg by omega]
      refine dep_shift (fun l hl => ?_)
      rw [← g3 ((ns j).toNatClampNeg + l) (by omega)]
      congr 1
      omega
    · rw [← h2, show (ct1 (12 * p.toNatClampNeg + j)).toNatClampNeg - (cf1 (12 * p.toNatClampNeg + j)).toNatClampNeg = (nt j).toNatClampNeg - (nf j).toNatClampNeg by omega]
      refine dep_shift (fun l hl => ?_)
      rw [← g3 ((nf j).toNatClampNeg + l) (by omega)]
      congr 1
      omega
  · have em : upd many p.toNatClampNeg c i = many i := if_neg ci
    rw [em]
    obtain ⟨m1, m2, m3⟩ := hR i hi
    refine ⟨m1, m2, fun j hj => ?_⟩
    obtain ⟨a1, a2, a3, a4, ⟨z1, h1⟩, ⟨z2, h2⟩⟩ := m3 j hj
    obtain ⟨q1, q2, q3⟩ := g2 (12 * i + j) (by omega)
    unfold XO
    rw [q1, q2, q3]
    have r1 := tN (sf (12 * i + j)) (by omega)
    have r2 := tN (cf (12 * i + j)) (by omega)
    have r3 := tN (ct (12 * i + j)) (by omega)
    refine ⟨a1, a2, a3, a4, ⟨z1, ?_⟩, ⟨z2, ?_⟩⟩
    · rw [← h1]; exact dep_congr (fun l hl => g4 _ (by omega))
    · rw [← h2]; exact dep_congr (fun l hl => g4 _ (by omega))
theorem rt_J86 {p1 tp e : Int32} {code ca cf ct many sf : Nat → Int32} (hp : 0 ≤ p1.toInt) (hp2 : p1.toInt < 20) (hR : rOK code cf ct sf many) (d c k ib iso o p m : Int32) (na nc nf ns nt st : Nat → Int32) (hbd : Bd d) (h : d = 0 → 0 ≤ k.toInt ∧ k.toInt ≤ 120 ∧ 0 ≤ c.toInt ∧ c.toInt ≤ 12 ∧ TR c k nc nf ns nt) :
    Sf (f_X12_readsText_J86 code ca cf ct many sf p1 tp e d c k ib iso o p m na nc nf ns nt st) (fun y => y.2.1 = tp ∧ rOK y.2.2.2.2.2.2.2.2.2.2.2.1 y.2.2.2.2.2.2.2.2.2.2.2.2.2.1 y.2.2.2.2.2.2.2.2.2.2.2.2.2.2.1 y.2.2.2.2.2.2.2.2.2.2.2.2.2.2.2.2.2.2.2.2.2.2 y.2.2.2.2.2.2.2.2.2.2.2.2.2.2.2.1) := by
  rw [f_X12_readsText_J86]
  refine Sf_ite (fun g => ?_) (fun g => ?_)
  · have z : (0 : Int32).toInt = 0 := by decide
    have g1 := leI g
    have hd : d = 0 := hbd.resolve_right (by omega)
    obtain ⟨a1, a2, a3, a4, a5⟩ := h hd
    exact Sf_cb6 (keeps_s hp hp2 a1 a2 a3 a4 a5 hR) (fun y1 y2 y3 y4 y5 y6 hq => Sf_some ⟨rfl, hq⟩)
  · exact Sf_some ⟨rfl, hR⟩
theorem rt_L {p1 tp e q : Int32} {t code ca cf ct many sf : Nat → Int32} (hp : 0 ≤ p1.toInt) (hp2 : p1.toInt < 20) (hR : rOK code cf ct sf many) : ∀ (n : Nat) (x d c k ib iso o p m : Int32) (na nc nf ns nt st : Nat → Int32), Bd d → (d = 0 → PN p e k 0 ∧ 0 ≤ c.toInt ∧ c.toInt ≤ 12 ∧ TR c k nc nf ns nt ∧ (¬ x = 0 → e.toInt - p.toInt + 1 < (n : Int))) → 1 ≤ n →
    Sf (f_X12_readsText_L8 t q e (f_X12_readsText_J86 code ca cf ct many sf p1 tp e) n x d c k ib iso o p m na nc nf ns nt st) (fun y => y.2.1 = tp ∧ rOK y.2.2.2.2.2.2.2.2.2.2.2.1 y.2.2.2.2.2.2.2.2.2.2.2.2.2.1 y.2.2.2.2.2.2.2.2.2.2.2.2.2.2.1 y.2.2.2.2.2.2.2.2.2.2.2.2.2.2.2.2.2.2.2.2.2.2 y.2.2.2.2.2.2.2.2.2.2.2.2.2.2.2.1) := by
  have z : (0 : Int32).toInt = 0 := by decide
  intro n
  induction n with
  | zero => intro x d c k ib iso o p m na nc nf ns nt st hbd h hn; exact absurd hn (by omega)
  | succ n ih =>
    intro x d c k ib iso o p m na nc nf ns nt st hbd h hn
    have J : Sf (f_X12_readsText_J86 code ca cf ct many sf p1 tp e d c k ib iso o p m na nc nf ns nt st) (fun y => y.2.1 = tp ∧ rOK y.2.2.2.2.2.2.2.2.2.2.2.1 y.2.2.2.2.2.2.2.2.2.2.2.2.2.1 y.2.2.2.2.2.2.2.2.2.2.2.2.2.2.1 y.2.2.2.2.2.2.2.2.2.2.2.2.2.2.2.2.2.2.2.2.2.2 y.2.2.2.2.2.2.2.2.2.2.2.2.2.2.2.1) := by
      refine rt_J86 hp hp2 hR d c k ib iso o p m na nc nf ns nt st hbd (fun w => ?_)
      obtain ⟨⟨n1, n2, n3, n4, n5⟩, h2, h3, h4, h5⟩ := h w
      exact ⟨n1, by omega, h2, h3, h4⟩
    rw [f_X12_readsText_L8]
    refine Sf_ite (fun _ => J) (fun hx => ?_)
    by_cases hd : d = 0
    · subst hd
      obtain ⟨hN, h2, h3, h4, h5⟩ := h rfl
      have h5 := h5 hx
      have hN' := hN
      obtain ⟨n1, n2, n3, n4, n5⟩ := hN
      rw [isGood_0, cb1_o, if_neg (by decide)]
      refine Sf_cb14 (clause_s h2 h3 hN' h4) (fun p2 d2 c2 k2 o2 m2 iso2 ib2 na2 nc2 nf2 ns2 nt2 st2 hq => ?_)
      have hq : CO e p c p2 d2 c2 k2 nc2 nf2 ns2 nt2 := hq
      by_cases hd2 : d2 = 0
      · subst hd2
        obtain ⟨q1, q2, q3, q4, q5⟩ := hq.2 rfl
        have q2' := q2
        obtain ⟨m1, m2', m3, m4, m5⟩ := q2
        rw [isGood_0, cb1_o, if_neg (by decide)]
        refine Sf_ite (fun h6 => ?_) (fun h6 => ?_)
        · rw [f_X12_readsText_J48, if_pos rfl]
          exact ih 0 0 c2 k2 ib2 iso2 o2 p2 m2 na2 nc2 nf2 ns2 nt2 st2 (Or.inl rfl) (fun _ => ⟨q2', by omega, q4, q5, fun w => absurd rfl w⟩) (by omega)
        · have c6 := nleI h6
          have o1 : (1 : Int32).toInt = 1 := by decide
          have e1 := adX p2 1 (by omega) (by omega)
          rw [f_X12_readsText_J48, if_neg (by decide), here_e (by omega) (by omega), cb1_o]
          refine Sf_ite (fun h7 => ?_) (fun h7 => ?_)
          · rw [f_X12_readsText_J73, nmI_o]
            exact ih 1 0 c2 k2 ib2 iso2 o2 (p2 + 1) m2 na2 nc2 nf2 ns2 nt2 st2 (Or.inl rfl) (fun _ => ⟨⟨m1, m2', by omega, by omega, m5⟩, by omega, q4, q5, fun _ => by omega⟩) (by omega)
          · refine Sf_cb1 (wrongs_s 0 1 p2 (by decide) (by decide) (by omega) (by omega)) (fun d3 hd3 => ?_)
            rw [f_X12_readsText_J73, nmI_o]
            exact ih 1 d3 c2 k2 ib2 iso2 o2 (p2 + 1) m2 na2 nc2 nf2 ns2 nt2 st2 (Or.inr hd3) (fun w => absurd w (ne_lt hd3)) (by omega)
      · rw [isGood_n hd2, cb1_o, if_pos rfl, f_X12_readsText_J48, if_pos rfl]
        exact ih 0 d2 c2 k2 ib2 iso2 o2 p2 m2 na2 nc2 nf2 ns2 nt2 st2 hq.1 (fun w => absurd w hd2) (by omega)
    · rw [isGood_n hd, cb1_o, if_pos rfl]
      exact J
theorem readsText_s {tp0 pl en bd cl co op stk iso ib p1 e q : Int32} {t code ca cf ct many na nc nf ns nt st sf : Nat → Int32} (hp : 0 ≤ p1.toInt) (hp2 : p1.toInt < 20) (he : 0 ≤ e.toInt) (he2 : e.toInt ≤ 120) (hR : rOK code cf ct sf many) :
    Sf (f_X12_readsText tp0 pl en bd cl co op stk iso ib code ca cf ct many na nc nf ns nt st sf t p1 e q) (fun y => y.2.1 = 0 ∧ rOK y.2.2.2.2.2.2.2.2.2.2.2.1 y.2.2.2.2.2.2.2.2.2.2.2.2.2.1 y.2.2.2.2.2.2.2.2.2.2.2.2.2.2.1 y.2.2.2.2.2.2.2.2.2.2.2.2.2.2.2.2.2.2.2.2.2.2 y.2.2.2.2.2.2.2.2.2.2.2.2.2.2.2.1) := by
  have := FUi
  have z : (0 : Int32).toInt = 0 := by decide
  rw [f_X12_readsText, f_X12_begins, cb8_o]
  exact rt_L hp hp2 hR FU 1 0 0 0 ib iso 0 0 0 na nc nf ns nt st (Or.inl rfl) (fun _ => ⟨⟨by omega, by omega, by omega, by omega, he2⟩, by omega, by omega, fun i hi => absurd hi (by omega), fun _ => by omega⟩) (by omega)
theorem s_X12_law {tp so pl en bd cl co op stk iso ib p1 p2 : Int32} {t code ca cf ct many na nc nf ns nt st sf : Nat → Int32} (h1 : 0 ≤ so.toInt) (h2 : so.toInt ≤ 10) (hR : rOK code cf ct sf many) :
    Sf (f_X12_law tp so pl en bd cl co op stk iso ib code ca cf ct many na nc nf ns nt st sf t p1 p2) (fun y => (y.2.1.toInt = tp.toInt ∨ y.2.1.toInt = 0) ∧ rOK y.2.2.2.2.2.2.2.2.2.2.2.1 y.2.2.2.2.2.2.2.2.2.2.2.2.2.1 y.2.2.2.2.2.2.2.2.2.2.2.2.2.2.1 y.2.2.2.2.2.2.2.2.2.2.2.2.2.2.2.2.2.2.2.2.2.2 y.2.2.2.2.2.2.2.2.2.2.2.2.2.2.2.1) := by
  have z : (0 : Int32).toInt = 0 := by decide
  have l : (120 : Int32).toInt = 120 := by decide
  rw [f_X12_law]
  refine Sf_cb1 (s_X12_isSource so p1 h1 h2) (fun r hr => ?_)
  refine Sf_ite (fun _ => Sf_some ⟨Or.inl rfl, hR⟩) (fun g => ?_)
  have g := neI g
  have hr := hr.2.resolve_left (by omega)
  refine Sf_cb1 (s_X12_canRead tp p2 120) (fun r2 hr2 => ?_)
  refine Sf_ite (fun _ => Sf_some ⟨Or.inl rfl, hR⟩) (fun g2 => ?_)
  have g2 := neI g2
  have hr2 := hr2.2.resolve_left (by omega)
  have e1 := adX 0 p1 (by omega) (by omega)
  refine Sf_cb23 (readsText_s (p1 := 0 + p1) (e := p2) (by omega) (by omega) (by omega) (by omega) hR) (fun y1 y2 y3 y4 y5 y6 y7 y8 y9 y10 y11 y12 y13 y14 y15 y16 y17 y18 y19 y20 y21 y22 y23 hq => Sf_some ⟨Or.inr ?_, hq.2⟩)
  have hq1 := hq.1
  exact (eqI hq1).trans z
theorem s_X12_way {tp pl en bd cl co op stk iso ib p1 p2 : Int32} {t code ca cf ct many na nc nf ns nt st sf : Nat → Int32} (hR : rOK code cf ct sf many) :
    Sf (f_X12_way tp pl en bd cl co op stk iso ib code ca cf ct many na nc nf ns nt st sf t p1 p2) (fun y => (y.2.1.toInt = tp.toInt ∨ y.2.1.toInt = 0) ∧ rOK y.2.2.2.2.2.2.2.2.2.2.2.1 y.2.2.2.2.2.2.2.2.2.2.2.2.2.1 y.2.2.2.2.2.2.2.2.2.2.2.2.2.2.1 y.2.2.2.2.2.2.2.2.2.2.2.2.2.2.2.2.2.2.2.2.2.2 y.2.2.2.2.2.2.2.2.2.2.2.2.2.2.2.1) := by
  have z : (0 : Int32).toInt = 0 := by decide
  have l : (120 : Int32).toInt = 120 := by decide
  have l10 : (10 : Int32).toInt = 10 := by decide
  rw [f_X12_way]
  refine Sf_cb1 (s_X12_isReader p1) (fun r hr => ?_)
  refine Sf_ite (fun _ => Sf_some ⟨Or.inl rfl, hR⟩) (fun g => ?_)
  have g := neI g
  have hr := hr.2.resolve_right (fun w => by have := w.1; omega)
  refine Sf_cb1 (s_X12_canRead tp p2 120) (fun r2 hr2 => ?_)
  refine Sf_ite (fun _ => Sf_some ⟨Or.inl rfl, hR⟩) (fun g2 => ?_)
  have g2 := neI g2
  have hr2 := hr2.2.resolve_left (by omega)
  have e1 := adX 10 p1 (by omega) (by omega)
  refine Sf_cb23 (readsText_s (p1 := 10 + p1) (e := p2) (by omega) (by omega) (by omega) (by omega) hR) (fun y1 y2 y3 y4 y5 y6 y7 y8 y9 y10 y11 y12 y13 y14 y15 y16 y17 y18 y19 y20 y21 y22 y23 hq => Sf_some ⟨Or.inr ?_, hq.2⟩)
  have hq1 := hq.1
  exact (eqI hq1).trans z
theorem story_J55 {tp0 p1 e cl p k o m ib tp : Int32} {code ca cf ct many nf ns nt sf na nc st : Nat → Int32} (hp : 0 ≤ p1.toInt) (hp2 : p1.toInt ≤ 5) (hR : rOK code cf ct sf many) (d : Int32) (ht : tp0.toInt = 0) (hbd : Bd d) (h : d = 0 → 0 ≤ k.toInt ∧ k.toInt ≤ 120 ∧ ∃ z, dep nc 0 (k.toNatClampNeg - 0) = some z) :
    Sf (f_X12_story_J55 code ca cf ct many nf ns nt sf p1 tp0 e cl p k o m ib na nc st d) (fun y => (y.2.1.toInt = tp.toInt ∨ y.2.1.toInt = 0) ∧ rOK y.2.2.2.2.2.2.2.2.2.2.1 y.2.2.2.2.2.2.2.2.2.2.2.2.1 y.2.2.2.2.2.2.2.2.2.2.2.2.2.1 y.2.2.2.2.2.2.2.2.2.2.2.2.2.2.2.2.2.2.2.2.2 y.2.2.2.2.2.2.2.2.2.2.2.2.2.2.1) := by
  have z : (0 : Int32).toInt = 0 := by decide
  have zn : (0 : Int32).toNatClampNeg = 0 := by decide
  have l : (14 : Int32).toInt = 14 := by decide
  have o1 : (1 : Int32).toInt = 1 := by decide
  have e1 := adX 14 p1 (by omega) (by omega)
  rw [f_X12_story_J55]
  refine Sf_ite (fun g => ?_) (fun g => Sf_some ⟨Or.inr ht, hR⟩)
  have g1 := leI g
  obtain ⟨a1, a2, ⟨z1, a3⟩⟩ := h (hbd.resolve_right (by omega))
  have tk := tN k a1
  rw [wrI_o (by decide), wrI_o (by decide), wrI_o (by decide)]
  refine Sf_cb6 (keeps_s (by omega) (by omega) a1 a2 (by omega) (by omega) (fun i hi => ?_) hR) (fun y1 y2 y3 y4 y5 y6 hq => Sf_some ⟨Or.inr ht, hq⟩)
  have ei : i = 0 := by omega
  subst ei
  unfold TRc
  have u1 : ∀ (f : Nat → Int32) (v : Int32), upd f (0 : Int32).toNatClampNeg v 0 = v := fun f v => if_pos zn.symm
  rw [u1, u1, u1, zn]
  refine ⟨by omega, by omega, Int.le_refl _, Int.le_refl _, ⟨z1, a3⟩, ⟨0, ?_⟩⟩
  rw [Nat.sub_self]
  rfl
theorem s_X12_story {tp pl en bd cl co op stk ib p1 p2 : Int32} {t code ca cf ct many na nc nf ns nt st sf : Nat → Int32} (hR : rOK code cf ct sf many) :
    Sf (f_X12_story tp pl en bd cl co op stk ib code ca cf ct many na nc nf ns nt st sf t p1 p2) (fun y => (y.2.1.toInt = tp.toInt ∨ y.2.1.toInt = 0) ∧ rOK y.2.2.2.2.2.2.2.2.2.2.1 y.2.2.2.2.2.2.2.2.2.2.2.2.1 y.2.2.2.2.2.2.2.2.2.2.2.2.2.1 y.2.2.2.2.2.2.2.2.2.2.2.2.2.2.2.2.2.2.2.2.2 y.2.2.2.2.2.2.2.2.2.2.2.2.2.2.1) := by
  have z : (0 : Int32).toInt = 0 := by decide
  have l : (60 : Int32).toInt = 60 := by decide
  have zn : (0 : Int32).toNatClampNeg = 0 := by decide
  rw [f_X12_story]
  refine Sf_cb1 (s_X12_isTale p1) (fun r hr => ?_)
  refine Sf_ite (fun _ => Sf_some ⟨Or.inl rfl, hR⟩) (fun g => ?_)
  have g := neI g
  have hr := hr.2.resolve_right (fun w => by have := w.1; omega)
  refine Sf_cb1 (s_X12_canRead tp p2 60) (fun r2 hr2 => ?_)
  refine Sf_ite (fun _ => Sf_some ⟨Or.inl rfl, hR⟩) (fun g2 => ?_)
  have g2 := neI g2
  have hr2 := hr2.2.resolve_left (by omega)
  rw [f_X12_begins, cb8_o]
  have hD : DP 0 nc (0 : Int32).toNatClampNeg (0 : Int32).toNatClampNeg nc st 0 := DP_cast (DP_new 0 nc st) zn.symm zn.symm
  refine Sf_cb9 (value_s (w := 0) (b := 0) (N := nc) (Or.inl rfl) (by omega) ⟨by omega, by omega, by omega, by omega, by omega⟩ hD) (fun p3 d3 k3 o3 m3 ib3 na3 nc3 st3 hq => ?_)
  have hq : VP 0 nc 0 p2 0 st 0 p3 d3 k3 m3 nc3 st3 := hq
  have J : ∀ d : Int32, Bd d → (d = 0 → d3 = 0) → Sf (f_X12_story_J55 code ca cf ct many nf ns nt sf p1 0 p2 0 p3 k3 o3 m3 ib3 na3 nc3 st3 d) (fun y => (y.2.1.toInt = tp.toInt ∨ y.2.1.toInt = 0) ∧ rOK y.2.2.2.2.2.2.2.2.2.2.1 y.2.2.2.2.2.2.2.2.2.2.2.2.1 y.2.2.2.2.2.2.2.2.2.2.2.2.2.1 y.2.2.2.2.2.2.2.2.2.2.2.2.2.2.2.2.2.2.2.2.2 y.2.2.2.2.2.2.2.2.2.2.2.2.2.2.1) := by
    intro d hb hd
    refine story_J55 hr.2.1 hr.2.2 hR d z hb (fun w => ?_)
    obtain ⟨⟨n1, n2, n3, n4, n5⟩, q2, q3, q4, -⟩ := hq.2 (hd w)
    exact ⟨n1, by omega, ⟨_, q4.2.1⟩⟩
  by_cases hd3 : d3 = 0
  · subst hd3
    obtain ⟨⟨n1, n2, n3, n4, n5⟩, q2, q3, q4, -⟩ := hq.2 rfl
    rw [isGood_0, cb1_o, if_neg (by decide)]
    refine Sf_ite (fun _ => J 0 (Or.inl rfl) (fun _ => rfl)) (fun _ => ?_)
    exact Sf_cb1 (wrongs_s 0 1 p3 (by decide) (by decide) (by omega) (by omega)) (fun d hd => J d (Or.inr hd) (fun w => absurd w (ne_lt hd)))
  · rw [isGood_n hd3, cb1_o, if_pos rfl]
    exact J d3 hq.1 (fun w => w)
