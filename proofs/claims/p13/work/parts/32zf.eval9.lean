/-! told, on both sides -/
def goS (B : Nat → Bool) : Nat → Nat → Nat → Int32 → Nat × Int32
  | 0, _, c, l => (c, l)
  | r + 1, k, c, l => if B k = true then goS B r (k + 1) (c + 1) (nI k) else goS B r (k + 1) c l
def goW (B : Nat → Nat → Bool) (p2 : Int32) : Nat → Nat → Int32
  | 0, _ => -1
  | r + 1, x => if (goS (B x) 6 0 0 (-1)).1 = 1 then (if p2 = 0 then nI x else (goS (B x) 6 0 0 (-1)).2) else goW B p2 r (x + 1)
theorem goS_le (B : Nat → Bool) : ∀ (r k c : Nat) (l : Int32), (goS B r k c l).1 ≤ c + r := by
  intro r
  induction r with
  | zero => intro k c l; exact Nat.le_refl _
  | succ r ih =>
    intro k c l
    rw [goS]
    split
    · have := ih (k + 1) (c + 1) (nI k); omega
    · have := ih (k + 1) c l; omega
abbrev FT : Type := Option (Option Nat)
def fallV (t : FT) : Int32 := match t with
  | none => 0
  | some none => -2
  | some (some z) => nI z
def stB (T : Nat → FT) (x k : Nat) : Bool := match T k with
  | none => false
  | some none => true
  | some (some z) => decide (x < z)
section TL
variable {G : kG} {days shift code ca cf ct sf many : Nat → Int32} {m : Nat} {p p2 : Int32} {T : Nat → FT}
def TFact (G : kG) (days shift code ca cf sf many : Nat → Int32) (m : Nat) (p : Int32) (k : Nat) (t : FT) : Prop :=
  (t = none ∧ G.2 (14 + k) = none ∧ f_X12_isTold many (nI k) = some 0) ∨
  (∃ (u : Option Nat) (x : kTx), t = some u ∧ (∀ z, u = some z → z < m) ∧ G.2 (14 + k) = some x ∧ f_X12_isTold many (nI k) = some 1 ∧
    (∀ Lt vals : Nat → Int32, LtN Lt → Sf (f_X2_fallOf x.2.2.1.1 x.2.2.2.2.1 x.2.2.2.1.1 (nI m) x.2.2.1.2 x.2.2.2.2.2 x.2.2.2.1.2 days shift Lt vals p) (fun y => LtN y.2.1 ∧ y.1 = fallV t)) ∧
    (∀ (a1 a2 a3 a4 a5 a6 a7 a8 a9 a10 a11 a12 a13 : Int32) (rf wo : Nat → Int32), Sf (f_X12_fallsAt (nI m) a1 a2 a3 a4 a5 a6 a7 a8 a9 a10 a11 a12 a13 code ca cf shift rf days sf wo (nI k) p) (fun y => y.1 = (match u with | some z => nI z | none => nI m))))
theorem tfacts (hT : TX G code ca cf ct sf many) (hm : m ≤ 30) (hp : 0 ≤ p.toInt) : ∃ T : Nat → FT, ∀ k, k < 6 → TFact G days shift code ca cf sf many m p k (T k) := by
  refine Classical.axiomOfChoice (r := fun k t => k < 6 → TFact G days shift code ca cf sf many m p k t) (fun k => ?_)
  by_cases hk : k < 6
  · rcases told_n hT hk with ⟨g1, g2⟩ | ⟨x, g1, g2, g3⟩
    · exact ⟨none, fun _ => Or.inl ⟨rfl, g1, g2⟩⟩
    · obtain ⟨t, t1, t2, t3⟩ := falls_both (days := days) (shift := shift) (m := m) (p := p) g3 hk hm hp
      refine ⟨some t, fun _ => Or.inr ⟨t, x, rfl, t1, g1, g2, fun Lt vals hL => Sf_mono (t2 Lt vals hL) (fun y hy => ⟨hy.1, ?_⟩), t3⟩⟩
      rw [hy.2]
      cases t <;> rfl
  · exact ⟨none, fun w => absurd w hk⟩
theorem fill_L {K : (Nat → Int32) → (Nat → Int32) → (Nat → Int32) → Option (Int32 × (Nat → Int32) × (Nat → Int32) × (Nat → Int32))} {P : Int32 × (Nat → Int32) × (Nat → Int32) × (Nat → Int32) → Prop} (hT : ∀ k, k < 6 → TFact G days shift code ca cf sf many m p k (T k)) (hK : ∀ fa Lt vals : Nat → Int32, (∀ j, j < 6 → fa j = fallV (T j)) → LtN Lt → Sf (K fa Lt vals) P) :
    ∀ (r k n : Nat) (fa Lt vals : Nat → Int32), k + r = 6 → (∀ j, j < k → fa j = fallV (T j)) → LtN Lt → Sf (f_X2_alone_L2 (nI m) days shift p G K (n + r + 1) (nI k) fa Lt vals) P := by
  intro r
  induction r with
  | zero =>
    intro k n fa Lt vals h hfa hL
    have hk : k = 6 := by omega
    subst hk
    rw [Nat.add_zero, f_X2_alone_L2, if_pos (by decide)]
    exact hK fa Lt vals hfa hL
  | succ r ih =>
    intro k n fa Lt vals h hfa hL
    have hk : k < 6 := by omega
    have j6 : jin (nI k) 6 = true := jin_n hk (by omega)
    have nx : ∀ q : Int32, q = fallV (T k) → ∀ j, j < k + 1 → (upd fa k q) j = fallV (T j) := fun q hq j hj => by
      by_cases d : j = k
      · rw [d, upd_s]; exact hq
      · rw [upd_n d]; exact hfa j (by omega)
    rw [show n + (r + 1) + 1 = (n + r + 1) + 1 by omega, f_X2_alone_L2, if_neg (show ¬ (6 : Int32) ≤ nI k from nI_ge (a := k) (b := 6) hk (by omega)), gdN_o j6, nI_clamp (by omega)]
    rcases hT k hk with ⟨t1, t2, t3⟩ | ⟨u, x, t1, t2, t3, t4, t5, t6⟩
    · refine Sf_oT (fun i hi => by cases hi; omega) (fun _ => ?_) (fun i t hi _ ht => ?_)
      · rw [wrI_o j6, nmI_o, nI_1, nI_clamp (by omega)]
        exact ih (k + 1) n _ Lt vals (by omega) (nx 0 (by rw [t1]; rfl)) hL
      · cases hi; rw [t2] at ht; cases ht
    · refine Sf_oT (fun i hi => by cases hi; omega) (fun h => ?_) (fun i t hi _ ht => ?_)
      · exfalso
        rcases h with h | ⟨i, hi, hn⟩
        · cases h
        · cases hi; rw [t3] at hn; cases hn
      · cases hi
        rw [t3] at ht
        cases ht
        rw [gdN_o j6]
        refine Sf_cb3 (t5 Lt vals hL) (fun b1 b2 b3 hb => ?_)
        rw [wrI_o j6, nmI_o, nI_1, nI_clamp (by omega)]
        exact ih (k + 1) n _ b2 b3 (by omega) (nx b1 hb.2) hb.1
theorem count_L {fa : Nat → Int32} {x : Nat} {K : Int32 → Int32 → Option (Int32 × (Nat → Int32) × (Nat → Int32) × (Nat → Int32))} (hT : ∀ k, k < 6 → TFact G days shift code ca cf sf many m p k (T k)) (hm : m ≤ 30) (hx : x < 30) (hfa : ∀ j, j < 6 → fa j = fallV (T j)) :
    ∀ (r k n c : Nat) (l : Int32), k + r = 6 → f_X2_alone_L63 fa (nI x) K (n + r + 1) (nI c) l (nI k) = K (nI (goS (stB T x) r k c l).1) (goS (stB T x) r k c l).2 := by
  intro r
  induction r with
  | zero =>
    intro k n c l h
    have hk : k = 6 := by omega
    subst hk
    rw [Nat.add_zero, f_X2_alone_L63, if_pos (by decide)]
    rfl
  | succ r ih =>
    intro k n c l h
    have hk : k < 6 := by omega
    have j6 : jin (nI k) 6 = true := jin_n hk (by omega)
    rw [show n + (r + 1) + 1 = (n + r + 1) + 1 by omega, f_X2_alone_L63, if_neg (show ¬ (6 : Int32) ≤ nI k from nI_ge (a := k) (b := 6) hk (by omega)), rdI_o j6, rdI_o j6, nI_clamp (by omega), hfa k hk, goS]
    have hJ : f_X2_alone_J93 (nI c) (f_X2_alone_L63 fa (nI x) K (n + r + 1)) (nI k) = K (nI (goS (stB T x) r (k + 1) (c + 1) (nI k)).1) (goS (stB T x) r (k + 1) (c + 1) (nI k)).2 := by
      rw [f_X2_alone_J93, nmI_o, nmI_o, nI_1, nI_1, ih (k + 1) n (c + 1) (nI k) (by omega)]
    rcases hT k hk with ⟨t1, -⟩ | ⟨u, -, t1, t2, -⟩
    · rw [t1]
      have e : stB T x k = false := by unfold stB; rw [t1]
      have le : fallV none ≤ nI x := nI_le (a := 0) (b := x) (by omega) (by omega)
      rw [e, if_neg (show ¬ (false = true) by decide), if_neg (show ¬ fallV none = -2 by decide), if_pos le, nmI_o, nI_1, ih (k + 1) n c l (by omega)]
    · rw [t1]
      cases u with
      | none =>
        have e : stB T x k = true := by unfold stB; rw [t1]
        rw [e, if_pos (show fallV (some none) = -2 from rfl), hJ, if_pos (show true = true from rfl)]
      | some z =>
        have hz := t2 z rfl
        have e : stB T x k = decide (x < z) := by unfold stB; rw [t1]
        have ne : ¬ fallV (some (some z)) = -2 := fun w => by
          have w : nI z = -2 := w
          have := eqI w
          rw [nI_toInt (by omega)] at this
          have m2 : (-2 : Int32).toInt = -2 := by decide
          omega
        rw [e, if_neg ne]
        by_cases d : x < z
        · rw [if_neg (show ¬ fallV (some (some z)) ≤ nI x from nI_ge (a := x) (b := z) d (by omega)), hJ, if_pos (decide_eq_true d)]
        · rw [if_pos (show fallV (some (some z)) ≤ nI x from nI_le (a := z) (b := x) (by omega) (by omega)), nmI_o, nI_1, ih (k + 1) n c l (by omega), if_neg (fun w => d (of_decide_eq_true w))]
theorem alone_L {fa Lt vals : Nat → Int32} (hT : ∀ k, k < 6 → TFact G days shift code ca cf sf many m p k (T k)) (hm : m ≤ 30) (hfa : ∀ j, j < 6 → fa j = fallV (T j)) (hL : LtN Lt) :
    ∀ (r x n : Nat), x + r = m → Sf (f_X2_alone_L46 (nI m) fa Lt vals (f_X2_alone_J112 p2 fa Lt vals) (n + r + 1) (nI x)) (fun y => LtN y.2.2.1 ∧ y.1 = goW (fun x k => stB T x k) p2 r x) := by
  intro r
  induction r with
  | zero =>
    intro x n h
    have hx : x = m := by omega
    subst hx
    rw [Nat.add_zero, f_X2_alone_L46, if_pos (nI_le (Nat.le_refl _) (by omega))]
    exact Sf_some ⟨hL, rfl⟩
  | succ r ih =>
    intro x n h
    obtain ⟨n6, hn6⟩ : ∃ n, FU = n + 6 + 1 := ⟨FU - 7, by have := FU_ge; omega⟩
    have hle := goS_le (stB T x) 6 0 0 (-1)
    have hc := count_L (K := f_X2_alone_J106 (nI x) (f_X2_alone_L46 (nI m) fa Lt vals (f_X2_alone_J112 p2 fa Lt vals) (n + r + 1)) (f_X2_alone_J112 p2 fa Lt vals)) (x := x) hT hm (by omega) hfa 6 0 n6 0 (-1) (by omega)
    rw [← hn6, nI_0] at hc
    rw [show n + (r + 1) + 1 = (n + r + 1) + 1 by omega, f_X2_alone_L46, if_neg (nI_ge (by omega) (by omega)), hc, f_X2_alone_J106, goW]
    by_cases d : (goS (stB T x) 6 0 0 (-1)).1 = 1
    · rw [if_pos d, if_pos (by rw [d]; decide), f_X2_alone_J112]
      by_cases d2 : p2 = 0
      · rw [if_pos d2, if_pos d2]; exact Sf_some ⟨hL, rfl⟩
      · rw [if_neg d2, if_neg d2]; exact Sf_some ⟨hL, rfl⟩
    · rw [if_neg d, if_neg (show ¬ nI (goS (stB T x) 6 0 0 (-1)).1 = (1 : Int32) from fun w => d ((nI_eq (b := 1) (by omega) (by omega)).mp w)), nmI_o, nI_1]
      exact ih (x + 1) n (by omega)
theorem rcount_L {x : Nat} {K : Int32 → Int32 → Int32 → Int32 → Int32 → Int32 → Int32 → Int32 → Int32 → Int32 → Int32 → Int32 → Int32 → Int32 → Int32 → (Nat → Int32) → (Nat → Int32) → Option R16} {P : R16 → Prop} (hT : ∀ k, k < 6 → TFact G days shift code ca cf sf many m p k (T k)) (hm : m ≤ 30) (hx : x < m) {c0 : Nat} {l0' : Int32} (hK : ∀ (a1 a2 a3 a4 a5 a6 a7 a8 a9 a10 a11 a12 a13 : Int32) (rf wo : Nat → Int32), Sf (K (nI c0) l0' a1 a2 a3 a4 a5 a6 a7 a8 a9 a10 a11 a12 a13 rf wo) P) :
    ∀ (r k n c : Nat) (l : Int32) (a1 a2 a3 a4 a5 a6 a7 a8 a9 a10 a11 a12 a13 : Int32) (rf wo : Nat → Int32), k + r = 6 → goS (stB T x) r k c l = (c0, l0') → Sf (f_X12_told_L38 (nI m) code ca cf shift many days sf p (nI x) K (n + r + 1) (nI c) l (nI k) a1 a2 a3 a4 a5 a6 a7 a8 a9 a10 a11 a12 a13 rf wo) P := by
  intro r
  induction r with
  | zero =>
    intro k n c l a1 a2 a3 a4 a5 a6 a7 a8 a9 a10 a11 a12 a13 rf wo h hg
    have hk : k = 6 := by omega
    subst hk
    rw [goS] at hg
    cases hg
    rw [Nat.add_zero, f_X12_told_L38, if_pos (by decide)]
    exact hK a1 a2 a3 a4 a5 a6 a7 a8 a9 a10 a11 a12 a13 rf wo
  | succ r ih =>
    intro k n c l a1 a2 a3 a4 a5 a6 a7 a8 a9 a10 a11 a12 a13 rf wo h hg
    have hk : k < 6 := by omega
    rw [goS] at hg
    rw [show n + (r + 1) + 1 = (n + r + 1) + 1 by omega, f_X12_told_L38, if_neg (show ¬ (6 : Int32) ≤ nI k from nI_ge (a := k) (b := 6) hk (by omega))]
    rcases hT k hk with ⟨t1, t2, t3⟩ | ⟨u, y, t1, t2, t3, t4, t5, t6⟩
    · have e : stB T x k = false := by unfold stB; rw [t1]
      rw [e, if_neg (show ¬ (false = true) by decide)] at hg
      rw [t3, cb1_o, if_pos rfl, nmI_o, nI_1]
      exact ih (k + 1) n c l a1 a2 a3 a4 a5 a6 a7 a8 a9 a10 a11 a12 a13 rf wo (by omega) hg
    · rw [t4, cb1_o, if_neg (by decide)]
      refine Sf_cb16 (t6 a1 a2 a3 a4 a5 a6 a7 a8 a9 a10 a11 a12 a13 rf wo) (fun c1 b1 b2 b3 b4 b5 b6 b7 b8 b9 b10 b11 b12 b13 b14 b15 hc => ?_)
      cases u with
      | none =>
        have hc : c1 = nI m := hc
        have e : stB T x k = true := by unfold stB; rw [t1]
        rw [e, if_pos rfl] at hg
        rw [hc, if_pos (nI_lt hx (by omega)), nmI_o, nmI_o, nI_1, nI_1]
        exact ih (k + 1) n (c + 1) (nI k) _ _ _ _ _ _ _ _ _ _ _ _ _ _ _ (by omega) hg
      | some z =>
        have hz := t2 z rfl
        have hc : c1 = nI z := hc
        have e : stB T x k = decide (x < z) := by unfold stB; rw [t1]
        rw [e] at hg
        rw [hc]
        by_cases d : x < z
        · rw [if_pos (decide_eq_true d)] at hg
          rw [if_pos (nI_lt d (by omega)), nmI_o, nmI_o, nI_1, nI_1]
          exact ih (k + 1) n (c + 1) (nI k) _ _ _ _ _ _ _ _ _ _ _ _ _ _ _ (by omega) hg
        · rw [if_neg (fun w => d (of_decide_eq_true w))] at hg
          rw [if_neg (nI_nlt (by omega) (by omega)), nmI_o, nI_1]
          exact ih (k + 1) n c l _ _ _ _ _ _ _ _ _ _ _ _ _ _ _ (by omega) hg
theorem told_L (hT : ∀ k, k < 6 → TFact G days shift code ca cf sf many m p k (T k)) (hm : m ≤ 30) :
    ∀ (r x n : Nat) (a1 a2 a3 a4 a5 a6 a7 a8 a9 a10 a11 a12 a13 : Int32) (rf wo : Nat → Int32), x + r = m → Sf (f_X12_told_L21 (nI m) code ca cf shift many days sf p (f_X12_told_J87 p2) (n + r + 1) (nI x) a1 a2 a3 a4 a5 a6 a7 a8 a9 a10 a11 a12 a13 rf wo) (fun z => z.1 = goW (fun x k => stB T x k) p2 r x) := by
  intro r
  induction r with
  | zero =>
    intro x n a1 a2 a3 a4 a5 a6 a7 a8 a9 a10 a11 a12 a13 rf wo h
    have hx : x = m := by omega
    subst hx
    rw [Nat.add_zero, f_X12_told_L21, if_pos (nI_le (Nat.le_refl _) (by omega))]
    exact Sf_some rfl
  | succ r ih =>
    intro x n a1 a2 a3 a4 a5 a6 a7 a8 a9 a10 a11 a12 a13 rf wo h
    obtain ⟨n6, hn6⟩ : ∃ n, FU = n + 6 + 1 := ⟨FU - 7, by have := FU_ge; omega⟩
    have hle := goS_le (stB T x) 6 0 0 (-1)
    rw [show n + (r + 1) + 1 = (n + r + 1) + 1 by omega, f_X12_told_L21, if_neg (nI_ge (by omega) (by omega)), hn6, show (0 : Int32) = nI 0 from nI_0.symm]
    refine rcount_L (c0 := (goS (stB T x) 6 0 0 (-1)).1) (l0' := (goS (stB T x) 6 0 0 (-1)).2) hT hm (by omega) (fun b1 b2 b3 b4 b5 b6 b7 b8 b9 b10 b11 b12 b13 b14 b15 => ?_) 6 0 n6 0 (-1) a1 a2 a3 a4 a5 a6 a7 a8 a9 a10 a11 a12 a13 rf wo (by omega) rfl
    rw [f_X12_told_J81, goW]
    by_cases d : (goS (stB T x) 6 0 0 (-1)).1 = 1
    · rw [if_pos d, if_pos (by rw [d]; decide), f_X12_told_J87]
      by_cases d2 : p2 = 0
      · rw [if_pos d2, if_pos d2]; exact Sf_some rfl
      · rw [if_neg d2, if_neg d2]; exact Sf_some rfl
    · rw [if_neg d, if_neg (show ¬ nI (goS (stB T x) 6 0 0 (-1)).1 = (1 : Int32) from fun w => d ((nI_eq (b := 1) (by omega) (by omega)).mp w)), nmI_o, nI_1]
      exact ih (x + 1) n _ _ _ _ _ _ _ _ _ _ _ _ _ _ _ (by omega)
end TL
theorem lies01 {y : Int32} : ∃ r : Int32, f_X11_isWithin y 0 1 = some r ∧ f_X12_lies (Int32.toInt64 y) 0 1 = some r := by
  have l0 : (0 : Int32).toInt = 0 := by decide
  have l1 : (1 : Int32).toInt = 1 := by decide
  obtain ⟨r, e, h⟩ := s_X11_isWithin y 0 1
  have h := h.2
  refine ⟨r, e, ?_⟩
  rw [L_iff, t64, i64_0, i64_1]
  unfold bI
  rcases h with ⟨a, b, c⟩ | ⟨a, b⟩
  · rw [if_pos ⟨by omega, by omega⟩, show r = 1 from i32_eq (by omega)]
  · rw [if_neg (fun w => by omega), show r = 0 from i32_eq (by omega)]
set_option maxHeartbeats 4000000 in
theorem told_sim {G : kG} {days shift code ca cf ct sf many rf wo fa Lt vals : Nat → Int32} {ni y1 y2 a1 a2 a3 a4 a5 a6 a7 a8 a9 a10 a11 a12 a13 : Int32} (hT : TX G code ca cf ct sf many) (h0 : 0 ≤ ni.toInt) (h1 : ni.toInt ≤ 30) (hL : LtN Lt) :
    Sf (f_X11_told G ni days fa shift Lt vals y1 y2) (fun y => LtN y.2.2.1 ∧ Sf (f_X12_told ni a1 a2 a3 a4 a5 a6 a7 a8 a9 a10 a11 a12 a13 code ca cf shift rf many days sf wo y1 y2) (fun z => y.1 = z.1)) := by
  rw [f_X11_told]
  obtain ⟨r, e3, e4, hr⟩ := err_n (y2 := y1)
  rw [e3, cb1_o]
  refine Sf_ite (fun g => Sf_some ⟨hL, ?_⟩) (fun g => ?_)
  · rw [f_X12_told, e4, cb1_o, if_pos g]; exact Sf_some rfl
  have hr := hr.resolve_right g
  obtain ⟨q, e5, e6⟩ := lies01 (y := y2)
  rw [e5, cb1_o]
  refine Sf_ite (fun g2 => Sf_some ⟨hL, ?_⟩) (fun g2 => ?_)
  · rw [f_X12_told, e4, cb1_o, if_neg g, e6, cb1_o, if_pos g2]; exact Sf_some rfl
  have ht := tN ni h0
  have hni : ni = nI ni.toNatClampNeg := i32_eq (by rw [nI_toInt (by omega)]; omega)
  generalize ni.toNatClampNeg = m at *
  subst hni
  obtain ⟨T, hF⟩ := tfacts (days := days) (shift := shift) (m := m) (p := y1) hT (by omega) hr.2.1
  obtain ⟨n6, hn6⟩ : ∃ n, FU = n + 6 + 1 := ⟨FU - 7, by have := FU_ge; omega⟩
  obtain ⟨n, hn⟩ : ∃ n, FU = n + m + 1 := ⟨FU - m - 1, by have := FU_ge; omega⟩
  refine Sf_cb4 (R := fun y => LtN y.2.2.1 ∧ y.1 = goW (fun x k => stB T x k) y2 m 0) ?_ (fun b1 b2 b3 b4 hb => Sf_some ⟨hb.1, ?_⟩)
  · rw [f_X2_alone, hn6, show (0 : Int32) = nI 0 from nI_0.symm]
    refine fill_L hF (fun fa' Lt' vals' hfa hL' => ?_) 6 0 n6 fa Lt vals (by omega) (fun j hj => absurd hj (by omega)) hL
    have h := alone_L (p2 := y2) (vals := vals') hF (by omega) hfa hL' m 0 n (by omega)
    rw [← hn, nI_0] at h
    rw [f_X2_alone_J44]
    exact h
  · have h := told_L (p2 := y2) hF (by omega) m 0 n a1 a2 a3 a4 a5 a6 a7 a8 a9 a10 a11 a12 a13 rf wo (by omega)
    rw [← hn, nI_0] at h
    rw [f_X12_told, e4, cb1_o, if_neg g, e6, cb1_o, if_neg g2]
    exact Sf_mono h (fun z hz => hb.2.trans hz.symm)
