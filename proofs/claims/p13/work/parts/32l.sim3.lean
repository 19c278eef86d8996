/-! an E, read by both -/
def bd (kd o : Nat) : Nat := 5 - kd + 2 * (6 - o)
theorem isT_A {x : Int32} (h : isT x) : isA x := by
  rcases h with h | h | h
  · exact Or.inl h
  · exact Or.inr (Or.inl h)
  · exact Or.inr (Or.inr (Or.inl h))
theorem isP_A {x : Int32} (h : isP x) : isA x := by
  rcases h with h | h
  · exact Or.inr (Or.inr (Or.inr (Or.inl h)))
  · exact Or.inr (Or.inr (Or.inr (Or.inr h)))
theorem isA_TP {x : Int32} (h : isA x) : isT x ∨ isP x := by
  rcases h with h | h | h | h | h
  · exact Or.inl (Or.inl h)
  · exact Or.inl (Or.inr (Or.inl h))
  · exact Or.inl (Or.inr (Or.inr h))
  · exact Or.inr (Or.inl h)
  · exact Or.inr (Or.inr h)
def pendOK (kd j : Nat) (st : Nat → Int32) (m : Nat) : Prop := (kd = 4 ∧ j = 0) ∨ (kd = 3 ∧ j ≤ 1 ∧ ∀ i, i < j → isT (st (m + i))) ∨ (kd = 2 ∧ j ≤ 2 ∧ ∀ i, i < j → isA (st (m + i)))
def stopc (kd : Nat) (h : Int32) : Prop := (kd = 3 → ¬ isT h) ∧ (kd = 2 → ¬ isA h)
def eOK (e : Nat) (t : Nat → Int32) (kd pd : Nat) (code0 : Nat → Int32) (u k o p m : Nat) (na nc st : Nat → Int32) (a k' j : Nat) (na' nc' st' : Nat → Int32) (us : Int32) (code' : Nat → Int32) : Prop :=
  p < a ∧ a ≤ e ∧ k ≤ k' ∧ k' + j + p ≤ a + k ∧ vrun e t k o p m na nc st k' o a (m + j) na' nc' st' ∧ (∀ i, i < m → st' i = st i) ∧ pendOK pd j st' m ∧ us = nI (u + (k' + j - k)) ∧ (∀ i, i < u → code' i = code0 i) ∧ (∀ i, i < k → nc' i = nc i ∧ na' i = na i) ∧ (∃ f : Sem, CR code' u (k' + j - k) (bd pd o) f ∧ RR (emC st' m j nc' k') (emC z0 m j na' k') k (k' + j - k) f) ∧ stopc kd (hN t e a)
def ePost (e : Nat) (t : Nat → Int32) (kd : Nat) (code0 : Nat → Int32) (u k o p m : Nat) (na nc st : Nat → Int32) (y : Int32 × Int32 × Int32 × Int32 × (Nat → Int32)) : Prop :=
  (y.1 = 0 ∧ ∃ a : Nat, y.2.1 = nI a ∧ a ≤ e ∧ (1 ≤ y.2.2.2.1.toInt ∧ y.2.2.2.1.toInt ≤ 9) ∧ vbad e t k o p m na nc st (badC y.2.2.2.1 a)) ∨
  (y.1 = 1 ∧ ∃ (a k' j : Nat) (na' nc' st' : Nat → Int32), y.2.1 = nI a ∧ eOK e t kd kd code0 u k o p m na nc st a k' j na' nc' st' y.2.2.1 y.2.2.2.2)
section S3
variable {e k o p m k' o' p' m' a j k2 o2 a2 m2 : Nat} {b t na nc st na' nc' st' na2 nc2 st2 code : Nat → Int32}
theorem fac_let (he : e ≤ 120) (hp : p < e) (h1 : ¬ hN t e p = 91) (h2 : ¬ digP (hN t e p)) (h3 : valB (hN t e p) = true) (hk : k < 120) : f_X12_factor (nI p) (nI e) 0 (nI k) (nI o) (nI m) na nc st t = some (nI (p + 1), 0, nI (k + 1), nI o, nI m, upd na k (hN t e p), upd nc k 1, st) := by
  rw [fac_J he (by omega) h1, f_X12_factor_J23, isGood_0, cb1_o, if_neg (by decide), dig_n he (by omega), cb1_o, if_pos (by rw [bI_0]; exact h2), here_n he (by omega), cb1_o, isValue_n, cb1_o, if_neg (by rw [bI_0]; exact fun w => w h3), cb1_o, emit_n hk, cb3_o, nmI_o, nI_1]
theorem fac_wrong (he : e ≤ 120) (hp : p ≤ e) (h1 : ¬ hN t e p = 91) (h2 : ¬ digP (hN t e p)) (h3 : ¬ valB (hN t e p) = true) : f_X12_factor (nI p) (nI e) 0 (nI k) (nI o) (nI m) na nc st t = some (nI p, badC 1 p, nI k, nI o, nI m, na, nc, st) := by
  rw [fac_J he hp h1, f_X12_factor_J23, isGood_0, cb1_o, if_neg (by decide), dig_n he hp, cb1_o, if_pos (by rw [bI_0]; exact h2), here_n he hp, cb1_o, isValue_n, cb1_o, if_pos (by rw [bI_0]; exact h3), wrongs_n, cb1_o]
theorem fac_num {q : Nat} {w : Int32} (he : e ≤ 120) (hp : p ≤ e) (h1 : ¬ hN t e p = 91) (h2 : digP (hN t e p)) (hr : f_X12_reads (nI p) (nI e) 0 t = some (w, nI q, 0)) (hk : k < 120) : f_X12_factor (nI p) (nI e) 0 (nI k) (nI o) (nI m) na nc st t = some (nI q, 0, nI (k + 1), nI o, nI m, upd na k w, upd nc k 0, st) := by
  rw [fac_J he hp h1, f_X12_factor_J23, isGood_0, cb1_o, if_neg (by decide), dig_n he hp, cb1_o, if_neg (by rw [bI_0]; exact fun w => w h2), hr, cb3_o, emit_n hk, cb3_o]
theorem fac_num6 {q d : Int32} {w : Int32} (he : e ≤ 120) (hp : p ≤ e) (h1 : ¬ hN t e p = 91) (h2 : digP (hN t e p)) (hr : f_X12_reads (nI p) (nI e) 0 t = some (w, q, d)) (hd : ¬ d = 0) : f_X12_factor (nI p) (nI e) 0 (nI k) (nI o) (nI m) na nc st t = some (q, d, nI k, nI o, nI m, na, nc, st) := by
  rw [fac_J he hp h1, f_X12_factor_J23, isGood_0, cb1_o, if_neg (by decide), dig_n he hp, cb1_o, if_neg (by rw [bI_0]; exact fun w => w h2), hr, cb3_o, f_X12_emit, isGood_n hd, cb1_o, if_pos rfl, cb3_o]
/-- an E ends inside of brackets that are still open -/
theorem stay_noclose (he : e ≤ 120) (hp : p ≤ e) (hc : ¬ hN t e p = 93) (hs : ¬ isA (hN t e p)) (hm : st m = 91) (h1 : ∀ i, i < j → isA (st (m + 1 + i))) (h2 : k + j ≤ 120) (h3 : m + 1 + j < 160) (n : Nat) : vL e t (n + 1 + 1) 1 k o p (m + 1 + j) na nc st = some (nI p, badC 1 p, nI (k + j), nI o, nI (m + 1), 0, emC z0 (m + 1) j na k, emC st (m + 1) j nc k, st) := by
  have ht : tpN st (m + 1) = 91 := by unfold tpN; rw [if_neg (by omega)]; exact hm
  have hq : ¬ opq 1 (tpN st (m + 1)) := by
    rw [ht]
    rintro (h | h)
    · exact absurd h (by unfold isT; decide)
    · exact absurd h.2 (by unfold isP; decide)
  have hT : ¬ (hN t e p = 42 ∨ hN t e p = 47 ∨ hN t e p = 37) := fun w => hs (isT_A w)
  have hP : ¬ (hN t e p = 43 ∨ hN t e p = 45) := fun w => hs (isP_A w)
  have hst : f_X12_stays (nI p) (nI e) 0 (nI k) (nI o) (nI (m + 1 + j)) 0 na nc st t = some (0, nI p, 0, nI (k + j), nI o, nI (m + 1), 0, emC z0 (m + 1) j na k, emC st (m + 1) j nc k, st) := by
    rw [f_X12_stays, here_n he hp, cb1_o, isTimes_e, cb1_o, if_pos (by rw [bI_0]; exact hT), isPlus_e, cb1_o, if_pos (by rw [bI_0]; exact hP), sums_e hq (fun i hi => isA_opq (h1 i hi)) h2 (by omega), cb4_o, if_neg hc]
  rw [vL_1, f_X12_value_J29, isGood_0, cb1_o, if_neg (by decide), hst, cb10_o, if_pos rfl, f_X12_value_L7, if_pos rfl, f_X12_value_J57, isGood_0, cb1_o, if_neg (by decide), top_n (by omega), cb1_o, ht, if_pos rfl, wrongs_n, cb1_o]
theorem vrun_close (haa : a < a2) (h : vrun e t k o p m na nc st k' o' a m' na' nc' st') (hs : ∀ n, vL e t (n + 1) 1 k' o' a m' na' nc' st' = vL e t n 1 k2 o2 a2 m2 na2 nc2 st2) : vrun e t k o p m na nc st k2 o2 a2 m2 na2 nc2 st2 := by
  obtain ⟨J, hJ, h⟩ := h
  refine ⟨J + 1, by omega, fun n => ?_⟩
  rw [show n + 1 + (J + 1) = (n + 1) + 1 + J by omega, h (n + 1), hs (n + 1)]
theorem vbad_noclose (hae : a ≤ e) {d : Int32} {p1 k1 o1 m1 ib1 : Int32} {na1 nc1 st1 : Nat → Int32} (h : vrun e t k o p m na nc st k' o' a m' na' nc' st') (hs : ∀ n, vL e t (n + 1 + 1) 1 k' o' a m' na' nc' st' = some (p1, d, k1, o1, m1, ib1, na1, nc1, st1)) : vbad e t k o p m na nc st d := by
  obtain ⟨J, hJ, h⟩ := h
  refine ⟨J + 1, p1, k1, o1, m1, ib1, na1, nc1, st1, by omega, fun n => ?_⟩
  rw [show n + 1 + (J + 1) = (n + 1) + 1 + J by omega, h (n + 1), hs n]
theorem vrun_op (haa : a2 = a + 1) {k3 o3 p3 m3 : Nat} {na3 nc3 st3 : Nat → Int32} (h : vrun e t k o p m na nc st k' o' a m' na' nc' st') (hs : ∀ n, vL e t (n + 1) 1 k' o' a m' na' nc' st' = vL e t n 0 k2 o2 a2 m2 na2 nc2 st2) (h2 : vrun e t k2 o2 a2 m2 na2 nc2 st2 k3 o3 p3 m3 na3 nc3 st3) : vrun e t k o p m na nc st k3 o3 p3 m3 na3 nc3 st3 := by
  obtain ⟨J, hJ, h⟩ := h
  obtain ⟨J2, hJ2, h2⟩ := h2
  refine ⟨J + J2 + 1, by omega, fun n => ?_⟩
  rw [show n + 1 + (J + J2 + 1) = (n + 1 + J2) + 1 + J by omega, h (n + 1 + J2), hs (n + 1 + J2), h2 n]
theorem vbad_op {d : Int32} (haa : a2 = a + 1) (h : vrun e t k o p m na nc st k' o' a m' na' nc' st') (hs : ∀ n, vL e t (n + 1) 1 k' o' a m' na' nc' st' = vL e t n 0 k2 o2 a2 m2 na2 nc2 st2) (h2 : vbad e t k2 o2 a2 m2 na2 nc2 st2 d) : vbad e t k o p m na nc st d := by
  obtain ⟨J, hJ, h⟩ := h
  obtain ⟨J2, p1, k1, o1, m1, ib1, na1, nc1, st1, hJ2, h2⟩ := h2
  refine ⟨J + J2 + 1, p1, k1, o1, m1, ib1, na1, nc1, st1, by omega, fun n => ?_⟩
  rw [show n + 1 + (J + J2 + 1) = (n + 1 + J2) + 1 + J by omega, h (n + 1 + J2), hs (n + 1 + J2), h2 n]
theorem sign_n {fault : Int32} {c : Int32} (he : e ≤ 120) (hp : a ≤ e) (hb : TBy b t) (hc : 0 < c.toInt) : f_X6_signStands 200 (nI e) (nI a) fault b c = if hN t e a = c then some (1, nI (a + 1), fault) else some (0, nI a, 1) := by
  rw [f_X6_signStands, next_n he hp, cb1_o]
  by_cases d : hN t e a = c
  · rw [if_pos ((nh_iff hb c hc).mpr d), if_pos d, nmI_o, nI_1]
  · rw [if_neg (fun w => d ((nh_iff hb c hc).mp w)), if_neg d, f_X6_fail, cb2_o]
    unfold bo
    rw [if_pos (Or.inl rfl)]
end S3
