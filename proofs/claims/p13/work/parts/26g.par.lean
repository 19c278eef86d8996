/-- the clauses that were read: each has a sum's code and a condition's code -/
def TRc (k : Int32) (nc nf ns nt : Nat → Int32) (i : Nat) : Prop := 0 ≤ (ns i).toInt ∧ (ns i).toInt ≤ (nf i).toInt ∧ (nf i).toInt ≤ (nt i).toInt ∧ (nt i).toInt ≤ k.toInt ∧ (∃ z, dep nc (ns i).toNatClampNeg ((nf i).toNatClampNeg - (ns i).toNatClampNeg) = some z) ∧ (∃ z, dep nc (nf i).toNatClampNeg ((nt i).toNatClampNeg - (nf i).toNatClampNeg) = some z)
def TR (c k : Int32) (nc nf ns nt : Nat → Int32) : Prop := ∀ i : Nat, (i : Int) < c.toInt → TRc k nc nf ns nt i
theorem TRc_mono {k k' : Int32} {nc nc' nf ns nt nf' ns' nt' : Nat → Int32} {i : Nat} (h : TRc k nc nf ns nt i) (hk : k.toInt ≤ k'.toInt) (hc : ∀ j : Nat, (j : Int) < k.toInt → nc' j = nc j) (e1 : nf' i = nf i) (e2 : ns' i = ns i) (e3 : nt' i = nt i) : TRc k' nc' nf' ns' nt' i := by
  obtain ⟨a1, a2, a3, a4, ⟨z1, h1⟩, ⟨z2, h2⟩⟩ := h
  unfold TRc
  rw [e1, e2, e3]
  have t1 := tN (ns i) (by omega)
  have t2 := tN (nf i) (by omega)
  have t3 := tN (nt i) (by omega)
  refine ⟨a1, a2, a3, by omega, ⟨z1, ?_⟩, ⟨z2, ?_⟩⟩
  · rw [← h1]; exact dep_congr (fun j hj => hc _ (by omega))
  · rw [← h2]; exact dep_congr (fun j hj => hc _ (by omega))
/-- what a clause leaves behind -/
def CO (e p0 c0 : Int32) (p d c k : Int32) (nc nf ns nt : Nat → Int32) : Prop := Bd d ∧ (d = 0 → p0.toInt + 1 ≤ p.toInt ∧ PN p e k 0 ∧ c.toInt = c0.toInt + 1 ∧ c.toInt ≤ 12 ∧ TR c k nc nf ns nt)
theorem PN_0 {p e k m : Int32} (h : PN p e k m) : PN p e k 0 := by
  obtain ⟨n1, n2, n3, n4, n5⟩ := h
  have z : (0 : Int32).toInt = 0 := by decide
  exact ⟨n1, by omega, by omega, n4, n5⟩
theorem clause_J121 {e p0 c : Int32} {nt g6 g10 : Nat → Int32} (hc : 0 ≤ c.toInt) (hc2 : c.toInt < 12) (d k ib iso o p m : Int32) (na nc st : Nat → Int32) (hbd : Bd d) (h : d = 0 → p0.toInt + 1 ≤ p.toInt ∧ PN p e k 0 ∧ TR (c + 1) k nc g10 g6 (upd nt c.toNatClampNeg k)) :
    Sf (f_X12_clause_J121 c nt g6 g10 d k ib iso o p m na nc st) (fun y => CO e p0 c y.1 y.2.1 y.2.2.1 y.2.2.2.1 y.2.2.2.2.2.2.2.2.2.1 y.2.2.2.2.2.2.2.2.2.2.1 y.2.2.2.2.2.2.2.2.2.2.2.1 y.2.2.2.2.2.2.2.2.2.2.2.2.1) := by
  have o1 : (1 : Int32).toInt = 1 := by decide
  have e1 := adX c 1 (by omega) (by omega)
  rw [f_X12_clause_J121, wrI_o (jin_of hc (by omega)), nmI_o]
  exact Sf_some (show CO e p0 c p d (c + 1) k nc g10 g6 (upd nt c.toNatClampNeg k) from ⟨hbd, fun q => ⟨(h q).1, (h q).2.1, by omega, by omega, (h q).2.2⟩⟩)
theorem clause_J97 {e p0 c iso k0 : Int32} {t nc0 nf ns nt : Nat → Int32} (hc : 0 ≤ c.toInt) (hc2 : c.toInt < 12) (hk0 : 0 ≤ k0.toInt) (hT : TR c k0 nc0 nf ns nt) (d k ib o p m : Int32) (na nc st : Nat → Int32) (hbd : Bd d)
    (h : d = 0 → p0.toInt + 1 ≤ p.toInt ∧ PN p e k m ∧ m.toInt = 0 ∧ k0.toInt ≤ k.toInt ∧ (∃ z, dep nc k0.toNatClampNeg (k.toNatClampNeg - k0.toNatClampNeg) = some z) ∧ ∀ i : Nat, i < k0.toNatClampNeg → nc i = nc0 i) :
    Sf (f_X12_clause_J97 e c iso nf nt t (upd ns c.toNatClampNeg k0) d k ib o p m na nc st) (fun y => CO e p0 c y.1 y.2.1 y.2.2.1 y.2.2.2.1 y.2.2.2.2.2.2.2.2.2.1 y.2.2.2.2.2.2.2.2.2.2.1 y.2.2.2.2.2.2.2.2.2.2.2.1 y.2.2.2.2.2.2.2.2.2.2.2.2.1) := by
  rw [f_X12_clause_J97, wrI_o (jin_of hc (by omega))]
  by_cases hd : d = 0
  · subst hd
    obtain ⟨h1, h2, h3, h4, ⟨z0, h5⟩, h6⟩ := h rfl
    have h2' := h2
    obtain ⟨n1, n2, n3, n4, n5⟩ := h2
    rw [isGood_0, cb1_o, if_neg (by decide)]
    have t1 := tN m n2
    have em : m.toNatClampNeg = 0 := by omega
    have hD : DP k.toNatClampNeg nc k.toNatClampNeg m.toNatClampNeg nc st 0 := DP_cast (DP_new _ nc st) rfl em.symm
    refine Sf_cb10 (condition_s h2' h3 hD) (fun p2 d2 k2 o2 m2 iso2 ib2 na2 nc2 st2 hq => ?_)
    have hq : QP k.toNatClampNeg nc e p p2 d2 k2 m2 nc2 st2 := hq
    refine clause_J121 hc hc2 d2 k2 ib2 iso2 o2 p2 m2 na2 nc2 st2 hq.1 (fun q => ?_)
    obtain ⟨q1, q2, q3, q4, q5, q6⟩ := hq.2 q
    refine ⟨by omega, PN_0 q1, fun i hi => ?_⟩
    have o1 : (1 : Int32).toInt = 1 := by decide
    have e1 := adX c 1 (by omega) (by omega)
    have tc := tN c hc
    have tk := tN k n1
    have tk0 := tN k0 hk0
    have tk2 := tN k2 q1.1
    by_cases ci : i = c.toNatClampNeg
    · subst ci
      unfold TRc
      have u1 : upd ns c.toNatClampNeg k0 c.toNatClampNeg = k0 := if_pos rfl
      have u2 : upd nf c.toNatClampNeg k c.toNatClampNeg = k := if_pos rfl
      have u3 : upd nt c.toNatClampNeg k2 c.toNatClampNeg = k2 := if_pos rfl
      rw [u1, u2, u3]
      refine ⟨hk0, h4, by omega, Int.le_refl _, ⟨z0, ?_⟩, ⟨_, q5⟩⟩
      rw [← h5]
      exact dep_congr (fun j hj => q6 _ (by omega))
    · refine TRc_mono (hT i (by omega)) (by omega) (fun j hj => ?_) (if_neg ci) (if_neg ci) (if_neg ci)
      rw [q6 j (by omega)]
      exact h6 j (by omega)
  · rw [isGood_n hd, cb1_o, if_pos rfl]
    exact clause_J121 hc hc2 d k ib iso o p m na nc st hbd (fun q => absurd q hd)
theorem clause_s {e p c k o m iso ib q : Int32} {t na nc nf ns nt st : Nat → Int32} (hc : 0 ≤ c.toInt) (hc2 : c.toInt ≤ 12) (hN : PN p e k 0) (hT : TR c k nc nf ns nt) :
    Sf (f_X12_clause p e 0 c k o m iso ib na nc nf ns nt st t q) (fun y => CO e p c y.1 y.2.1 y.2.2.1 y.2.2.2.1 y.2.2.2.2.2.2.2.2.2.1 y.2.2.2.2.2.2.2.2.2.2.1 y.2.2.2.2.2.2.2.2.2.2.2.1 y.2.2.2.2.2.2.2.2.2.2.2.2.1) := by
  have hN' := hN
  obtain ⟨n1, n2, n3, n4, n5⟩ := hN
  have z : (0 : Int32).toInt = 0 := by decide
  have h0 : 0 ≤ p.toInt := by omega
  have o1 : (1 : Int32).toInt = 1 := by decide
  have tk := tN k n1
  have B : ∀ d : Int32, d.toInt < 0 → Sf (f_X12_clause_J48 p e c k o m iso ib na nc nf ns nt st t q d) (fun y => CO e p c y.1 y.2.1 y.2.2.1 y.2.2.2.1 y.2.2.2.2.2.2.2.2.2.1 y.2.2.2.2.2.2.2.2.2.2.1 y.2.2.2.2.2.2.2.2.2.2.2.1 y.2.2.2.2.2.2.2.2.2.2.2.2.1) := by
    intro d hd
    rw [f_X12_clause_J48, isGood_n (ne_lt hd), cb1_o, if_pos rfl]
    exact Sf_some (bad_lt hd)
  have G : p.toInt < e.toInt → c.toInt < 12 → Sf (f_X12_clause_J48 p e c k o m iso ib na nc nf ns nt st t q 0) (fun y => CO e p c y.1 y.2.1 y.2.2.1 y.2.2.2.1 y.2.2.2.2.2.2.2.2.2.1 y.2.2.2.2.2.2.2.2.2.2.1 y.2.2.2.2.2.2.2.2.2.2.2.1 y.2.2.2.2.2.2.2.2.2.2.2.2.1) := by
    intro hlt hc3
    have e1 := adX p 1 (by omega) (by omega)
    have hN2 : PN (p + 1) e k 0 := ⟨n1, n2, by omega, by omega, n5⟩
    have z0 : (0 : Int32).toNatClampNeg = 0 := by decide
    rw [f_X12_clause_J48, isGood_0, cb1_o, if_neg (by decide), wrI_o (jin_of hc (by omega)), nmI_o]
    refine Sf_ite (fun hq => ?_) (fun hq => ?_)
    · refine clause_J97 hc hc3 n1 hT 0 k ib 0 (p + 1) 0 na nc st (Or.inl rfl) (fun _ => ⟨by omega, hN2, z, Int.le_refl _, ⟨0, ?_⟩, fun _ _ => rfl⟩)
      rw [Nat.sub_self]
      rfl
    · have hD : DP k.toNatClampNeg nc k.toNatClampNeg (0 : Int32).toNatClampNeg nc st 0 := DP_cast (DP_new _ nc st) rfl z0.symm
      refine Sf_cb9 (value_s (w := 0) (Or.inl rfl) (by omega) hN2 hD) (fun p2 d2 k2 o2 m2 ib2 na2 nc2 st2 hq => ?_)
      have hq : VP k.toNatClampNeg nc 0 e (p + 1) st 0 p2 d2 k2 m2 nc2 st2 := hq
      refine clause_J97 hc hc3 n1 hT d2 k2 ib2 o2 p2 m2 na2 nc2 st2 hq.1 (fun w => ?_)
      obtain ⟨q1, q2, q3, q4, -⟩ := hq.2 w
      have tk2 := tN k2 q1.1
      have q41 := q4.1
      exact ⟨by omega, q1, by omega, by omega, ⟨_, q4.2.1⟩, q4.2.2⟩
  have J : ∀ t1 : Int32, ¬ t1 = 0 → Sf (f_X12_clause_J15 p e 0 c k o m iso ib na nc nf ns nt st t q (hr p e t) t1) (fun y => CO e p c y.1 y.2.1 y.2.2.1 y.2.2.2.1 y.2.2.2.2.2.2.2.2.2.1 y.2.2.2.2.2.2.2.2.2.2.1 y.2.2.2.2.2.2.2.2.2.2.2.1 y.2.2.2.2.2.2.2.2.2.2.2.2.1) := by
    intro t1 ht
    rw [f_X12_clause_J15]
    refine Sf_ite (fun h1 => ?_) (fun h1 => ?_)
    · have hlt : p.toInt < e.toInt := hr_lt (t := t) (by rw [h1]; exact ht)
      refine Sf_ite (fun h2 => ?_) (fun h2 => ?_)
      · exact Sf_cb1 (wrongs_s 0 4 p (by decide) (by decide) h0 (by omega)) (fun d hd => B d hd)
      · have l12 : (12 : Int32).toInt = 12 := by decide
        have := neI h2
        exact G hlt (by omega)
    · exact Sf_cb1 (wrongs_s 0 1 p (by decide) (by decide) h0 (by omega)) (fun d hd => B d hd)
  rw [f_X12_clause, here_e h0 (by omega), cb1_o]
  exact Sf_ite (fun _ => J 107 (by decide)) (fun _ => J 104 (by decide))
