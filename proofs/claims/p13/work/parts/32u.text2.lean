def TXR (lw : Int32) (v : kTv) (code ca cf ct sf : Nat → Int32) (s c : Nat) : Prop := v.1 = nI c ∧ 1 ≤ c ∧ c ≤ 12 ∧ v.2.1.1 ≤ 120 ∧ v.2.2.1.1 = c + 1 ∧ v.2.2.2.1 = c ∧ ∀ x, x < c → ∃ a L1 L2 : Nat, v.2.2.1.2 x = nI a ∧ v.2.2.2.2 x = nI (a + L1) ∧ v.2.2.1.2 (x + 1) = nI (a + L1 + L2) ∧ a + L1 + L2 ≤ v.2.1.1 ∧ sf (12 * s + x) = nI (120 * s + a) ∧ cf (12 * s + x) = nI (120 * s + (a + L1)) ∧ ct (12 * s + x) = nI (120 * s + (a + L1 + L2)) ∧ txS lw v.2.1.2 (fun j => code (120 * s + j)) (fun j => ca (120 * s + j)) a L1 L2
/-- the texts in other places stay -/
def outQ (s : Nat) (code ca cf ct sf code' ca' cf' ct' sf' : Nat → Int32) : Prop := (∀ q, (q < 120 * s ∨ 120 * s + 120 ≤ q) → code' q = code q ∧ ca' q = ca q) ∧ (∀ q, (q < 12 * s ∨ 12 * s + 12 ≤ q) → sf' q = sf q ∧ cf' q = cf q ∧ ct' q = ct q)
def txZ (s : Nat) (lw : Int32) (code ca cf ct sf many : Nat → Int32) (nt : Option kTv) (r at' fa' : Int32) (z : R23) : Prop :=
  z.2.1 = 0 ∧ ((nt = none ∧ z.1 = ((-1000) * fa') - at' ∧ z.2.2.2.2.2.2.2.2.2.2.2.1 = code ∧ z.2.2.2.2.2.2.2.2.2.2.2.2.1 = ca ∧ z.2.2.2.2.2.2.2.2.2.2.2.2.2.1 = cf ∧ z.2.2.2.2.2.2.2.2.2.2.2.2.2.2.1 = ct ∧ z.2.2.2.2.2.2.2.2.2.2.2.2.2.2.2.1 = many ∧ z.2.2.2.2.2.2.2.2.2.2.2.2.2.2.2.2.2.2.2.2.2.2 = sf) ∨
    (∃ (v : kTv) (c : Nat), nt = some v ∧ z.1 = v.1 ∧ TXR lw v z.2.2.2.2.2.2.2.2.2.2.2.1 z.2.2.2.2.2.2.2.2.2.2.2.2.1 z.2.2.2.2.2.2.2.2.2.2.2.2.2.1 z.2.2.2.2.2.2.2.2.2.2.2.2.2.2.1 z.2.2.2.2.2.2.2.2.2.2.2.2.2.2.2.2.2.2.2.2.2.2 s c ∧ outQ s code ca cf ct sf z.2.2.2.2.2.2.2.2.2.2.2.1 z.2.2.2.2.2.2.2.2.2.2.2.2.1 z.2.2.2.2.2.2.2.2.2.2.2.2.2.1 z.2.2.2.2.2.2.2.2.2.2.2.2.2.2.1 z.2.2.2.2.2.2.2.2.2.2.2.2.2.2.2.2.2.2.2.2.2.2 ∧ z.2.2.2.2.2.2.2.2.2.2.2.2.2.2.2.1 = upd many s (nI c)))
set_option maxHeartbeats 4000000 in
theorem write_sim {e s : Nat} {b t : Nat → Int32} {lw lt len at0 us0 fa0 tp pl en bd cl co op stk iso ib : Int32} {wc mid sta code ca cf ct many na nc nf ns nt st sf : Nat → Int32} (he1 : 1 ≤ e) (he : e ≤ 120) (hs : s < 20) (hb : TBy b t) (hlw : (lw = 0 ∧ lt = 107) ∨ (lw = 1 ∧ lt = 104)) :
    Sf (f_X6_writeClauses 200 len at0 us0 fa0 b wc mid sta (nI e) lt) (fun y => ∃ z : R23, f_X12_readsText tp pl en bd cl co op stk iso ib code ca cf ct many na nc nf ns nt st sf t (nI s) (nI e) lw = some z ∧ txZ s lw code ca cf ct sf many y.2.2.2.2.2.2.2 0 y.2.1 y.2.2.2.1 z) := by
  obtain ⟨n, hn⟩ : ∃ n, FU = n + 12 + 1 := ⟨FU - 13, by have := FU_ge; omega⟩
  obtain ⟨n', hn'⟩ : ∃ n, FU = n + 12 + 2 := ⟨FU - 14, by have := FU_ge; omega⟩
  have hmin : jmin (nI e) (Int32.ofNat 200) = nI e := by
    unfold jmin
    rw [if_neg (show ¬ Int32.ofNat 200 < nI e from nI_nlt (a := 200) (b := e) (by omega) (by omega))]
  have h := text_L (K := f_X12_readsText_J86 code ca cf ct many sf (nI s) 0 (nI e)) he hb hlw 12 0 n n' 0 0 0 0 0 iso ib wc mid (upd sta 0 0) na nc nf ns nt st (by omega) (by omega) (by omega) (by rw [upd_s, nI_0]) (fun c hc => absurd hc (by omega))
  rw [← hn, ← hn', nI_0] at h
  rw [f_X6_writeClauses, f_X6_begin, nmI_o, hmin, wrI_o (by decide), cb5_o, show (0 : Int32).toNatClampNeg = 0 by decide]
  have hR : f_X12_readsText tp pl en bd cl co op stk iso ib code ca cf ct many na nc nf ns nt st sf t (nI s) (nI e) lw = f_X12_readsText_L8 t lw (nI e) (f_X12_readsText_J86 code ca cf ct many sf (nI s) 0 (nI e)) FU 1 0 0 0 ib iso 0 0 0 na nc nf ns nt st := by
    rw [f_X12_readsText, f_X12_begins, cb8_o]
  rw [hR]
  refine Sf_mono h (fun y hy => ?_)
  rcases hy with ⟨h1, a, ha, hae, hf, x1, x2, x3, x4, x5, x6, x7, x8, x9, x10, x11, x12, x13, hx⟩ | ⟨c, u', code', mid', sta', x3, x4, x5, x6, x7, na', nc', nf', ns', nt', st', c1, c2, c3, c4, hx, htx⟩
  · have hbl : ¬ (0 : Int32) ≤ badC y.2.2.2.1 a := fun w => by
      have := leI w
      have z : (0 : Int32).toInt = 0 := by decide
      have h2 := Sf_det (P := fun y => y.toInt < 0) (wrongs_n y.2.2.2.1 a) (wrongs_s 0 y.2.2.2.1 (nI a) hf.1 hf.2 (by rw [nI_toInt (by omega)]; omega) (by rw [nI_toInt (by omega)]; omega))
      omega
    rw [f_X12_readsText_J86, if_neg hbl] at hx
    refine ⟨_, hx, rfl, Or.inl ⟨h1, ?_, rfl, rfl, rfl, rfl, rfl, rfl⟩⟩
    show badC y.2.2.2.1 a = _
    rw [ha]; rfl
  · rw [f_X12_readsText_J86, if_pos (by decide)] at hx
    obtain ⟨⟨y1, y2, y3, y4, y5, y6⟩, hk, k1, k2, k3, k4, k5⟩ := keeps_n (na := na') (nc := nc') (nf := nf') (ns := ns') (nt := nt') (code := code) (ca := ca) (cf := cf) (ct := ct) (sf := sf) (many := many) hs c3 c2
    rw [hk, cb6_o] at hx
    have k1 : ∀ j, j < u' → y1 (120 * s + j) = nc' j ∧ y2 (120 * s + j) = na' j := k1
    have k3 : ∀ j, j < c → y6 (12 * s + j) = nI (120 * s) + ns' j ∧ y3 (12 * s + j) = nI (120 * s) + nf' j ∧ y4 (12 * s + j) = nI (120 * s) + nt' j := k3
    refine ⟨_, hx, rfl, Or.inr ⟨_, c, c4, rfl, ⟨rfl, c1, c2, c3, rfl, rfl, fun x hxc => ?_⟩, ⟨k2, k4⟩, k5⟩⟩
    obtain ⟨a, L1, L2, t1, t2, t3, t4, t5, t6, t7, t8, g, gb, gC, gR⟩ := htx x hxc
    obtain ⟨p1, p2, p3⟩ := k3 x hxc
    refine ⟨a, L1, L2, t1, t2, t3, t7, ?_, ?_, ?_, fun hl => ?_, g, gb, gC, RR_congr gR (fun i hi => k1 _ (by omega))⟩
    · show y6 (12 * s + x) = _
      rw [p1, t4, nI_add]
    · show y3 (12 * s + x) = _
      rw [p2, t5, nI_add]
    · show y4 (12 * s + x) = _
      rw [p3, t6, nI_add]
    · obtain ⟨f, fC, fR⟩ := t8 hl
      exact ⟨f, fC, RR_congr fR (fun i hi => k1 _ (by omega))⟩
