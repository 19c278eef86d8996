/-! a source is laid on the page -/
theorem add_e {he hi sp : Nat → Int32} {m : Nat} {h sh : Int32} (hm : m < 1440) : ∃ he' hi' sp' : Nat → Int32, f_X4_add he hi sp (nI m) h sh = some (he', hi', sp') ∧ (he' m, hi' m, sp' m) = pAdd (he m, hi m, sp m) h sh ∧ ∀ k, ¬ k = m → he' k = he k ∧ hi' k = hi k ∧ sp' k = sp k := by
  have j1 : jin (nI m) 1440 = true := jin_n hm (by omega)
  have e : f_X4_add he hi sp (nI m) h sh = if h ≤ hi m then some (upd he m (he m + h), hi, sp) else some (upd he m (he m + h), upd hi m h, upd sp m sh) := by
    rw [f_X4_add, rdI_o j1, nmI_o, wrI_o j1, rdI_o j1, wrI_o j1, wrI_o j1, nI_clamp (by omega)]
  rw [e]
  by_cases c : h ≤ hi m
  · have c' := leI c
    rw [if_pos c]
    refine ⟨_, _, _, rfl, ?_, fun k hk => ⟨upd_n hk, rfl, rfl⟩⟩
    unfold pAdd
    rw [upd_s, if_neg (show ¬ hi m < h from fun w => by have := ltI w; omega)]
  · have c' := nleI c
    rw [if_neg c]
    refine ⟨_, _, _, rfl, ?_, fun k hk => ⟨upd_n hk, upd_n hk, upd_n hk⟩⟩
    unfold pAdd
    rw [upd_s, upd_s, upd_s, if_pos (show hi m < h from Int32.lt_iff_toInt_lt.mpr (by omega))]
section ON
variable {G : kG} {sd : Int32} {bs mo wi wd code ca cf ct sf many Hm : Nat → Int32} {s w : Nat} {d t0 shp : Int32} {x : kTx} {mJ : Nat → Nat} {X : Nat → Int32} {r0 : Nat → PS}
def visd (mJ : Nat → Nat) (i m : Nat) : Prop := ∃ j, j < i ∧ mJ j = m
def rowsAt (mJ : Nat → Nat) (r0 : Nat → PS) (Hm : Nat → Int32) (shp : Int32) (i : Nat) (he hi sp : Nat → Int32) : Prop := ∀ m, m < 1440 → (visd mJ i m → (he m, hi m, sp m) = pAdd (r0 m) (Hm m) shp) ∧ (¬ visd mJ i m → (he m, hi m, sp m) = r0 m)
theorem one_L (hw : w ≤ 30) (hwi : wi s = nI w) (hx : G.2 s = some x) (hH : ∀ m, m < 1440 → isH G sd bs mo wi wd code ca cf ct sf many s d (nI m) (Hm m)) (hX : ∀ i, i ≤ 2 * w + 1 → (X i).toInt = (i : Int) - w) (hmJ : ∀ i, i ≤ 2 * w → f_J9_floorMod_7cf53 (t0 + X i) 1440 = some (nI (mJ i)) ∧ mJ i < 1440) (hinj : ∀ i j, i ≤ 2 * w → j ≤ 2 * w → mJ i = mJ j → i = j) :
    ∀ (r i n : Nat) (he hi sp Lt vals : Nat → Int32), i + r = 2 * w + 1 → LtS Lt → rowsAt mJ r0 Hm shp i he hi sp → Sf (f_X7_layOne_L33 sd d (nI s) (bs s) (mo s) (wi s) shp (wd s) x.2.1 x.2.2.1.1 x.2.2.1.2 x.2.2.2.2.1 x.2.2.2.2.2 x.2.2.2.1.1 x.2.2.2.1.2 t0 (n + r + 1) (X i) he hi sp Lt vals) (fun y => LtS y.2.2.2.1 ∧ rowsAt mJ r0 Hm shp (2 * w + 1) y.1 y.2.1 y.2.2.1) := by
  have tw : (nI w).toInt = (w : Int) := nI_toInt (by omega)
  have l1 : (1 : Int32).toInt = 1 := by decide
  intro r
  induction r with
  | zero =>
    intro i n he hi sp Lt vals h hL hr
    have hi' : i = 2 * w + 1 := by omega
    subst hi'
    have hXi := hX (2 * w + 1) (by omega)
    rw [Nat.add_zero, f_X7_layOne_L33, if_pos (by rw [hwi]; exact Int32.lt_iff_toInt_lt.mpr (by omega))]
    exact Sf_some ⟨hL, hr⟩
  | succ r ih =>
    intro i n he hi sp Lt vals h hL hr
    have hXi := hX i (by omega)
    have hXn := hX (i + 1) (by omega)
    obtain ⟨hm1, hm2⟩ := hmJ i (by omega)
    have e1 : X i + 1 = X (i + 1) := i32_eq (by rw [adN (X i) 1 1 l1 (by omega) (by omega), hXn]; omega)
    rw [show n + (r + 1) + 1 = (n + r + 1) + 1 by omega, f_X7_layOne_L33, if_neg (by rw [hwi]; exact fun w' => by have := ltI w'; omega), hm1, cb1_o]
    refine Sf_cb3 ((hH (mJ i) hm2).2.2.1 x hx Lt vals hL) (fun q1 L' v' hq => ?_)
    have hq1 : q1 = Hm (mJ i) := hq.1
    have hL' : LtS L' := hq.2
    obtain ⟨he', hi', sp', e2, e3, e4⟩ := add_e (he := he) (hi := hi) (sp := sp) (h := q1) (sh := shp) hm2
    rw [e2, cb3_o, nmI_o, e1]
    refine ih (i + 1) n he' hi' sp' L' v' (by omega) hL' (fun m hm => ⟨fun hv => ?_, fun hv => ?_⟩)
    · by_cases c : m = mJ i
      · subst c
        have hnv : ¬ visd mJ i (mJ i) := fun ⟨j, hj, hj2⟩ => by have := hinj j i (by omega) (by omega) hj2; omega
        rw [e3, hq1, (hr (mJ i) hm).2 hnv]
      · obtain ⟨k1, k2', k3⟩ := e4 m c
        rw [k1, k2', k3]
        obtain ⟨j, hj, hj2⟩ := hv
        refine (hr m hm).1 ⟨j, ?_, hj2⟩
        by_cases c2 : j = i
        · subst c2; exact absurd hj2.symm c
        · omega
    · have c : ¬ m = mJ i := fun c => hv ⟨i, by omega, c.symm⟩
      obtain ⟨k1, k2', k3⟩ := e4 m c
      rw [k1, k2', k3]
      exact (hr m hm).2 (fun ⟨j, hj, hj2⟩ => hv ⟨j, by omega, hj2⟩)
end ON
/-- floorMod by 1440 -/
theorem fmod_e {p : Int32} (h1 : -100000 ≤ p.toInt) (h2 : p.toInt ≤ 100000) : ∃ q : Nat, f_J9_floorMod_7cf53 p 1440 = some (nI q) ∧ (q : Int) = p.toInt % 1440 ∧ q < 1440 := by
  have l0 : (0 : Int32).toInt = 0 := by decide
  have l1 : (1440 : Int32).toInt = 1440 := by decide
  have hr := rm_ p 1440 (by omega)
  have hrem : (jrem p 1440).toInt = Int.tmod p.toInt 1440 := by
    have := Int32.toInt_mod p 1440
    unfold jrem
    have d1 := Int32.toInt_div_of_ne_right p 1440 (by decide)
    have d2 : (p / 1440).toInt = Int.tdiv p.toInt 1440 := by rw [d1, l1]
    have b := Int.natAbs_tdiv_le_natAbs p.toInt 1440
    have d3 : (p / 1440 * 1440).toInt = Int.tdiv p.toInt 1440 * 1440 := by
      rw [mlX (p / 1440) 1440 1440 l1 (by rw [d2]; omega) (by rw [d2]; omega), d2]
    have t := Int.tmod_add_tdiv_mul p.toInt 1440
    have d4 := sbX p (p / 1440 * 1440) (by rw [d3]; omega) (by rw [d3]; omega)
    rw [d4, d3]
    omega
  have hx : (0 ≤ (p ^^^ 1440)) ↔ 0 ≤ p.toInt := by
    rw [Int32.le_iff_toInt_le, l0]
    have e : (p ^^^ 1440).toInt = (p.toBitVec ^^^ 1440#32).toInt := rfl
    have e2 : p.toInt = p.toBitVec.toInt := rfl
    rw [e, e2]
    have m1 := BitVec.msb_eq_toInt (x := p.toBitVec ^^^ 1440#32)
    have m2 := BitVec.msb_eq_toInt (x := p.toBitVec)
    have m3 : (p.toBitVec ^^^ 1440#32).msb = p.toBitVec.msb := by rw [BitVec.msb_xor]; cases p.toBitVec.msb <;> decide
    rw [m3] at m1
    rw [m1] at m2
    have := decide_eq_decide.mp m2
    omega
  have ht : Int.tmod p.toInt 1440 = if 0 ≤ p.toInt then p.toInt % 1440 else (if p.toInt % 1440 = 0 then 0 else p.toInt % 1440 - 1440) := by
    have t := Int.tmod_eq_emod (a := p.toInt) (b := 1440)
    by_cases c : 0 ≤ p.toInt
    · rw [if_pos (Or.inl c)] at t
      rw [if_pos c, t]; omega
    · rw [if_neg c]
      by_cases d : p.toInt % 1440 = 0
      · rw [if_pos (Or.inr (Int.dvd_of_emod_eq_zero d))] at t
        rw [if_pos d, t]; omega
      · rw [if_neg (fun w => by rcases w with w | w; exact c w; exact d (Int.emod_eq_zero_of_dvd w))] at t
        rw [if_neg d, t]; rfl
  have hq0 : 0 ≤ p.toInt % 1440 ∧ p.toInt % 1440 < 1440 := ⟨Int.emod_nonneg _ (by decide), Int.emod_lt_of_pos _ (by decide)⟩
  refine ⟨(p.toInt % 1440).toNat, ?_, by omega, by omega⟩
  have hn : (nI (p.toInt % 1440).toNat).toInt = p.toInt % 1440 := by rw [nI_toInt (by omega)]; omega
  rw [f_J9_floorMod_7cf53]
  unfold dvI
  rw [if_neg (by decide), nmI_o]
  by_cases c : 0 ≤ p.toInt
  · rw [if_pos (hx.mpr c)]
    rw [if_pos c] at ht
    exact congrArg some (i32_eq (by rw [hn, hrem, ht]))
  · rw [if_neg (fun w => c (hx.mp w))]
    rw [if_neg c] at ht
    by_cases d : p.toInt % 1440 = 0
    · rw [if_pos d] at ht
      rw [if_pos (i32_eq (by rw [hrem, ht]; exact l0.symm))]
      exact congrArg some (i32_eq (by rw [hn, hrem, ht, d]))
    · rw [if_neg d] at ht
      rw [if_neg (fun w => by have := eqI w; omega)]
      exact congrArg some (i32_eq (by rw [hn, adN (jrem p 1440) 1440 1440 l1 (by omega) (by omega), hrem, ht]; omega))
