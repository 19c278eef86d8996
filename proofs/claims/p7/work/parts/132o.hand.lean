def ckS {β : Type} (G : kG) (i : Nat) (k : Option β) : Option β := if i < 10 ∧ (G.1 i).isNone = true ∧ (G.2 i).isNone = true then k else none
theorem ckS_s {β : Type} {G : kG} {i : Nat} {k : Option β} {y : β} (h : ckS G i k = some y) : i < 10 ∧ G.1 i = none ∧ G.2 i = none ∧ k = some y := by
  unfold ckS at h
  by_cases c : i < 10 ∧ (G.1 i).isNone = true ∧ (G.2 i).isNone = true
  · rw [if_pos c] at h
    exact ⟨c.1, by simpa using c.2.1, by simpa using c.2.2, h⟩
  · rw [if_neg c] at h
    exact nomatch h
theorem kV.same {E : kE} {A : Nat → Prop} {H0 H : Heap} {locs : List Loc} {ws : va_W} {a n : Nat} {cA : ClassId} {f g : Nat → Int32} (h : kV E A H0 H locs (ws ++ [(a, .inl (cA, n, .inl g))])) (hfg : ∀ j, j < n → g j = f j) : kV E A H0 H locs (ws ++ [(a, .inl (cA, n, .inl f))]) := by
  have e : vp_cell cA (n, .inl g) = vp_cell cA (n, .inl f) := by
    rw [vp_cell_i, vp_cell_i]
    unfold arrV
    congr 1
    congr 1
    funext j
    show Value.int (g j.val) = Value.int (f j.val)
    rw [hfg j.val j.isLt]
  have h1 := kP_iff.mp h.1
  have h2 := kD_iff.mp h.2.1
  refine ⟨kP_iff.mpr (fun q hq => ?_), kD_iff.mpr ⟨?_, fun q hq => ?_⟩, h.2.2⟩
  · rcases List.mem_append.mp hq with c | c
    · exact h1 q (List.mem_append_left _ c)
    · rw [List.mem_singleton.mp c]
      have h3 := h1 (a, .inl (cA, n, .inl g)) (List.mem_append_right _ (List.mem_singleton.mpr rfl))
      exact Eq.trans (show H[a]? = some (vp_cell cA (n, .inl g)) from h3) (by rw [e])
  · have h3 := h2.1
    rw [List.map_append] at h3 ⊢
    exact h3
  · rcases List.mem_append.mp hq with c | c
    · exact h2.2 q (List.mem_append_left _ c)
    · rw [List.mem_singleton.mp c]
      exact h2.2 (a, .inl (cA, n, .inl g)) (List.mem_append_right _ (List.mem_singleton.mpr rfl))
theorem kofN {n : Nat} (h : n ≤ 1000) : (Int32.ofNat n).toInt = n := Int32.toInt_ofNat_of_lt (by omega)
theorem ktN32 {p : Int32} {N : Nat} (h0 : ¬ p < 0) (hN : p.toNatClampNeg = N) : p.toInt = N := by
  have h1 : p.toNatClampNeg = p.toInt.toNat := rfl
  rw [Int32.lt_iff_toInt_lt] at h0
  have h2 : (0 : Int32).toInt = 0 := by decide
  omega
theorem kjmin {n0 N : Nat} {p : Int32} (h0 : ¬ p < 0) (hN : p.toNatClampNeg = N) (hle : N ≤ n0) (hn0 : n0 ≤ 1000) : jmin (Int32.ofNat n0) p = p := by
  unfold jmin
  by_cases h : p < Int32.ofNat n0
  · rw [if_pos h]
  · rw [if_neg h]
    rw [Int32.lt_iff_toInt_lt, kofN hn0, ktN32 h0 hN] at h
    exact Int32.toInt_inj.mp (by rw [kofN hn0, ktN32 h0 hN]; omega)
abbrev r_J7_copyOf_59c91 (N : Nat) : Room := { frames := 1, cells := 1, slots := N, locals := 60 }
set_option maxHeartbeats 4000000 in
set_option maxRecDepth 100000 in
theorem c_J7_copyOf_59c91 (l : Launch) (E : kE) (sz a0 n0 : Nat) (f : Nat → Int32) (p2 : Int32) (N : Nat) (h0 : ¬ p2 < 0) (hN : p2.toNatClampNeg = N) (hle : N ≤ n0) (hn0 : n0 ≤ 1000) : kMq l yJ7_copyOf_59c91 cJ7_copyOf_59c91 3 (some (.array .int)) (r_J7_copyOf_59c91 N) [.ref a0, .int p2] E [(a0, .inl (E.2 0, n0, .inl f))] sz 1 N (fun x (u : Nat) => x = some u) (fun u => [(a0, .inl (E.2 0, n0, .inl f)), (u, .inl (E.2 0, N, .inl f))]) := by
  refine kmetq (Or.inr ⟨_, rfl⟩) rfl (Nat.le_of_ble_eq_true rfl) ?_
  intro p e s m args below meth c ls A Q X hV hret hl
  have X : kC p s m c cJ7_copyOf_59c91 3 RJ7 args E A := X
  have hx := X.1
  have hb := X.2.1
  have hl : lv_has ls 3 [(0, .ref a0), (1, .int p2)] := hl
  refine lv_iload_n hx hb dJ7_copyOf_59c91_0 rfl (lv_at hl 1 rfl) ?_
  refine lv_aload_n hx hb dJ7_copyOf_59c91_1 rfl (lv_at hl 0 rfl) ?_
  refine kalen X hV 0 0 rfl rfl (v := Int32.ofNat n0) rfl dJ7_copyOf_59c91_2 ?_
  refine lv_icmp_ne (tgt := 14) hx hb dJ7_copyOf_59c91_3 (by decide) (fun c1 => ?_) (fun c1 => ?_)
  · refine lv_iload_n hx hb dJ7_copyOf_59c91_14 rfl (lv_at hl 1 rfl) ?_
    refine knewa (atype := .int) X hV 0 rfl mw_50 rfl (N' := N) (fun _ => rfl) h0 hN (by show N * 4 ≤ 536870912; omega) (by show 0 + 1 ≤ 1; omega) (by show 0 + N ≤ N; omega) dJ7_copyOf_59c91_15 (fun q H hV1 => ?_)
    have hV1 : kV E A s.heap H _ [(a0, .inl (E.2 0, n0, .inl f)), (q, .inl (E.2 0, N, .inl (fun _ => 0)))] := hV1
    clear hV
    refine W.widen (k := 1) (n := N) (by omega) (by omega) ?_
    refine lv_astore_n (lv' := [(2, .ref q), (0, .ref a0), (1, .int p2)]) hx hb dJ7_copyOf_59c91_17 rfl hl (by decide) rfl (fun ls hl => ?_)
    refine lv_aload_n hx hb dJ7_copyOf_59c91_18 rfl (lv_at hl 1 rfl) ?_
    refine lv_iconst (v := 0) hx hb dJ7_copyOf_59c91_19 (by decide) ?_
    refine lv_aload_n hx hb dJ7_copyOf_59c91_20 rfl (lv_at hl 0 rfl) ?_
    refine lv_iconst (v := 0) hx hb dJ7_copyOf_59c91_21 (by decide) ?_
    refine lv_aload_n hx hb dJ7_copyOf_59c91_22 rfl (lv_at hl 1 rfl) ?_
    refine kalen X hV1 0 0 rfl rfl (v := Int32.ofNat n0) rfl dJ7_copyOf_59c91_23 ?_
    refine lv_iload_n hx hb dJ7_copyOf_59c91_24 rfl (lv_at hl 2 rfl) ?_
    refine va_mmin hx hb (X.2.2.1.trans hl.1.symm) X.2.2.2.1 (X.2.2.2.2.1 _ mw_436) (X.2.2.2.2.1 _ mw_280) (X.2.2.2.2.1 _ mw_281) (X.2.2.2.2.1 _ mw_282) (Nat.le_refl 1) (Nat.le_of_ble_eq_true rfl) (Nat.le_refl 1) (Nat.le_refl N) dJ7_copyOf_59c91_25 ?_
    refine ktopi (v := p2) (kjmin h0 hN hle hn0).symm ?_
    refine va_copyi (rest := []) hx hb (X.2.2.1.trans hl.1.symm) X.2.2.2.1 (X.2.2.2.2.1 _ mw_437) (X.2.2.2.2.1 _ mw_438) (X.2.2.2.2.1 _ mw_439) (X.2.2.2.2.1 _ mw_440) X.2.2.2.2.2.1.1 hV1.1 hV1.2.1 hV1.2.2 0 1 0 0 rfl rfl rfl rfl rfl (by decide) (by decide) h0 (by rw [hN]; show 0 + N ≤ n0; omega) (by rw [hN]; show 0 + N ≤ N; omega) (fun i _ => rfl) (Nat.le_of_ble_eq_true rfl) (Nat.le_of_ble_eq_true rfl) dJ7_copyOf_59c91_28 (fun H locs k1 k2 k3 => ?_)
    have hV2 : kV E A s.heap H locs ([(a0, .inl (E.2 0, n0, .inl f))] ++ [(q, .inl (E.2 0, N, .inl (va_cpy f (fun _ => 0) (0 : Int32).toNatClampNeg (0 : Int32).toNatClampNeg p2.toNatClampNeg)))]) := ⟨k1, k2, k3⟩
    have hV3 := hV2.same (f := f) (fun j hj => by
      have e0 : (0 : Int32).toNatClampNeg = 0 := by decide
      rw [hN, e0]
      unfold va_cpy
      rw [if_pos ⟨by omega, by omega⟩]
      congr 1
      omega)
    refine lv_aload_n hx hb dJ7_copyOf_59c91_31 rfl (lv_at hl 0 rfl) ?_
    exact hret (some q) q _ _ _ _ rfl hV3 dJ7_copyOf_59c91_32
  · have e1 : N = n0 := by
      have h3 := ktN32 h0 hN
      rw [c1, kofN hn0] at h3
      omega
    subst e1
    refine lv_aload_n hx hb dJ7_copyOf_59c91_6 rfl (lv_at hl 0 rfl) ?_
    have hI := va_nm_int (X.2.2.2.2.2.1.1.2 0 _ rfl).2
    refine va_clone (rest := []) (ad := "[I") hx hb (X.2.2.1.trans hl.1.symm) X.2.2.2.1 (X.2.2.2.2.1 _ mw_430) (X.2.2.2.2.1 _ mw_431) (X.2.2.2.2.1 _ mw_432) (X.2.2.2.2.1 _ mw_433) (X.2.2.2.2.1 _ mw_434) X.2.2.2.2.2.1.2.2.2.2.2 X.2.2.2.2.2.1.1 hV.1 hV.2.1 hV.2.2 X.2.2.2.2.2.2.1 0 0 rfl rfl hI (va_fit (F := fun j => .int (f j)) (fun i _ => rfl)) (Nat.le_of_ble_eq_true rfl) (Nat.le_of_ble_eq_true rfl) (by show 0 + 1 ≤ 1; omega) (by show 0 + N ≤ N; omega) dJ7_copyOf_59c91_7 (fun q H k0 k1 k2 k3 => ?_)
    have hV1 : kV E A s.heap H _ [(a0, .inl (E.2 0, N, .inl f)), (q, .inl (E.2 0, N, .inl f))] := ⟨k1, k2, k3⟩
    refine W.widen (k := 1) (n := N) (by omega) (by show 0 + N ≤ N; omega) ?_
    refine va_castA hx hb X.2.2.2.1 (X.2.2.2.2.1 _ mw_435) hV1.1 1 rfl hI dJ7_copyOf_59c91_10 ?_
    exact hret (some q) q _ _ _ _ rfl hV1 dJ7_copyOf_59c91_13
abbrev r_X10_init : Room := { frames := 1, cells := 0, slots := 0, locals := 22 }
set_option maxHeartbeats 4000000 in
set_option maxRecDepth 100000 in
theorem c_X10_init (l : Launch) (E : kE) (sz a0 : Nat) (p1 : Int32) (a2 a3 a4 : Nat) : kMv l yX10_init cX10_init 5 r_X10_init [.ref a0, .int p1, .ref a2, .ref a3, .ref a4] E [(a0, .inr (10, [.int 0, .null, .null, .null]))] sz 0 0 (fun (_ : Unit) => True) (fun _ => [(a0, .inr (10, [.int p1, .ref a2, .ref a3, .ref a4]))]) := by
  refine kmetv rfl (Nat.le_of_ble_eq_true rfl) ?_
  intro p e s m args below meth c ls A Q X hnm hV hret hl
  have X : kC p s m c cX10_init 5 RX10 args E A := X
  have hx := X.1
  have hb := X.2.1
  have hl : lv_has ls 5 [(0, .ref a0), (1, .int p1), (2, .ref a2), (3, .ref a3), (4, .ref a4)] := hl
  refine lv_aload_n hx hb dX10_init_0 rfl (lv_at hl 0 rfl) ?_
  refine W.objInit hx hb X.2.2.2.1 (X.2.2.2.2.1 _ mw_444) (X.2.2.2.2.1 _ mw_10) (X.2.2.2.2.1 _ mw_11) rfl (by rw [X.2.2.1]; exact hl.1) rfl dX10_init_1 (by decide) (Nat.le_of_ble_eq_true rfl) ?_
  refine W.eq (g2 := F0 m 4 ls []) rfl ?_
  refine lv_aload_n hx hb dX10_init_4 rfl (lv_at hl 0 rfl) ?_
  refine lv_iload_n hx hb dX10_init_5 rfl (lv_at hl 1 rfl) ?_
  refine kputF X hV (ci := 10) inlX10 rfl tyX10 tyX10_ok nmX10 0 rfl 0 (by decide) mw_445 rfl hnm rfl rfl rfl (Nat.le_of_ble_eq_true rfl) dX10_init_6 (fun H locs hV1 => ?_)
  have hV1 : kV E A s.heap H locs [(a0, .inr (10, [.int p1, .null, .null, .null]))] := hV1
  refine lv_aload_n hx hb dX10_init_9 rfl (lv_at hl 0 rfl) ?_
  refine lv_aload_n hx hb dX10_init_10 rfl (lv_at hl 2 rfl) ?_
  refine kputF X hV1 (ci := 10) inlX10 rfl tyX10 tyX10_ok nmX10 0 rfl 1 (by decide) mw_446 rfl hnm rfl rfl rfl (Nat.le_of_ble_eq_true rfl) dX10_init_11 (fun H locs hV2 => ?_)
  have hV2 : kV E A s.heap H locs [(a0, .inr (10, [.int p1, .ref a2, .null, .null]))] := hV2
  refine lv_aload_n hx hb dX10_init_14 rfl (lv_at hl 0 rfl) ?_
  refine lv_aload_n hx hb dX10_init_15 rfl (lv_at hl 3 rfl) ?_
  refine kputF X hV2 (ci := 10) inlX10 rfl tyX10 tyX10_ok nmX10 0 rfl 2 (by decide) mw_447 rfl hnm rfl rfl rfl (Nat.le_of_ble_eq_true rfl) dX10_init_16 (fun H locs hV3 => ?_)
  have hV3 : kV E A s.heap H locs [(a0, .inr (10, [.int p1, .ref a2, .ref a3, .null]))] := hV3
  refine lv_aload_n hx hb dX10_init_19 rfl (lv_at hl 0 rfl) ?_
  refine lv_aload hx hb dX10_init_20 (lv_at hl 4 rfl) ?_
  refine kputF X hV3 (ci := 10) inlX10 rfl tyX10 tyX10_ok nmX10 0 rfl 3 (by decide) mw_448 rfl hnm rfl rfl rfl (Nat.le_of_ble_eq_true rfl) dX10_init_22 (fun H locs hV4 => ?_)
  have hV4 : kV E A s.heap H locs [(a0, .inr (10, [.int p1, .ref a2, .ref a3, .ref a4]))] := hV4
  exact hret () _ _ _ _ trivial hV4 dX10_init_25
/-- the text that is written: its clauses, its rows -/
def f_X6_written (s_used : Int32) (s_code : Nat → Int32) (s_middles : Nat → Int32) (s_starts : Nat → Int32) (p1 : Int32) : Option (Option kTv) :=
  if 0 ≤ s_used.toInt ∧ s_used.toInt ≤ 120 ∧ 1 ≤ p1.toInt ∧ p1.toInt ≤ 12 then some (some (p1, (s_used.toNatClampNeg, s_code), ((p1 + 1).toNatClampNeg, s_starts), (p1.toNatClampNeg, s_middles))) else none
theorem kwr {s_used : Int32} {s_code s_middles s_starts : Nat → Int32} {p1 : Int32} {nt : Option kTv} (h : f_X6_written s_used s_code s_middles s_starts p1 = some nt) : nt = some (p1, (s_used.toNatClampNeg, s_code), ((p1 + 1).toNatClampNeg, s_starts), (p1.toNatClampNeg, s_middles)) ∧ (¬ s_used < 0) ∧ s_used.toNatClampNeg ≤ 120 ∧ (¬ p1 + 1 < 0) ∧ (p1 + 1).toNatClampNeg ≤ 13 ∧ (¬ p1 < 0) ∧ p1.toNatClampNeg ≤ 12 := by
  unfold f_X6_written at h
  by_cases c : 0 ≤ s_used.toInt ∧ s_used.toInt ≤ 120 ∧ 1 ≤ p1.toInt ∧ p1.toInt ≤ 12
  · rw [if_pos c] at h
    have z : (0 : Int32).toInt = 0 := by decide
    have o : (1 : Int32).toInt = 1 := by decide
    have e1 : (p1 + 1).toInt = p1.toInt + 1 := by rw [Int32.toInt_add, o]; exact Int.bmod_eq_of_le (by omega) (by omega)
    have n1 : s_used.toNatClampNeg = s_used.toInt.toNat := rfl
    have n2 : (p1 + 1).toNatClampNeg = (p1 + 1).toInt.toNat := rfl
    have n3 : p1.toNatClampNeg = p1.toInt.toNat := rfl
    refine ⟨(Option.some.inj h).symm, ?_, by omega, ?_, by omega, ?_, by omega⟩ <;> rw [Int32.lt_iff_toInt_lt] <;> omega
  · rw [if_neg c] at h
    exact nomatch h
abbrev r_X6_written : Room := { frames := 2, cells := 4, slots := 149, locals := 90 }
set_option maxHeartbeats 4000000 in
set_option maxRecDepth 100000 in
theorem c_X6_written (l : Launch) (E : kE) (sz : Nat) (a0 a1 a2 a3 : Nat) (w0_3 w0_4 w0_5 w0_7 : Value) (s_used : Int32) (s_code : Nat → Int32) (s_middles : Nat → Int32) (s_starts : Nat → Int32) (p1 : Int32) (nt : Option kTv) (h : f_X6_written s_used s_code s_middles s_starts p1 = some nt) : kMq l yX6_written cX6_written 2 (some (.object "ScruffPaper$Text")) r_X6_written [.ref a0, .int p1] E [(a0, .inr (6, [.ref a1, .ref a3, .ref a2, w0_3, w0_4, w0_5, .int s_used, w0_7])), (a1, .inl (E.2 0, 120, .inl s_code)), (a2, .inl (E.2 0, 12, .inl s_middles)), (a3, .inl (E.2 0, 13, .inl s_starts))] sz 4 149 (fun x (u : Option kTx) => x = u.map kta ∧ u.map (fun t => t.2) = nt) (fun u => [(a0, .inr (6, [.ref a1, .ref a3, .ref a2, w0_3, w0_4, w0_5, .int s_used, w0_7])), (a1, .inl (E.2 0, 120, .inl s_code)), (a2, .inl (E.2 0, 12, .inl s_middles)), (a3, .inl (E.2 0, 13, .inl s_starts))] ++ koc u (ktc E)) := by
  refine kmetq (Or.inl ⟨_, rfl⟩) rfl (Nat.le_of_ble_eq_true rfl) ?_
  intro p e s m args below meth c ls A Q X hV hret hl
  have X : kC p s m c cX6_written 2 RX6 args E A := X
  have hx := X.1
  have hb := X.2.1
  have hl : lv_has ls 2 [(0, .ref a0), (1, .int p1)] := hl
  obtain ⟨ent, z1, b1, z2, b2, z3, b3⟩ := kwr h
  clear h
  refine knew X hV (ci := 10) (fs := [.int 0, .null, .null, .null]) inlX10 rfl tyX10 tyX10_ok mw_423 mw_424 mw_425 (fun j hj => by rcases (show j = 0 ∨ j = 1 ∨ j = 2 ∨ j = 3 by omega) with rfl | rfl | rfl | rfl <;> rfl) (by decide) (by decide) dX6_written_0 (fun q H hV1 => ?_)
  have hV1 : kV E A s.heap H _ [(a0, .inr (6, [.ref a1, .ref a3, .ref a2, w0_3, w0_4, w0_5, .int s_used, w0_7])), (a1, .inl (E.2 0, 120, .inl s_code)), (a2, .inl (E.2 0, 12, .inl s_middles)), (a3, .inl (E.2 0, 13, .inl s_starts)), (q, .inr (10, [.int 0, .null, .null, .null]))] := hV1
  clear hV
  refine W.widen (k := 1) (n := 4) (by decide) (by decide) ?_
  refine lv_dup hx hb dX6_written_3 rfl ?_
  refine lv_iload_n hx hb dX6_written_4 rfl (lv_at hl 1 rfl) ?_
  refine lv_aload_n hx hb dX6_written_5 rfl (lv_at hl 0 rfl) ?_
  refine kget X hV1 (ci := 6) inlX6 rfl 0 rfl 0 (by decide) mw_57 rfl dX6_written_6 ?_
  refine lv_aload_n hx hb dX6_written_9 rfl (lv_at hl 0 rfl) ?_
  refine kget X hV1 (ci := 6) inlX6 rfl 0 rfl 6 (by decide) mw_63 rfl dX6_written_10 ?_
  refine kgoq (krunS (rest := [.int p1, .ref q, .ref q]) X hV1 [1] (c_J7_copyOf_59c91 l E _ a1 120 s_code s_used (s_used.toNatClampNeg) z1 rfl b1 (by decide)) mw_426 kb_J7_copyOf_59c91 (by decide) rfl rfl hl.1 rfl (Nat.le_of_ble_eq_true rfl) dX6_written_13 ⟨rfl, rfl, (by show 1 + 1 ≤ 2; omega), (by show 8 + (3 + 11) + 60 ≤ 90; omega), (by show 1 + 1 ≤ 4; omega), (by show 4 + (s_used.toNatClampNeg) ≤ 149; omega)⟩) X hV1 [1] [0, 2, 3, 4] rfl rfl rfl (by decide) (fun x0 c1 H locs hp0 hV2 => ?_)
  subst hp0
  have hV2 : kV E A s.heap H locs [(a0, .inr (6, [.ref a1, .ref a3, .ref a2, w0_3, w0_4, w0_5, .int s_used, w0_7])), (a1, .inl (E.2 0, 120, .inl s_code)), (a2, .inl (E.2 0, 12, .inl s_middles)), (a3, .inl (E.2 0, 13, .inl s_starts)), (q, .inr (10, [.int 0, .null, .null, .null])), (c1, .inl (E.2 0, (s_used.toNatClampNeg), .inl s_code))] := hV2.sub [0, 4, 1, 2, 3, 5] rfl rfl
  clear hV1
  refine W.eq (g2 := F0 m 16 ls [.ref c1, .int p1, .ref q, .ref q]) rfl ?_
  refine lv_aload_n hx hb dX6_written_16 rfl (lv_at hl 0 rfl) ?_
  refine kget X hV2 (ci := 6) inlX6 rfl 0 rfl 1 (by decide) mw_58 rfl dX6_written_17 ?_
  refine lv_iload_n hx hb dX6_written_20 rfl (lv_at hl 1 rfl) ?_
  refine lv_iconst (v := 1) hx hb dX6_written_21 (by decide) ?_
  refine lv_iadd hx hb dX6_written_22 ?_
  refine kgoq (krunS (rest := [.ref c1, .int p1, .ref q, .ref q]) X hV2 [3] (c_J7_copyOf_59c91 l E _ a3 13 s_starts (p1 + 1) ((p1 + 1).toNatClampNeg) z2 rfl b2 (by decide)) mw_426 kb_J7_copyOf_59c91 (by decide) rfl rfl hl.1 rfl (Nat.le_of_ble_eq_true rfl) dX6_written_23 ⟨rfl, rfl, (by show 1 + 1 ≤ 2; omega), (by show 8 + (3 + 11) + 60 ≤ 90; omega), (by show 2 + 1 ≤ 4; omega), (by show 4 + (s_used.toNatClampNeg) + ((p1 + 1).toNatClampNeg) ≤ 149; omega)⟩) X hV2 [3] [0, 1, 2, 4, 5] rfl rfl rfl (by decide) (fun x1 c2 H locs hp1 hV3 => ?_)
  subst hp1
  have hV3 : kV E A s.heap H locs [(a0, .inr (6, [.ref a1, .ref a3, .ref a2, w0_3, w0_4, w0_5, .int s_used, w0_7])), (a1, .inl (E.2 0, 120, .inl s_code)), (a2, .inl (E.2 0, 12, .inl s_middles)), (a3, .inl (E.2 0, 13, .inl s_starts)), (q, .inr (10, [.int 0, .null, .null, .null])), (c1, .inl (E.2 0, (s_used.toNatClampNeg), .inl s_code)), (c2, .inl (E.2 0, ((p1 + 1).toNatClampNeg), .inl s_starts))] := hV3.sub [0, 1, 2, 5, 3, 4, 6] rfl rfl
  clear hV2
  refine W.eq (g2 := F0 m 26 ls [.ref c2, .ref c1, .int p1, .ref q, .ref q]) rfl ?_
  refine lv_aload_n hx hb dX6_written_26 rfl (lv_at hl 0 rfl) ?_
  refine kget X hV3 (ci := 6) inlX6 rfl 0 rfl 2 (by decide) mw_59 rfl dX6_written_27 ?_
  refine lv_iload_n hx hb dX6_written_30 rfl (lv_at hl 1 rfl) ?_
  refine kgoq (krunS (rest := [.ref c2, .ref c1, .int p1, .ref q, .ref q]) X hV3 [2] (c_J7_copyOf_59c91 l E _ a2 12 s_middles p1 (p1.toNatClampNeg) z3 rfl b3 (by decide)) mw_426 kb_J7_copyOf_59c91 (by decide) rfl rfl hl.1 rfl (Nat.le_of_ble_eq_true rfl) dX6_written_31 ⟨rfl, rfl, (by show 1 + 1 ≤ 2; omega), (by show 8 + (3 + 11) + 60 ≤ 90; omega), (by show 3 + 1 ≤ 4; omega), (by show 4 + (s_used.toNatClampNeg) + ((p1 + 1).toNatClampNeg) + (p1.toNatClampNeg) ≤ 149; omega)⟩) X hV3 [2] [0, 1, 3, 4, 5, 6] rfl rfl rfl (by decide) (fun x2 c3 H locs hp2 hV4 => ?_)
  subst hp2
  have hV4 : kV E A s.heap H locs [(a0, .inr (6, [.ref a1, .ref a3, .ref a2, w0_3, w0_4, w0_5, .int s_used, w0_7])), (a1, .inl (E.2 0, 120, .inl s_code)), (a2, .inl (E.2 0, 12, .inl s_middles)), (a3, .inl (E.2 0, 13, .inl s_starts)), (q, .inr (10, [.int 0, .null, .null, .null])), (c1, .inl (E.2 0, (s_used.toNatClampNeg), .inl s_code)), (c2, .inl (E.2 0, ((p1 + 1).toNatClampNeg), .inl s_starts)), (c3, .inl (E.2 0, (p1.toNatClampNeg), .inl s_middles))] := hV4.sub [0, 1, 6, 2, 3, 4, 5, 7] rfl rfl
  clear hV3
  refine W.eq (g2 := F0 m 34 ls [.ref c3, .ref c2, .ref c1, .int p1, .ref q, .ref q]) rfl ?_
  refine kgov (krunI (rest := [.ref q]) X hV4 [4] (c_X10_init l E _ q p1 c1 c2 c3) mw_441 kb_X10_init (by decide) rfl rfl hl.1 rfl (Nat.le_of_ble_eq_true rfl) dX6_written_34 ⟨rfl, rfl, (by decide), (by decide), (by show 4 + 0 ≤ 4; omega), (by show 4 + (s_used.toNatClampNeg) + ((p1 + 1).toNatClampNeg) + (p1.toNatClampNeg) + 0 ≤ 149; omega)⟩) X hV4 [4] [0, 1, 2, 3, 5, 6, 7] rfl rfl rfl (by decide) (fun u H locs hp hV5 => ?_)
  have hV6 : kV E A s.heap H locs ([(a0, .inr (6, [.ref a1, .ref a3, .ref a2, w0_3, w0_4, w0_5, .int s_used, w0_7])), (a1, .inl (E.2 0, 120, .inl s_code)), (a2, .inl (E.2 0, 12, .inl s_middles)), (a3, .inl (E.2 0, 13, .inl s_starts))] ++ koc (some (((q, c1, c2, c3), p1, (s_used.toNatClampNeg, s_code), ((p1 + 1).toNatClampNeg, s_starts), (p1.toNatClampNeg, s_middles)) : kTx)) (ktc E)) := hV5.sub [0, 1, 2, 3, 7, 4, 5, 6] rfl rfl
  refine W.widen (k := 4) (n := 149) (by omega) (by omega) ?_
  exact hret (some q) (some ((q, c1, c2, c3), p1, (s_used.toNatClampNeg, s_code), ((p1 + 1).toNatClampNeg, s_starts), (p1.toNatClampNeg, s_middles))) _ _ _ _ ⟨rfl, ent.symm⟩ hV6 dX6_written_37
