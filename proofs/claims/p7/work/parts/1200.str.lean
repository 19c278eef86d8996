/-- the constant's bytes; a call on the constant -/
def kLf : Nat → Int32 := fun j => kLet.getD j 0
theorem krunVs {p : Program} {l : Launch} {e : Env} {R : Room} {s : State} {m : MethodId} {args : Array Value} {below : List Frame} {meth : Method} {c : Code} {H : Heap} {locs : List Loc} {cells slots : Nat} {E : kE} {A : Nat → Prop} {cc : ByteArray} {nL pc : Nat} {own : String} {ls : Array Slot} {rest : List Value} {ws : va_W} {y : MethodName} {bytes : ByteArray} {maxL mc ms index n : Nat} {ret : Option FieldType} {rm : Room} {Qc : Array Value → State → Outcome → State → Prop} {As : List Value} {st0 : List Value}
    (X : kC p s m c cc nL own args E A) (hV : kV E A s.heap H locs ws) (hM : Met l y (kW y bytes maxL ret) rm (va_Pc (.ref (E.2 5) :: As) (kP E [] H.size)) Qc mc ms (va_A [] H.size)) (hl : Cond.methodLink own index y ∈ wsL_law) (hu : kBu y bytes maxL ret n) (hy : y.cls = "java/lang/String")
    (hn : As.length = n) (hls : ls.size = nL) (hst : st0 = As.reverse ++ .ref (E.2 5) :: rest) (hrest : (rest.map fun v => v.category).sum ≤ 8) (hdg : decode cc pc = .ok (.invokevirtual index, 3)) (hR : kRm rm R mc ms maxL cells slots) :
    va_Run p l e R s m args below meth c H locs cells slots mc ms (F0 m pc ls st0) rest (Qc (Value.ref (E.2 5) :: As).toArray) (va_A [] H.size) :=
  va_runV (C := y.cls) ⟨X.1, X.2.1, X.2.2.1, X.2.2.2.1, X.2.2.2.2.1⟩ hM ⟨callB_of n X.2.2.2.2.1 (kgoodc hu.2.2.2.1) rfl hR.1 hR.2.1 (X.2.2.2.2.1 _ hu.2.2.1) (X.2.2.2.2.1 _ hl) hu.2.2.2.2 ⟨hR.2.2.1, hR.2.2.2.1⟩, X.2.2.2.2.1 _ hu.1, X.2.2.2.2.1 _ hu.2.1⟩
    ⟨kblind, by rw [hy]; exact vk_recv X.2.2.2.2.2.2.2.1 (i := 0) (by decide) hV.2.2, kpre X hV [] rfl rfl _⟩ rfl hn hls hst (lv_room hrest) hdg hR.2.2.2.2
noncomputable def f_J0_isLatin1_aae02  : Option (Int32) :=
    some (1)
abbrev r_J0_isLatin1_aae02 : Room := { frames := 0, cells := 0, slots := 0, locals := 0 }
set_option maxHeartbeats 4000000 in
set_option maxRecDepth 100000 in
theorem c_J0_isLatin1_aae02 (l : Launch) (E : kE) (sz : Nat) (r : Int32) (h : f_J0_isLatin1_aae02  = some (r)) : kMi l yJ0_isLatin1_aae02 cJ0_isLatin1_aae02 1 (some .boolean) r_J0_isLatin1_aae02 [.ref (E.2 5)] E [] sz 0 0 (fun x (_ : Unit) => x = r) (fun _ => []) := by
  refine kmeti rfl (Nat.le_of_ble_eq_true rfl) ?_
  intro p e s m args below meth c ls A Q X hV hret hl
  have X : kC p s m c cJ0_isLatin1_aae02 1 RJ0 args E A := X
  have hx := X.1
  have hb := X.2.1
  have hl : lv_has ls 1 [(0, .ref (E.2 5))] := hl
  rw [f_J0_isLatin1_aae02] at h
  refine va_gets hx hb X.2.2.2.2.2.2.2.2 hV.2.2 X.2.2.2.1 (X.2.2.2.2.1 _ mw_339) (fun _ h => h) dJ0_isLatin1_aae02_0 ?_
  refine lv_if_eq (tgt := 17) hx hb dJ0_isLatin1_aae02_3 (by decide) (fun c1 => by exact absurd c1 (by decide)) (fun c1 => ?_)
  clear c1
  refine lv_aload_n hx hb dJ0_isLatin1_aae02_6 rfl (lv_at hl 0 rfl) ?_
  refine vk_getf hx hb (X.2.2.2.2.2.2.2.1.1 0 (by decide)).2.1 hV.2.2 X.2.2.2.1 (X.2.2.2.2.1 _ mw_340) (fun _ h => h) dJ0_isLatin1_aae02_7 ?_
  refine lv_if_ne (tgt := 17) hx hb dJ0_isLatin1_aae02_10 (by decide) (fun c2 => by exact absurd c2 (by decide)) (fun c2 => ?_)
  clear c2
  refine lv_iconst (v := 1) hx hb dJ0_isLatin1_aae02_13 (by decide) ?_
  refine lv_goto (tgt := 18) hx hb dJ0_isLatin1_aae02_14 (by decide) ?_
  have q3 := tup1_s h
  clear h
  exact hret _ () _ _ _ _ q3 rfl hV dJ0_isLatin1_aae02_18
noncomputable def f_J0_coder_7d493  : Option (Int32) :=
    some (0)
abbrev r_J0_coder_7d493 : Room := { frames := 0, cells := 0, slots := 0, locals := 0 }
set_option maxHeartbeats 4000000 in
set_option maxRecDepth 100000 in
theorem c_J0_coder_7d493 (l : Launch) (E : kE) (sz : Nat) (r : Int32) (h : f_J0_coder_7d493  = some (r)) : kMi l yJ0_coder_7d493 cJ0_coder_7d493 1 (some .byte) r_J0_coder_7d493 [.ref (E.2 5)] E [] sz 0 0 (fun x (_ : Unit) => x = r) (fun _ => []) := by
  refine kmeti rfl (Nat.le_of_ble_eq_true rfl) ?_
  intro p e s m args below meth c ls A Q X hV hret hl
  have X : kC p s m c cJ0_coder_7d493 1 RJ0 args E A := X
  have hx := X.1
  have hb := X.2.1
  have hl : lv_has ls 1 [(0, .ref (E.2 5))] := hl
  rw [f_J0_coder_7d493] at h
  refine va_gets hx hb X.2.2.2.2.2.2.2.2 hV.2.2 X.2.2.2.1 (X.2.2.2.2.1 _ mw_339) (fun _ h => h) dJ0_coder_7d493_0 ?_
  refine lv_if_eq (tgt := 13) hx hb dJ0_coder_7d493_3 (by decide) (fun c1 => by exact absurd c1 (by decide)) (fun c1 => ?_)
  clear c1
  refine lv_aload_n hx hb dJ0_coder_7d493_6 rfl (lv_at hl 0 rfl) ?_
  refine vk_getf hx hb (X.2.2.2.2.2.2.2.1.1 0 (by decide)).2.1 hV.2.2 X.2.2.2.1 (X.2.2.2.2.1 _ mw_340) (fun _ h => h) dJ0_coder_7d493_7 ?_
  refine lv_goto (tgt := 14) hx hb dJ0_coder_7d493_10 (by decide) ?_
  have q2 := tup1_s h
  clear h
  exact hret _ () _ _ _ _ q2 rfl hV dJ0_coder_7d493_14
noncomputable def f_J0_length_8abf5  : Option (Int32) :=
    cb1 (f_J0_coder_7d493 ) fun r6_1 =>
    some ((jshr 13 r6_1))
abbrev r_J0_length_8abf5 : Room := { frames := 1, cells := 0, slots := 0, locals := 20 }
set_option maxHeartbeats 4000000 in
set_option maxRecDepth 100000 in
theorem c_J0_length_8abf5 (l : Launch) (E : kE) (sz : Nat) (r : Int32) (h : f_J0_length_8abf5  = some (r)) : kMi l yJ0_length_8abf5 cJ0_length_8abf5 1 (some .int) r_J0_length_8abf5 [.ref (E.2 5)] E [] sz 0 0 (fun x (_ : Unit) => x = r) (fun _ => []) := by
  refine kmeti rfl (Nat.le_of_ble_eq_true rfl) ?_
  intro p e s m args below meth c ls A Q X hV hret hl
  have X : kC p s m c cJ0_length_8abf5 1 RJ0 args E A := X
  have hx := X.1
  have hb := X.2.1
  have hl : lv_has ls 1 [(0, .ref (E.2 5))] := hl
  rw [f_J0_length_8abf5] at h
  refine lv_aload_n hx hb dJ0_length_8abf5_0 rfl (lv_at hl 0 rfl) ?_
  refine vk_getf hx hb (X.2.2.2.2.2.2.2.1.1 0 (by decide)).2.2.1 hV.2.2 X.2.2.2.1 (X.2.2.2.2.1 _ mw_334) (fun _ h => h) dJ0_length_8abf5_1 ?_
  refine va_tlen hx hb (X.2.2.2.2.2.2.2.1.1 0 (by decide)).2.2.2 hV.2.2 (v := 13) rfl dJ0_length_8abf5_4 ?_
  refine lv_aload_n hx hb dJ0_length_8abf5_5 rfl (lv_at hl 0 rfl) ?_
  obtain ⟨r6_1, hc2, h3⟩ := cb1_s h
  clear h
  refine kgoiE (krunVs (rest := [.int 13]) X hV (c_J0_coder_7d493 l E _ r6_1 hc2) mw_345 kb_J0_coder_7d493 rfl rfl hl.1 rfl (Nat.le_of_ble_eq_true rfl) dJ0_length_8abf5_6 (by decide)) X hV [] [] rfl rfl rfl (by decide) (fun u H locs hV4 => ?_)
  have hV4 : kV E A s.heap H locs [] := hV4.sub [] rfl rfl
  clear hV
  refine lv_ishr hx hb dJ0_length_8abf5_9 ?_
  have q6 := tup1_s h3
  clear h3
  exact hret _ () _ _ _ _ q6 rfl hV4 dJ0_length_8abf5_10
noncomputable def f_J1_canEncode_9a6ad (p1 : Int32) : Option (Int32) :=
    if p1 < 0 then
    (some (0))
    else
    (if 255 < p1 then
      (some (0))
      else
      (some (1)))
abbrev r_J1_canEncode_9a6ad : Room := { frames := 0, cells := 0, slots := 0, locals := 0 }
set_option maxHeartbeats 4000000 in
set_option maxRecDepth 100000 in
theorem c_J1_canEncode_9a6ad (l : Launch) (E : kE) (sz : Nat) (p1 : Int32) (r : Int32) (h : f_J1_canEncode_9a6ad p1 = some (r)) : kMi l yJ1_canEncode_9a6ad cJ1_canEncode_9a6ad 1 (some .boolean) r_J1_canEncode_9a6ad [.int p1] E [] sz 0 0 (fun x (_ : Unit) => x = r) (fun _ => []) := by
  refine kmeti rfl (Nat.le_of_ble_eq_true rfl) ?_
  intro p e s m args below meth c ls A Q X hV hret hl
  have X : kC p s m c cJ1_canEncode_9a6ad 1 RJ1 args E A := X
  have hx := X.1
  have hb := X.2.1
  have hl : lv_has ls 1 [(0, .int p1)] := hl
  rw [f_J1_canEncode_9a6ad] at h
  refine lv_iload_n hx hb dJ1_canEncode_9a6ad_0 rfl (lv_at hl 0 rfl) ?_
  refine lv_if_lt (tgt := 15) hx hb dJ1_canEncode_9a6ad_1 (by decide) (fun c1 => ?_) (fun c1 => ?_)
  · have h2 := itS c1 h
    clear h c1
    refine lv_iconst (v := 0) hx hb dJ1_canEncode_9a6ad_15 (by decide) ?_
    have q4 := tup1_s h2
    clear h2
    exact hret _ () _ _ _ _ q4 rfl hV dJ1_canEncode_9a6ad_16
  · have h3 := ieS c1 h
    clear h c1
    refine lv_iload_n hx hb dJ1_canEncode_9a6ad_4 rfl (lv_at hl 0 rfl) ?_
    refine lv_sipush (v := 255) hx hb dJ1_canEncode_9a6ad_5 (by decide) ?_
    refine lv_icmp_gt (tgt := 15) hx hb dJ1_canEncode_9a6ad_8 (by decide) (fun c5 => ?_) (fun c5 => ?_)
    · have h6 := itS c5 h3
      clear h3 c5
      refine lv_iconst (v := 0) hx hb dJ1_canEncode_9a6ad_15 (by decide) ?_
      have q8 := tup1_s h6
      clear h6
      exact hret _ () _ _ _ _ q8 rfl hV dJ1_canEncode_9a6ad_16
    · have h7 := ieS c5 h3
      clear h3 c5
      refine lv_iconst (v := 1) hx hb dJ1_canEncode_9a6ad_11 (by decide) ?_
      refine lv_goto (tgt := 16) hx hb dJ1_canEncode_9a6ad_12 (by decide) ?_
      have q9 := tup1_s h7
      clear h7
      exact hret _ () _ _ _ _ q9 rfl hV dJ1_canEncode_9a6ad_16
noncomputable def f_J1_indexOfChar_4cfef_L7 (p4 : Int32) (v2_1 : Int32)  : Nat → Int32 → Option (Int32)
  | 0, _ => none
  | n7 + 1, x5_6 =>
    if p4 ≤ x5_6 then
    (some ((-1)))
    else
    (rdI kLf 13 x5_6 fun v16_11 =>
      if v16_11 = v2_1 then
      (some (x5_6))
      else
      (nmI (x5_6 + 1) fun v25_18 =>
        (f_J1_indexOfChar_4cfef_L7 p4 v2_1  n7) v25_18))
noncomputable def f_J1_indexOfChar_4cfef (p2 : Int32) (p3 : Int32) (p4 : Int32) : Option (Int32) :=
    nmI (ji2b p2) fun v2_1 =>
    (f_J1_indexOfChar_4cfef_L7 p4 v2_1  FU) p3
abbrev r_J1_indexOfChar_4cfef : Room := { frames := 0, cells := 0, slots := 0, locals := 0 }
set_option maxHeartbeats 4000000 in
set_option maxRecDepth 100000 in
theorem c_J1_indexOfChar_4cfef (l : Launch) (E : kE) (sz : Nat) (p2 : Int32) (p3 : Int32) (p4 : Int32) (r : Int32) (h : f_J1_indexOfChar_4cfef p2 p3 p4 = some (r)) : kMi l yJ1_indexOfChar_4cfef cJ1_indexOfChar_4cfef 6 (some .int) r_J1_indexOfChar_4cfef [.ref (E.2 6), .int p2, .int p3, .int p4] E [] sz 0 0 (fun x (_ : Unit) => x = r) (fun _ => []) := by
  refine kmeti rfl (Nat.le_of_ble_eq_true rfl) ?_
  intro p e s m args below meth c ls A Q X hV hret hl
  have X : kC p s m c cJ1_indexOfChar_4cfef 6 RJ1 args E A := X
  have hx := X.1
  have hb := X.2.1
  have hl : lv_has ls 6 [(0, .ref (E.2 6)), (1, .int p2), (2, .int p3), (3, .int p4)] := hl
  rw [f_J1_indexOfChar_4cfef] at h
  refine lv_iload_n hx hb dJ1_indexOfChar_4cfef_0 rfl (lv_at hl 1 rfl) ?_
  refine lv_i2b (v := ji2b p2) hx hb dJ1_indexOfChar_4cfef_1 rfl ?_
  obtain ⟨v2_1, e2, h3⟩ := nmI_s h
  clear h
  refine ktopi e2 ?_
  clear e2
  refine lv_istore (lv' := [(4, .int v2_1), (0, .ref (E.2 6)), (1, .int p2), (2, .int p3), (3, .int p4)]) hx hb dJ1_indexOfChar_4cfef_2 hl (by decide) rfl (fun ls hl4 => ?_)
  clear hl
  refine lv_iload_n hx hb dJ1_indexOfChar_4cfef_4 rfl (lv_at hl4 3 rfl) ?_
  refine lv_istore (lv' := [(5, .int p3), (4, .int v2_1), (0, .ref (E.2 6)), (1, .int p2), (2, .int p3), (3, .int p4)]) hx hb dJ1_indexOfChar_4cfef_5 hl4 (by decide) rfl (fun ls hl5 => ?_)
  clear hl4
  have L7 : ∀ (n7 : Nat) (x5_6 : Int32) (H : Heap) (locs : List Loc) (ls : Array Slot), (f_J1_indexOfChar_4cfef_L7 p4 v2_1  n7) x5_6 = some (r) → kV E A s.heap H locs [] → lv_has ls 6 [(0, .ref (E.2 6)), (3, .int p4), (4, .int v2_1), (5, .int x5_6)] → W p l e r_J1_indexOfChar_4cfef s m args below meth c H locs 0 0 Q (F0 m 7 ls []) := by
    intro n7
    induction n7 with
    | zero =>
      intro x5_6 H locs ls hB7 hVB7 hlB7
      rw [f_J1_indexOfChar_4cfef_L7] at hB7
      exact nomatch hB7
    | succ n7 ih7 =>
      intro x5_6 H locs ls hB7 hVB7 hlB7
      rw [f_J1_indexOfChar_4cfef_L7] at hB7
      refine lv_iload hx hb dJ1_indexOfChar_4cfef_7 (lv_at hlB7 3 rfl) ?_
      refine lv_iload_n hx hb dJ1_indexOfChar_4cfef_9 rfl (lv_at hlB7 1 rfl) ?_
      refine lv_icmp_ge (tgt := 31) hx hb dJ1_indexOfChar_4cfef_10 (by decide) (fun c7 => ?_) (fun c7 => ?_)
      · have h8 := itS c7 hB7
        clear hB7 c7
        refine lv_iconst (v := (-1)) hx hb dJ1_indexOfChar_4cfef_31 (by decide) ?_
        have q10 := tup1_s h8
        clear h8
        exact hret _ () _ _ _ _ q10 rfl hVB7 dJ1_indexOfChar_4cfef_32
      · have h9 := ieS c7 hB7
        clear hB7 c7
        refine lv_aload_n hx hb dJ1_indexOfChar_4cfef_13 rfl (lv_at hlB7 0 rfl) ?_
        refine lv_iload hx hb dJ1_indexOfChar_4cfef_14 (lv_at hlB7 3 rfl) ?_
        obtain ⟨hi12, v16_11, e13, h14⟩ := rdI_s h9
        clear h9
        refine va_tb hx hb (X.2.2.2.2.2.2.2.1.1 0 (by decide)).2.2.2 hVB7.2.2 hi12 (v := .int v16_11) (by rw [e13]; rfl) dJ1_indexOfChar_4cfef_16 ?_
        clear hi12 e13
        refine lv_iload hx hb dJ1_indexOfChar_4cfef_17 (lv_at hlB7 2 rfl) ?_
        refine lv_icmp_ne (tgt := 25) hx hb dJ1_indexOfChar_4cfef_19 (by decide) (fun c15 => ?_) (fun c15 => ?_)
        · have h16 := ieS c15 h14
          clear h14 c15
          obtain ⟨v25_18, e19, h20⟩ := nmI_s h16
          clear h16
          refine lv_iinc (v := v25_18) (lv' := [(5, .int v25_18), (0, .ref (E.2 6)), (3, .int p4), (4, .int v2_1)]) hx hb dJ1_indexOfChar_4cfef_25 hlB7 (k := 3) rfl (by rw [e19]; rfl) (by decide) rfl (fun ls hl21 => ?_)
          clear hlB7 e19
          refine lv_goto (tgt := 7) hx hb dJ1_indexOfChar_4cfef_28 (by decide) ?_
          exact ih7 v25_18 _ _ _ h20 hVB7 (lv_sub hl21 [1, 2, 3, 0] rfl)
        · have h17 := itS c15 h14
          clear h14 c15
          refine lv_iload hx hb dJ1_indexOfChar_4cfef_22 (lv_at hlB7 3 rfl) ?_
          have q22 := tup1_s h17
          clear h17
          exact hret _ () _ _ _ _ q22 rfl hVB7 dJ1_indexOfChar_4cfef_24
  exact L7 FU p3 _ _ _ h3 hV (lv_sub hl5 [2, 5, 1, 0] rfl)
noncomputable def f_J1_indexOf_4cfef (p2 : Int32) (p3 : Int32) (p4 : Int32) : Option (Int32) :=
    cb1 (f_J1_canEncode_9a6ad p2) fun r1_1 =>
    if r1_1 = 0 then
    (some ((-1)))
    else
    (nmI (jmax p3 0) fun v14_9 =>
      nmI (jmin p4 13) fun v21_13 =>
      if v14_9 < v21_13 then
      (cb1 (f_J1_indexOfChar_4cfef p2 v14_9 v21_13) fun r33_20 =>
        some (r33_20))
      else
      (some ((-1))))
abbrev r_J1_indexOf_4cfef : Room := { frames := 1, cells := 0, slots := 0, locals := 25 }
set_option maxHeartbeats 4000000 in
set_option maxRecDepth 100000 in
theorem c_J1_indexOf_4cfef (l : Launch) (E : kE) (sz : Nat) (p2 : Int32) (p3 : Int32) (p4 : Int32) (r : Int32) (h : f_J1_indexOf_4cfef p2 p3 p4 = some (r)) : kMi l yJ1_indexOf_4cfef cJ1_indexOf_4cfef 4 (some .int) r_J1_indexOf_4cfef [.ref (E.2 6), .int p2, .int p3, .int p4] E [] sz 0 0 (fun x (_ : Unit) => x = r) (fun _ => []) := by
  refine kmeti rfl (Nat.le_of_ble_eq_true rfl) ?_
  intro p e s m args below meth c ls A Q X hV hret hl
  have X : kC p s m c cJ1_indexOf_4cfef 4 RJ1 args E A := X
  have hx := X.1
  have hb := X.2.1
  have hl : lv_has ls 4 [(0, .ref (E.2 6)), (1, .int p2), (2, .int p3), (3, .int p4)] := hl
  rw [f_J1_indexOf_4cfef] at h
  refine lv_iload_n hx hb dJ1_indexOf_4cfef_0 rfl (lv_at hl 1 rfl) ?_
  obtain ⟨r1_1, hc2, h3⟩ := cb1_s h
  clear h
  refine kgoiE (krunS (rest := []) X hV [] (c_J1_canEncode_9a6ad l E _ p2 r1_1 hc2) mw_357 kb_J1_canEncode_9a6ad (by decide) rfl rfl hl.1 rfl (Nat.le_of_ble_eq_true rfl) dJ1_indexOf_4cfef_1 (by decide)) X hV [] [] rfl rfl rfl (by decide) (fun u H locs hV4 => ?_)
  have hV4 : kV E A s.heap H locs [] := hV4.sub [] rfl rfl
  clear hV
  refine lv_if_ne (tgt := 9) hx hb dJ1_indexOf_4cfef_4 (by decide) (fun c6 => ?_) (fun c6 => ?_)
  · have h7 := ieS c6 h3
    clear h3 c6
    refine lv_iload_n hx hb dJ1_indexOf_4cfef_9 rfl (lv_at hl 2 rfl) ?_
    refine lv_iconst (v := 0) hx hb dJ1_indexOf_4cfef_10 (by decide) ?_
    refine va_mmax hx hb (X.2.2.1.trans hl.1.symm) X.2.2.2.1 (X.2.2.2.2.1 _ mw_353) (X.2.2.2.2.1 _ mw_354) (X.2.2.2.2.1 _ mw_281) (X.2.2.2.2.1 _ mw_355) (by decide) (Nat.le_of_ble_eq_true rfl) (by decide) (by decide) dJ1_indexOf_4cfef_11 ?_
    obtain ⟨v14_9, e10, h11⟩ := nmI_s h7
    clear h7
    refine ktopi e10 ?_
    clear e10
    refine lv_istore_n (lv' := [(2, .int v14_9), (0, .ref (E.2 6)), (1, .int p2), (3, .int p4)]) hx hb dJ1_indexOf_4cfef_14 rfl hl (by decide) rfl (fun ls hl12 => ?_)
    clear hl
    refine lv_iload_n hx hb dJ1_indexOf_4cfef_15 rfl (lv_at hl12 3 rfl) ?_
    refine lv_aload_n hx hb dJ1_indexOf_4cfef_16 rfl (lv_at hl12 1 rfl) ?_
    refine va_tlen hx hb (X.2.2.2.2.2.2.2.1.1 0 (by decide)).2.2.2 hV4.2.2 (v := 13) rfl dJ1_indexOf_4cfef_17 ?_
    refine va_mmin hx hb (X.2.2.1.trans hl12.1.symm) X.2.2.2.1 (X.2.2.2.2.1 _ mw_356) (X.2.2.2.2.1 _ mw_280) (X.2.2.2.2.1 _ mw_281) (X.2.2.2.2.1 _ mw_282) (by decide) (Nat.le_of_ble_eq_true rfl) (by decide) (by decide) dJ1_indexOf_4cfef_18 ?_
    obtain ⟨v21_13, e14, h15⟩ := nmI_s h11
    clear h11
    refine ktopi e14 ?_
    clear e14
    refine lv_istore_n (lv' := [(3, .int v21_13), (2, .int v14_9), (0, .ref (E.2 6)), (1, .int p2)]) hx hb dJ1_indexOf_4cfef_21 rfl hl12 (by decide) rfl (fun ls hl16 => ?_)
    clear hl12
    refine lv_iload_n hx hb dJ1_indexOf_4cfef_22 rfl (lv_at hl16 1 rfl) ?_
    refine lv_iload_n hx hb dJ1_indexOf_4cfef_23 rfl (lv_at hl16 0 rfl) ?_
    refine lv_icmp_lt (tgt := 29) hx hb dJ1_indexOf_4cfef_24 (by decide) (fun c17 => ?_) (fun c17 => ?_)
    · have h18 := itS c17 h15
      clear h15 c17
      refine lv_aload_n hx hb dJ1_indexOf_4cfef_29 rfl (lv_at hl16 2 rfl) ?_
      refine lv_iload_n hx hb dJ1_indexOf_4cfef_30 rfl (lv_at hl16 3 rfl) ?_
      refine lv_iload_n hx hb dJ1_indexOf_4cfef_31 rfl (lv_at hl16 1 rfl) ?_
      refine lv_iload_n hx hb dJ1_indexOf_4cfef_32 rfl (lv_at hl16 0 rfl) ?_
      obtain ⟨r33_20, hc21, h22⟩ := cb1_s h18
      clear h18
      refine kgoiE (krunS (rest := []) X hV4 [] (c_J1_indexOfChar_4cfef l E _ p2 v14_9 v21_13 r33_20 hc21) mw_360 kb_J1_indexOfChar_4cfef (by decide) rfl rfl hl16.1 rfl (Nat.le_of_ble_eq_true rfl) dJ1_indexOf_4cfef_33 (by decide)) X hV4 [] [] rfl rfl rfl (by decide) (fun u H locs hV23 => ?_)
      have hV23 : kV E A s.heap H locs [] := hV23.sub [] rfl rfl
      clear hV4
      have q25 := tup1_s h22
      clear h22
      exact hret _ () _ _ _ _ q25 rfl hV23 dJ1_indexOf_4cfef_36
    · have h19 := ieS c17 h15
      clear h15 c17
      refine lv_iconst (v := (-1)) hx hb dJ1_indexOf_4cfef_27 (by decide) ?_
      have q26 := tup1_s h19
      clear h19
      exact hret _ () _ _ _ _ q26 rfl hV4 dJ1_indexOf_4cfef_28
  · have h8 := itS c6 h3
    clear h3 c6
    refine lv_iconst (v := (-1)) hx hb dJ1_indexOf_4cfef_7 (by decide) ?_
    have q27 := tup1_s h8
    clear h8
    exact hret _ () _ _ _ _ q27 rfl hV4 dJ1_indexOf_4cfef_8
noncomputable def f_J0_indexOf_7cf53 (p1 : Int32) (p2 : Int32) : Option (Int32) :=
    cb1 (f_J0_isLatin1_aae02 ) fun r1_1 =>
    if r1_1 = 0 then
    (none)
    else
    (cb1 (f_J0_length_8abf5 ) fun r14_9 =>
      cb1 (f_J1_indexOf_4cfef p1 p2 r14_9) fun r17_14 =>
      some (r17_14))
abbrev r_J0_indexOf_7cf53 : Room := { frames := 2, cells := 0, slots := 0, locals := 48 }
set_option maxHeartbeats 4000000 in
set_option maxRecDepth 100000 in
theorem c_J0_indexOf_7cf53 (l : Launch) (E : kE) (sz : Nat) (p1 : Int32) (p2 : Int32) (r : Int32) (h : f_J0_indexOf_7cf53 p1 p2 = some (r)) : kMi l yJ0_indexOf_7cf53 cJ0_indexOf_7cf53 3 (some .int) r_J0_indexOf_7cf53 [.ref (E.2 5), .int p1, .int p2] E [] sz 0 0 (fun x (_ : Unit) => x = r) (fun _ => []) := by
  refine kmeti rfl (Nat.le_of_ble_eq_true rfl) ?_
  intro p e s m args below meth c ls A Q X hV hret hl
  have X : kC p s m c cJ0_indexOf_7cf53 3 RJ0 args E A := X
  have hx := X.1
  have hb := X.2.1
  have hl : lv_has ls 3 [(0, .ref (E.2 5)), (1, .int p1), (2, .int p2)] := hl
  rw [f_J0_indexOf_7cf53] at h
  refine lv_aload_n hx hb dJ0_indexOf_7cf53_0 rfl (lv_at hl 0 rfl) ?_
  obtain ⟨r1_1, hc2, h3⟩ := cb1_s h
  clear h
  refine kgoiE (krunVs (rest := []) X hV (c_J0_isLatin1_aae02 l E _ r1_1 hc2) mw_335 kb_J0_isLatin1_aae02 rfl rfl hl.1 rfl (Nat.le_of_ble_eq_true rfl) dJ0_indexOf_7cf53_1 (by decide)) X hV [] [] rfl rfl rfl (by decide) (fun u H locs hV4 => ?_)
  have hV4 : kV E A s.heap H locs [] := hV4.sub [] rfl rfl
  clear hV
  refine lv_if_eq (tgt := 23) hx hb dJ0_indexOf_7cf53_4 (by decide) (fun c6 => ?_) (fun c6 => ?_)
  · have h7 := itS c6 h3
    clear h3 c6
    exact nomatch h7
  · have h8 := ieS c6 h3
    clear h3 c6
    refine lv_aload_n hx hb dJ0_indexOf_7cf53_7 rfl (lv_at hl 0 rfl) ?_
    refine vk_getf hx hb (X.2.2.2.2.2.2.2.1.1 0 (by decide)).2.2.1 hV4.2.2 X.2.2.2.1 (X.2.2.2.2.1 _ mw_334) (fun _ h => h) dJ0_indexOf_7cf53_8 ?_
    refine lv_iload_n hx hb dJ0_indexOf_7cf53_11 rfl (lv_at hl 1 rfl) ?_
    refine lv_iload_n hx hb dJ0_indexOf_7cf53_12 rfl (lv_at hl 2 rfl) ?_
    refine lv_aload_n hx hb dJ0_indexOf_7cf53_13 rfl (lv_at hl 0 rfl) ?_
    obtain ⟨r14_9, hc10, h11⟩ := cb1_s h8
    clear h8
    refine kgoiE (krunVs (rest := [.int p2, .int p1, .ref (E.2 6)]) X hV4 (c_J0_length_8abf5 l E _ r14_9 hc10) mw_341 kb_J0_length_8abf5 rfl rfl hl.1 rfl (Nat.le_of_ble_eq_true rfl) dJ0_indexOf_7cf53_14 (by decide)) X hV4 [] [] rfl rfl rfl (by decide) (fun u H locs hV12 => ?_)
    have hV12 : kV E A s.heap H locs [] := hV12.sub [] rfl rfl
    clear hV4
    obtain ⟨r17_14, hc15, h16⟩ := cb1_s h11
    clear h11
    refine kgoiE (krunS (rest := []) X hV12 [] (c_J1_indexOf_4cfef l E _ p1 p2 r14_9 r17_14 hc15) mw_349 kb_J1_indexOf_4cfef (by decide) rfl rfl hl.1 rfl (Nat.le_of_ble_eq_true rfl) dJ0_indexOf_7cf53_17 (by decide)) X hV12 [] [] rfl rfl rfl (by decide) (fun u H locs hV17 => ?_)
    have hV17 : kV E A s.heap H locs [] := hV17.sub [] rfl rfl
    clear hV12
    refine lv_goto (tgt := 36) hx hb dJ0_indexOf_7cf53_20 (by decide) ?_
    have q19 := tup1_s h16
    clear h16
    exact hret _ () _ _ _ _ q19 rfl hV17 dJ0_indexOf_7cf53_36
noncomputable def f_J0_indexOf_0f7a4 (p1 : Int32) : Option (Int32) :=
    cb1 (f_J0_indexOf_7cf53 p1 0) fun r3_1 =>
    some (r3_1)
abbrev r_J0_indexOf_0f7a4 : Room := { frames := 3, cells := 0, slots := 0, locals := 70 }
set_option maxHeartbeats 4000000 in
set_option maxRecDepth 100000 in
theorem c_J0_indexOf_0f7a4 (l : Launch) (E : kE) (sz : Nat) (p1 : Int32) (r : Int32) (h : f_J0_indexOf_0f7a4 p1 = some (r)) : kMi l yJ0_indexOf_0f7a4 cJ0_indexOf_0f7a4 2 (some .int) r_J0_indexOf_0f7a4 [.ref (E.2 5), .int p1] E [] sz 0 0 (fun x (_ : Unit) => x = r) (fun _ => []) := by
  refine kmeti rfl (Nat.le_of_ble_eq_true rfl) ?_
  intro p e s m args below meth c ls A Q X hV hret hl
  have X : kC p s m c cJ0_indexOf_0f7a4 2 RJ0 args E A := X
  have hx := X.1
  have hb := X.2.1
  have hl : lv_has ls 2 [(0, .ref (E.2 5)), (1, .int p1)] := hl
  rw [f_J0_indexOf_0f7a4] at h
  refine lv_aload_n hx hb dJ0_indexOf_0f7a4_0 rfl (lv_at hl 0 rfl) ?_
  refine lv_iload_n hx hb dJ0_indexOf_0f7a4_1 rfl (lv_at hl 1 rfl) ?_
  refine lv_iconst (v := 0) hx hb dJ0_indexOf_0f7a4_2 (by decide) ?_
  obtain ⟨r3_1, hc2, h3⟩ := cb1_s h
  clear h
  refine kgoiE (krunVs (rest := []) X hV (c_J0_indexOf_7cf53 l E _ p1 0 r3_1 hc2) mw_330 kb_J0_indexOf_7cf53 rfl rfl hl.1 rfl (Nat.le_of_ble_eq_true rfl) dJ0_indexOf_0f7a4_3 (by decide)) X hV [] [] rfl rfl rfl (by decide) (fun u H locs hV4 => ?_)
  have hV4 : kV E A s.heap H locs [] := hV4.sub [] rfl rfl
  clear hV
  have q6 := tup1_s h3
  clear h3
  exact hret _ () _ _ _ _ q6 rfl hV4 dJ0_indexOf_0f7a4_6
