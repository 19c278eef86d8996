set_option maxHeartbeats 4000000 in
set_option maxRecDepth 100000 in
theorem lc_8 {p : Program} {l : Launch} {e : Env} {s : State} {m : MethodId} {below : List Frame} {meth : Method} {c : Code} {E : kE} {A : Nat → Prop} {b L : Nat} {xs : Nat → Int32} {Q : State → Prop} {H : Heap} {locs : List Loc} {ls : Array Slot} {ad : Nat → Nat} {σ : Nat → Nat → Int32} {G : kG} {bv : Value} {v y1 y2 y3 y4 y5 : Int32} {cells slots : Nat} (X : kC p s m c code 4 RL #[Value.ref b] E A) (hX : va_X b L xs s s.heap) (hbl : b < s.heap.size) (hbA : ¬ A b) (hV : kV E A s.heap H locs (lWd E ad σ G bv)) (hin : ∀ j : Int32, 0 ≤ j.toInt → j.toInt ≤ 5 → vp_in (v + j) L) (e1 : y1 = xs (v + 1).toNatClampNeg) (e2 : y2 = xs (v + 2).toNatClampNeg) (e3 : y3 = xs (v + 3).toNatClampNeg) (e4 : y4 = xs (v + 4).toNatClampNeg) (e5 : y5 = xs (v + 5).toNatClampNeg) (hc : cells + 4 ≤ 600000) (hs : slots + 149 ≤ 7302250) (hl : lv_has ls 4 [(3, .int v), (2, .ref (ad 42)), (1, .ref (ad 0)), (0, .ref b)]) (rx : Int32) (x_o_page_readers : Int32) (x_o_page_day : Int32) (x_o_page_heights : Nat → Int32) (x_o_page_highest : Nat → Int32) (x_o_page_shapes : Nat → Int32) (x_o_sky_reckoner_letters : Nat → Int32) (x_o_sky_reckoner_values : Nat → Int32) (rm : Int32) (m_o_atA : Int32) (m_o_atB : Int32) (m_o_atD : Int32) (m_o_atF : Int32) (m_o_atG : Int32) (m_o_atH : Int32) (m_o_atL : Int32) (m_o_atM : Int32) (m_o_atN : Int32) (m_o_atS : Int32) (m_o_atT : Int32) (m_o_atU : Int32) (m_o_atX : Int32) (m_o_paperHigh : Int32) (m_o_paperShape : Int32) (m_o_isRefused : Nat → Int32) (m_o_worth : Nat → Int32) (hfx : f_X11_paper G (σ 13 5) (σ 13 6) (σ 8 2) (σ 8 3) (σ 14) (σ 16) (σ 15) (σ 11) (σ 12) y1 y2 y3 = some (rx, x_o_page_readers, x_o_page_day, x_o_page_heights, x_o_page_highest, x_o_page_shapes, x_o_sky_reckoner_letters, x_o_sky_reckoner_values)) (hfm : f_X12_paper (σ 42 2) (σ 42 3) (σ 42 28) (σ 42 29) (σ 42 30) (σ 42 31) (σ 42 32) (σ 42 33) (σ 42 34) (σ 42 35) (σ 42 36) (σ 42 37) (σ 42 38) (σ 42 39) (σ 42 40) (σ 42 48) (σ 42 49) (σ 58) (σ 48) (σ 49) (σ 46) (σ 47) (σ 57) (σ 44) (σ 59) (σ 61) (σ 45) (σ 62) (σ 60) (σ 56) y1 y2 y3 = some (rm, m_o_atA, m_o_atB, m_o_atD, m_o_atF, m_o_atG, m_o_atH, m_o_atL, m_o_atM, m_o_atN, m_o_atS, m_o_atT, m_o_atU, m_o_atX, m_o_paperHigh, m_o_paperShape, m_o_isRefused, m_o_worth)) (T : ∀ (H : Heap) (locs : List Loc) (ls : Array Slot), kV E A s.heap H locs (lWd E ad (lus (lus σ [(11, x_o_sky_reckoner_letters), (12, x_o_sky_reckoner_values), (13, (upd (upd (σ 13) 5 x_o_page_readers) 6 x_o_page_day)), (14, x_o_page_heights), (15, x_o_page_shapes), (16, x_o_page_highest)]) [(42, (upd (upd (upd (upd (upd (upd (upd (upd (upd (upd (upd (upd (upd (upd (upd (σ 42) 28 m_o_atA) 29 m_o_atB) 30 m_o_atD) 31 m_o_atF) 32 m_o_atG) 33 m_o_atH) 34 m_o_atL) 35 m_o_atM) 36 m_o_atN) 37 m_o_atS) 38 m_o_atT) 39 m_o_atU) 40 m_o_atX) 48 m_o_paperHigh) 49 m_o_paperShape)), (56, m_o_worth), (57, m_o_isRefused)]) G bv) → lv_has ls 4 [(3, .int v), (2, .ref (ad 42)), (1, .ref (ad 0)), (0, .ref b)] → W p l e room_1 s m #[Value.ref b] below meth c H locs (cells + 4) (slots + 149) Q (F0 m 1478 ls [])) : W p l e room_1 s m #[Value.ref b] below meth c H locs cells slots Q (F0 m 516 ls []) := by
  have hx := X.1
  have hb := X.2.1
  refine lv_aload_n hx hb dL_law_516 rfl (lv_at hl 2 rfl) ?_
  refine lv_aload_n hx hb dL_law_517 rfl (lv_at hl 3 rfl) ?_
  refine lv_iload_n hx hb dL_law_518 rfl (lv_at hl 0 rfl) ?_
  refine lv_iconst (v := 1) hx hb dL_law_519 (by decide) ?_
  refine lv_iadd hx hb dL_law_520 ?_
  refine ksld X hX hbl hbA hV (v := y1) (hin 1 (by decide) (by decide)) e1 dL_law_521 ?_
  refine lv_aload_n hx hb dL_law_522 rfl (lv_at hl 3 rfl) ?_
  refine lv_iload_n hx hb dL_law_523 rfl (lv_at hl 0 rfl) ?_
  refine lv_iconst (v := 2) hx hb dL_law_524 (by decide) ?_
  refine lv_iadd hx hb dL_law_525 ?_
  refine ksld X hX hbl hbA hV (v := y2) (hin 2 (by decide) (by decide)) e2 dL_law_526 ?_
  refine lv_aload_n hx hb dL_law_527 rfl (lv_at hl 3 rfl) ?_
  refine lv_iload_n hx hb dL_law_528 rfl (lv_at hl 0 rfl) ?_
  refine lv_iconst (v := 3) hx hb dL_law_529 (by decide) ?_
  refine lv_iadd hx hb dL_law_530 ?_
  refine ksld X hX hbl hbA hV (v := y3) (hin 3 (by decide) (by decide)) e3 dL_law_531 ?_
  have hV1 := lopenP lq_X11_paper hV
  clear hV
  refine kgoiP (krunV (rest := []) X hV1 (List.range _) (c_X11_paper l E _ (ad 0) (ad 13) (ad 8) (ad 14) (ad 16) (ad 15) (ad 10) (ad 9) (ad 11) (ad 12) (.ref (ad 1)) (.ref (ad 3)) (.ref (ad 21)) (.ref (ad 22)) (.ref (ad 27)) (.ref (ad 30)) (.ref (ad 38)) (.ref (ad 17)) (.ref (ad 18)) G (σ 13 5) (σ 13 6) (σ 8 2) (σ 8 3) (σ 14) (σ 16) (σ 15) (σ 11) (σ 12) y1 y2 y3 rx x_o_page_readers x_o_page_day x_o_page_heights x_o_page_highest x_o_page_shapes x_o_sky_reckoner_letters x_o_sky_reckoner_values hfx) mw_761 kb_X11_paper (ci := 11) rfl rfl (kndR _) (krg _ _) rfl hl.1 rfl (Nat.le_of_ble_eq_true rfl) dL_law_532 ⟨rfl, rfl, (by decide), (by decide), (by show cells + 0 + 0 ≤ 600000; omega), (by show slots + 0 + 0 ≤ 7302250; omega)⟩) X hV1 (fun u H locs hV2 => ?_)
  have hV3 : kV E A s.heap H locs (lWd E ad (lus σ [(11, x_o_sky_reckoner_letters), (12, x_o_sky_reckoner_values), (13, (upd (upd (σ 13) 5 x_o_page_readers) 6 x_o_page_day)), (14, x_o_page_heights), (15, x_o_page_shapes), (16, x_o_page_highest)]) G bv) := lcloseP lq_X11_paper (ks := [11, 12, 13, 14, 15, 16]) rfl (by decide +kernel) rfl hV2
  clear hV1 hV2
  refine lv_pop hx hb dL_law_535 rfl ?_
  refine lv_aload_n hx hb dL_law_536 rfl (lv_at hl 1 rfl) ?_
  refine lv_aload_n hx hb dL_law_537 rfl (lv_at hl 3 rfl) ?_
  refine lv_iload_n hx hb dL_law_538 rfl (lv_at hl 0 rfl) ?_
  refine lv_iconst (v := 1) hx hb dL_law_539 (by decide) ?_
  refine lv_iadd hx hb dL_law_540 ?_
  refine ksld X hX hbl hbA hV3 (v := y1) (hin 1 (by decide) (by decide)) e1 dL_law_541 ?_
  refine lv_aload_n hx hb dL_law_542 rfl (lv_at hl 3 rfl) ?_
  refine lv_iload_n hx hb dL_law_543 rfl (lv_at hl 0 rfl) ?_
  refine lv_iconst (v := 2) hx hb dL_law_544 (by decide) ?_
  refine lv_iadd hx hb dL_law_545 ?_
  refine ksld X hX hbl hbA hV3 (v := y2) (hin 2 (by decide) (by decide)) e2 dL_law_546 ?_
  refine lv_aload_n hx hb dL_law_547 rfl (lv_at hl 3 rfl) ?_
  refine lv_iload_n hx hb dL_law_548 rfl (lv_at hl 0 rfl) ?_
  refine lv_iconst (v := 3) hx hb dL_law_549 (by decide) ?_
  refine lv_iadd hx hb dL_law_550 ?_
  refine ksld X hX hbl hbA hV3 (v := y3) (hin 3 (by decide) (by decide)) e3 dL_law_551 ?_
  have hV4 := lopen lq_X12_paper hV3
  clear hV3
  refine kgoiT (krunV (rest := []) X hV4 (List.range _) (c_X12_paper l E _ (ad 42) (ad 58) (ad 48) (ad 49) (ad 46) (ad 47) (ad 57) (ad 44) (ad 59) (ad 61) (ad 45) (ad 62) (ad 60) (ad 56) (.ref (ad 43)) (.int (σ 42 1)) (.int (σ 42 4)) (.int (σ 42 5)) (.int (σ 42 6)) (.ref (ad 50)) (.ref (ad 51)) (.ref (ad 52)) (.ref (ad 53)) (.ref (ad 54)) (.int (σ 42 18)) (.int (σ 42 19)) (.int (σ 42 20)) (.int (σ 42 21)) (.int (σ 42 22)) (.int (σ 42 23)) (.int (σ 42 24)) (.int (σ 42 25)) (.int (σ 42 26)) (.ref (ad 55)) (.ref (ad 63)) (.ref (ad 64)) (.ref (ad 65)) (.ref (ad 66)) (.ref (ad 67)) (.ref (ad 68)) (.ref (ad 69)) (.ref (ad 70)) (.ref (ad 71)) (.ref (ad 72)) (.int (σ 42 60)) (.int (σ 42 61)) (.int (σ 42 62)) (.ref (ad 73)) (.ref (ad 74)) (.ref (ad 75)) (.ref (ad 76)) (σ 42 2) (σ 42 3) (σ 42 28) (σ 42 29) (σ 42 30) (σ 42 31) (σ 42 32) (σ 42 33) (σ 42 34) (σ 42 35) (σ 42 36) (σ 42 37) (σ 42 38) (σ 42 39) (σ 42 40) (σ 42 48) (σ 42 49) (σ 58) (σ 48) (σ 49) (σ 46) (σ 47) (σ 57) (σ 44) (σ 59) (σ 61) (σ 45) (σ 62) (σ 60) (σ 56) y1 y2 y3 rm m_o_atA m_o_atB m_o_atD m_o_atF m_o_atG m_o_atH m_o_atL m_o_atM m_o_atN m_o_atS m_o_atT m_o_atU m_o_atX m_o_paperHigh m_o_paperShape m_o_isRefused m_o_worth hfm) mw_793 kb_X12_paper (ci := 12) rfl rfl (kndR _) (krg _ _) rfl hl.1 rfl (Nat.le_of_ble_eq_true rfl) dL_law_552 ⟨rfl, rfl, (by decide), (by decide), (by show cells + 0 + 0 ≤ 600000; omega), (by show slots + 0 + 0 ≤ 7302250; omega)⟩) X hV4 (fun u H locs hV5 => ?_)
  have hV6 : kV E A s.heap H locs (lWd E ad (lus (lus σ [(11, x_o_sky_reckoner_letters), (12, x_o_sky_reckoner_values), (13, (upd (upd (σ 13) 5 x_o_page_readers) 6 x_o_page_day)), (14, x_o_page_heights), (15, x_o_page_shapes), (16, x_o_page_highest)]) [(42, (upd (upd (upd (upd (upd (upd (upd (upd (upd (upd (upd (upd (upd (upd (upd (σ 42) 28 m_o_atA) 29 m_o_atB) 30 m_o_atD) 31 m_o_atF) 32 m_o_atG) 33 m_o_atH) 34 m_o_atL) 35 m_o_atM) 36 m_o_atN) 37 m_o_atS) 38 m_o_atT) 39 m_o_atU) 40 m_o_atX) 48 m_o_paperHigh) 49 m_o_paperShape)), (56, m_o_worth), (57, m_o_isRefused)]) G bv) := lclose lq_X12_paper (ks := [42, 56, 57]) rfl (by decide +kernel) rfl hV5
  clear hV4 hV5
  refine lv_pop hx hb dL_law_555 rfl ?_
  refine lv_goto (tgt := 1478) hx hb dL_law_556 (by decide) ?_
  refine W.widen (k := cells + 4) (n := slots + 149) (by omega) (by omega) ?_
  exact T _ _ _ hV6 hl
set_option maxHeartbeats 4000000 in
set_option maxRecDepth 100000 in
theorem lc_9 {p : Program} {l : Launch} {e : Env} {s : State} {m : MethodId} {below : List Frame} {meth : Method} {c : Code} {E : kE} {A : Nat → Prop} {b L : Nat} {xs : Nat → Int32} {Q : State → Prop} {H : Heap} {locs : List Loc} {ls : Array Slot} {ad : Nat → Nat} {σ : Nat → Nat → Int32} {G : kG} {bv : Value} {v y1 y2 y3 y4 y5 : Int32} {cells slots : Nat} (X : kC p s m c code 4 RL #[Value.ref b] E A) (hX : va_X b L xs s s.heap) (hbl : b < s.heap.size) (hbA : ¬ A b) (hV : kV E A s.heap H locs (lWd E ad σ G bv)) (hin : ∀ j : Int32, 0 ≤ j.toInt → j.toInt ≤ 5 → vp_in (v + j) L) (e1 : y1 = xs (v + 1).toNatClampNeg) (e2 : y2 = xs (v + 2).toNatClampNeg) (e3 : y3 = xs (v + 3).toNatClampNeg) (e4 : y4 = xs (v + 4).toNatClampNeg) (e5 : y5 = xs (v + 5).toNatClampNeg) (hc : cells + 4 ≤ 600000) (hs : slots + 149 ≤ 7302250) (hl : lv_has ls 4 [(3, .int v), (2, .ref (ad 42)), (1, .ref (ad 0)), (0, .ref b)]) (rx : Int32) (x_o_page_readers : Int32) (x_o_page_day : Int32) (x_o_page_heights : Nat → Int32) (x_o_page_highest : Nat → Int32) (x_o_page_marked : Nat → Int32) (x_o_page_shapes : Nat → Int32) (x_o_page_reckoner_letters : Nat → Int32) (x_o_page_reckoner_values : Nat → Int32) (x_o_sky_reckoner_letters : Nat → Int32) (x_o_sky_reckoner_values : Nat → Int32) (rm : Int32) (m_o_atA : Int32) (m_o_atB : Int32) (m_o_atD : Int32) (m_o_atF : Int32) (m_o_atG : Int32) (m_o_atH : Int32) (m_o_atL : Int32) (m_o_atM : Int32) (m_o_atN : Int32) (m_o_atS : Int32) (m_o_atT : Int32) (m_o_atU : Int32) (m_o_atX : Int32) (m_o_paperHigh : Int32) (m_o_paperShape : Int32) (m_o_first : Nat → Int32) (m_o_greatest : Nat → Int32) (m_o_highAt : Nat → Int32) (m_o_isRefused : Nat → Int32) (m_o_last : Nat → Int32) (m_o_marked : Nat → Int32) (m_o_shapeAt : Nat → Int32) (m_o_worth : Nat → Int32) (hfx : f_X11_marks G (σ 13 5) (σ 13 6) (σ 8 2) (σ 8 3) (σ 14) (σ 16) (σ 17) (σ 15) (σ 19) (σ 20) (σ 11) (σ 12) y1 y2 y3 = some (rx, x_o_page_readers, x_o_page_day, x_o_page_heights, x_o_page_highest, x_o_page_marked, x_o_page_shapes, x_o_page_reckoner_letters, x_o_page_reckoner_values, x_o_sky_reckoner_letters, x_o_sky_reckoner_values)) (hfm : f_X12_marks (σ 42 2) (σ 42 3) (σ 42 28) (σ 42 29) (σ 42 30) (σ 42 31) (σ 42 32) (σ 42 33) (σ 42 34) (σ 42 35) (σ 42 36) (σ 42 37) (σ 42 38) (σ 42 39) (σ 42 40) (σ 42 48) (σ 42 49) (σ 58) (σ 48) (σ 49) (σ 46) (σ 47) (σ 65) (σ 67) (σ 63) (σ 57) (σ 66) (σ 44) (σ 68) (σ 59) (σ 61) (σ 64) (σ 45) (σ 62) (σ 60) (σ 56) y1 y2 y3 = some (rm, m_o_atA, m_o_atB, m_o_atD, m_o_atF, m_o_atG, m_o_atH, m_o_atL, m_o_atM, m_o_atN, m_o_atS, m_o_atT, m_o_atU, m_o_atX, m_o_paperHigh, m_o_paperShape, m_o_first, m_o_greatest, m_o_highAt, m_o_isRefused, m_o_last, m_o_marked, m_o_shapeAt, m_o_worth)) (T : ∀ (H : Heap) (locs : List Loc) (ls : Array Slot), kV E A s.heap H locs (lWd E ad (lus (lus σ [(11, x_o_sky_reckoner_letters), (12, x_o_sky_reckoner_values), (13, (upd (upd (σ 13) 5 x_o_page_readers) 6 x_o_page_day)), (14, x_o_page_heights), (15, x_o_page_shapes), (16, x_o_page_highest), (17, x_o_page_marked), (19, x_o_page_reckoner_letters), (20, x_o_page_reckoner_values)]) [(42, (upd (upd (upd (upd (upd (upd (upd (upd (upd (upd (upd (upd (upd (upd (upd (σ 42) 28 m_o_atA) 29 m_o_atB) 30 m_o_atD) 31 m_o_atF) 32 m_o_atG) 33 m_o_atH) 34 m_o_atL) 35 m_o_atM) 36 m_o_atN) 37 m_o_atS) 38 m_o_atT) 39 m_o_atU) 40 m_o_atX) 48 m_o_paperHigh) 49 m_o_paperShape)), (56, m_o_worth), (57, m_o_isRefused), (63, m_o_highAt), (64, m_o_shapeAt), (65, m_o_first), (66, m_o_last), (67, m_o_greatest), (68, m_o_marked)]) G bv) → lv_has ls 4 [(3, .int v), (2, .ref (ad 42)), (1, .ref (ad 0)), (0, .ref b)] → W p l e room_1 s m #[Value.ref b] below meth c H locs (cells + 4) (slots + 149) Q (F0 m 1478 ls [])) : W p l e room_1 s m #[Value.ref b] below meth c H locs cells slots Q (F0 m 559 ls []) := by
  have hx := X.1
  have hb := X.2.1
  refine lv_aload_n hx hb dL_law_559 rfl (lv_at hl 2 rfl) ?_
  refine lv_aload_n hx hb dL_law_560 rfl (lv_at hl 3 rfl) ?_
  refine lv_iload_n hx hb dL_law_561 rfl (lv_at hl 0 rfl) ?_
  refine lv_iconst (v := 1) hx hb dL_law_562 (by decide) ?_
  refine lv_iadd hx hb dL_law_563 ?_
  refine ksld X hX hbl hbA hV (v := y1) (hin 1 (by decide) (by decide)) e1 dL_law_564 ?_
  refine lv_aload_n hx hb dL_law_565 rfl (lv_at hl 3 rfl) ?_
  refine lv_iload_n hx hb dL_law_566 rfl (lv_at hl 0 rfl) ?_
  refine lv_iconst (v := 2) hx hb dL_law_567 (by decide) ?_
  refine lv_iadd hx hb dL_law_568 ?_
  refine ksld X hX hbl hbA hV (v := y2) (hin 2 (by decide) (by decide)) e2 dL_law_569 ?_
  refine lv_aload_n hx hb dL_law_570 rfl (lv_at hl 3 rfl) ?_
  refine lv_iload_n hx hb dL_law_571 rfl (lv_at hl 0 rfl) ?_
  refine lv_iconst (v := 3) hx hb dL_law_572 (by decide) ?_
  refine lv_iadd hx hb dL_law_573 ?_
  refine ksld X hX hbl hbA hV (v := y3) (hin 3 (by decide) (by decide)) e3 dL_law_574 ?_
  have hV1 := lopenP lq_X11_marks hV
  clear hV
  refine kgoiP (krunV (rest := []) X hV1 (List.range _) (c_X11_marks l E _ (ad 0) (ad 13) (ad 8) (ad 21) (ad 14) (ad 16) (ad 17) (ad 18) (ad 15) (ad 10) (ad 9) (ad 19) (ad 20) (ad 11) (ad 12) (.ref (ad 1)) (.ref (ad 3)) (.ref (ad 22)) (.ref (ad 27)) (.ref (ad 30)) (.ref (ad 38)) G (σ 13 5) (σ 13 6) (σ 8 2) (σ 8 3) (σ 14) (σ 16) (σ 17) (σ 15) (σ 19) (σ 20) (σ 11) (σ 12) y1 y2 y3 rx x_o_page_readers x_o_page_day x_o_page_heights x_o_page_highest x_o_page_marked x_o_page_shapes x_o_page_reckoner_letters x_o_page_reckoner_values x_o_sky_reckoner_letters x_o_sky_reckoner_values hfx) mw_803 kb_X11_marks (ci := 11) rfl rfl (kndR _) (krg _ _) rfl hl.1 rfl (Nat.le_of_ble_eq_true rfl) dL_law_575 ⟨rfl, rfl, (by decide), (by decide), (by show cells + 0 + 0 ≤ 600000; omega), (by show slots + 0 + 0 ≤ 7302250; omega)⟩) X hV1 (fun u H locs hV2 => ?_)
  have hV3 : kV E A s.heap H locs (lWd E ad (lus σ [(11, x_o_sky_reckoner_letters), (12, x_o_sky_reckoner_values), (13, (upd (upd (σ 13) 5 x_o_page_readers) 6 x_o_page_day)), (14, x_o_page_heights), (15, x_o_page_shapes), (16, x_o_page_highest), (17, x_o_page_marked), (19, x_o_page_reckoner_letters), (20, x_o_page_reckoner_values)]) G bv) := lcloseP lq_X11_marks (ks := [11, 12, 13, 14, 15, 16, 17, 19, 20]) rfl (by decide +kernel) rfl hV2
  clear hV1 hV2
  refine lv_pop hx hb dL_law_578 rfl ?_
  refine lv_aload_n hx hb dL_law_579 rfl (lv_at hl 1 rfl) ?_
  refine lv_aload_n hx hb dL_law_580 rfl (lv_at hl 3 rfl) ?_
  refine lv_iload_n hx hb dL_law_581 rfl (lv_at hl 0 rfl) ?_
  refine lv_iconst (v := 1) hx hb dL_law_582 (by decide) ?_
  refine lv_iadd hx hb dL_law_583 ?_
  refine ksld X hX hbl hbA hV3 (v := y1) (hin 1 (by decide) (by decide)) e1 dL_law_584 ?_
  refine lv_aload_n hx hb dL_law_585 rfl (lv_at hl 3 rfl) ?_
  refine lv_iload_n hx hb dL_law_586 rfl (lv_at hl 0 rfl) ?_
  refine lv_iconst (v := 2) hx hb dL_law_587 (by decide) ?_
  refine lv_iadd hx hb dL_law_588 ?_
  refine ksld X hX hbl hbA hV3 (v := y2) (hin 2 (by decide) (by decide)) e2 dL_law_589 ?_
  refine lv_aload_n hx hb dL_law_590 rfl (lv_at hl 3 rfl) ?_
  refine lv_iload_n hx hb dL_law_591 rfl (lv_at hl 0 rfl) ?_
  refine lv_iconst (v := 3) hx hb dL_law_592 (by decide) ?_
  refine lv_iadd hx hb dL_law_593 ?_
  refine ksld X hX hbl hbA hV3 (v := y3) (hin 3 (by decide) (by decide)) e3 dL_law_594 ?_
  have hV4 := lopen lq_X12_marks hV3
  clear hV3
  refine kgoiT (krunV (rest := []) X hV4 (List.range _) (c_X12_marks l E _ (ad 42) (ad 58) (ad 48) (ad 49) (ad 46) (ad 47) (ad 65) (ad 67) (ad 63) (ad 57) (ad 66) (ad 44) (ad 68) (ad 59) (ad 61) (ad 64) (ad 45) (ad 62) (ad 60) (ad 56) (.ref (ad 43)) (.int (σ 42 1)) (.int (σ 42 4)) (.int (σ 42 5)) (.int (σ 42 6)) (.ref (ad 50)) (.ref (ad 51)) (.ref (ad 52)) (.ref (ad 53)) (.ref (ad 54)) (.int (σ 42 18)) (.int (σ 42 19)) (.int (σ 42 20)) (.int (σ 42 21)) (.int (σ 42 22)) (.int (σ 42 23)) (.int (σ 42 24)) (.int (σ 42 25)) (.int (σ 42 26)) (.ref (ad 55)) (.ref (ad 69)) (.ref (ad 70)) (.ref (ad 71)) (.ref (ad 72)) (.int (σ 42 60)) (.int (σ 42 61)) (.int (σ 42 62)) (.ref (ad 73)) (.ref (ad 74)) (.ref (ad 75)) (.ref (ad 76)) (σ 42 2) (σ 42 3) (σ 42 28) (σ 42 29) (σ 42 30) (σ 42 31) (σ 42 32) (σ 42 33) (σ 42 34) (σ 42 35) (σ 42 36) (σ 42 37) (σ 42 38) (σ 42 39) (σ 42 40) (σ 42 48) (σ 42 49) (σ 58) (σ 48) (σ 49) (σ 46) (σ 47) (σ 65) (σ 67) (σ 63) (σ 57) (σ 66) (σ 44) (σ 68) (σ 59) (σ 61) (σ 64) (σ 45) (σ 62) (σ 60) (σ 56) y1 y2 y3 rm m_o_atA m_o_atB m_o_atD m_o_atF m_o_atG m_o_atH m_o_atL m_o_atM m_o_atN m_o_atS m_o_atT m_o_atU m_o_atX m_o_paperHigh m_o_paperShape m_o_first m_o_greatest m_o_highAt m_o_isRefused m_o_last m_o_marked m_o_shapeAt m_o_worth hfm) mw_846 kb_X12_marks (ci := 12) rfl rfl (kndR _) (krg _ _) rfl hl.1 rfl (Nat.le_of_ble_eq_true rfl) dL_law_595 ⟨rfl, rfl, (by decide), (by decide), (by show cells + 0 + 0 ≤ 600000; omega), (by show slots + 0 + 0 ≤ 7302250; omega)⟩) X hV4 (fun u H locs hV5 => ?_)
  have hV6 : kV E A s.heap H locs (lWd E ad (lus (lus σ [(11, x_o_sky_reckoner_letters), (12, x_o_sky_reckoner_values), (13, (upd (upd (σ 13) 5 x_o_page_readers) 6 x_o_page_day)), (14, x_o_page_heights), (15, x_o_page_shapes), (16, x_o_page_highest), (17, x_o_page_marked), (19, x_o_page_reckoner_letters), (20, x_o_page_reckoner_values)]) [(42, (upd (upd (upd (upd (upd (upd (upd (upd (upd (upd (upd (upd (upd (upd (upd (σ 42) 28 m_o_atA) 29 m_o_atB) 30 m_o_atD) 31 m_o_atF) 32 m_o_atG) 33 m_o_atH) 34 m_o_atL) 35 m_o_atM) 36 m_o_atN) 37 m_o_atS) 38 m_o_atT) 39 m_o_atU) 40 m_o_atX) 48 m_o_paperHigh) 49 m_o_paperShape)), (56, m_o_worth), (57, m_o_isRefused), (63, m_o_highAt), (64, m_o_shapeAt), (65, m_o_first), (66, m_o_last), (67, m_o_greatest), (68, m_o_marked)]) G bv) := lclose lq_X12_marks (ks := [42, 56, 57, 63, 64, 65, 66, 67, 68]) rfl (by decide +kernel) rfl hV5
  clear hV4 hV5
  refine lv_pop hx hb dL_law_598 rfl ?_
  refine lv_goto (tgt := 1478) hx hb dL_law_599 (by decide) ?_
  refine W.widen (k := cells + 4) (n := slots + 149) (by omega) (by omega) ?_
  exact T _ _ _ hV6 hl
set_option maxHeartbeats 4000000 in
set_option maxRecDepth 100000 in
theorem lc_10 {p : Program} {l : Launch} {e : Env} {s : State} {m : MethodId} {below : List Frame} {meth : Method} {c : Code} {E : kE} {A : Nat → Prop} {b L : Nat} {xs : Nat → Int32} {Q : State → Prop} {H : Heap} {locs : List Loc} {ls : Array Slot} {ad : Nat → Nat} {σ : Nat → Nat → Int32} {G : kG} {bv : Value} {v y1 y2 y3 y4 y5 : Int32} {cells slots : Nat} (X : kC p s m c code 4 RL #[Value.ref b] E A) (hX : va_X b L xs s s.heap) (hbl : b < s.heap.size) (hbA : ¬ A b) (hV : kV E A s.heap H locs (lWd E ad σ G bv)) (hin : ∀ j : Int32, 0 ≤ j.toInt → j.toInt ≤ 5 → vp_in (v + j) L) (e1 : y1 = xs (v + 1).toNatClampNeg) (e2 : y2 = xs (v + 2).toNatClampNeg) (e3 : y3 = xs (v + 3).toNatClampNeg) (e4 : y4 = xs (v + 4).toNatClampNeg) (e5 : y5 = xs (v + 5).toNatClampNeg) (hc : cells + 4 ≤ 600000) (hs : slots + 149 ≤ 7302250) (hl : lv_has ls 4 [(3, .int v), (2, .ref (ad 42)), (1, .ref (ad 0)), (0, .ref b)]) (rx : Int32) (x_o_page_readers : Int32) (x_o_page_day : Int32) (x_o_page_heights : Nat → Int32) (x_o_page_highest : Nat → Int32) (x_o_page_marked : Nat → Int32) (x_o_page_shapes : Nat → Int32) (x_o_page_reckoner_letters : Nat → Int32) (x_o_page_reckoner_values : Nat → Int32) (x_o_sky_reckoner_letters : Nat → Int32) (x_o_sky_reckoner_values : Nat → Int32) (rm : Int32) (m_o_atA : Int32) (m_o_atB : Int32) (m_o_atD : Int32) (m_o_atF : Int32) (m_o_atG : Int32) (m_o_atH : Int32) (m_o_atL : Int32) (m_o_atM : Int32) (m_o_atN : Int32) (m_o_atS : Int32) (m_o_atT : Int32) (m_o_atU : Int32) (m_o_atX : Int32) (m_o_paperHigh : Int32) (m_o_paperShape : Int32) (m_o_first : Nat → Int32) (m_o_greatest : Nat → Int32) (m_o_highAt : Nat → Int32) (m_o_isRefused : Nat → Int32) (m_o_last : Nat → Int32) (m_o_marked : Nat → Int32) (m_o_shapeAt : Nat → Int32) (m_o_worth : Nat → Int32) (hfx : f_X11_passed G (σ 13 5) (σ 13 6) (σ 8 2) (σ 8 3) (σ 14) (σ 16) (σ 17) (σ 15) (σ 19) (σ 20) (σ 11) (σ 12) y1 y2 y3 y4 y5 = some (rx, x_o_page_readers, x_o_page_day, x_o_page_heights, x_o_page_highest, x_o_page_marked, x_o_page_shapes, x_o_page_reckoner_letters, x_o_page_reckoner_values, x_o_sky_reckoner_letters, x_o_sky_reckoner_values)) (hfm : f_X12_passed (σ 42 2) (σ 42 3) (σ 42 28) (σ 42 29) (σ 42 30) (σ 42 31) (σ 42 32) (σ 42 33) (σ 42 34) (σ 42 35) (σ 42 36) (σ 42 37) (σ 42 38) (σ 42 39) (σ 42 40) (σ 42 48) (σ 42 49) (σ 58) (σ 48) (σ 49) (σ 46) (σ 47) (σ 65) (σ 67) (σ 63) (σ 57) (σ 66) (σ 44) (σ 68) (σ 59) (σ 61) (σ 64) (σ 45) (σ 62) (σ 60) (σ 56) y1 y2 y3 y4 y5 = some (rm, m_o_atA, m_o_atB, m_o_atD, m_o_atF, m_o_atG, m_o_atH, m_o_atL, m_o_atM, m_o_atN, m_o_atS, m_o_atT, m_o_atU, m_o_atX, m_o_paperHigh, m_o_paperShape, m_o_first, m_o_greatest, m_o_highAt, m_o_isRefused, m_o_last, m_o_marked, m_o_shapeAt, m_o_worth)) (T : ∀ (H : Heap) (locs : List Loc) (ls : Array Slot), kV E A s.heap H locs (lWd E ad (lus (lus σ [(11, x_o_sky_reckoner_letters), (12, x_o_sky_reckoner_values), (13, (upd (upd (σ 13) 5 x_o_page_readers) 6 x_o_page_day)), (14, x_o_page_heights), (15, x_o_page_shapes), (16, x_o_page_highest), (17, x_o_page_marked), (19, x_o_page_reckoner_letters), (20, x_o_page_reckoner_values)]) [(42, (upd (upd (upd (upd (upd (upd (upd (upd (upd (upd (upd (upd (upd (upd (upd (σ 42) 28 m_o_atA) 29 m_o_atB) 30 m_o_atD) 31 m_o_atF) 32 m_o_atG) 33 m_o_atH) 34 m_o_atL) 35 m_o_atM) 36 m_o_atN) 37 m_o_atS) 38 m_o_atT) 39 m_o_atU) 40 m_o_atX) 48 m_o_paperHigh) 49 m_o_paperShape)), (56, m_o_worth), (57, m_o_isRefused), (63, m_o_highAt), (64, m_o_shapeAt), (65, m_o_first), (66, m_o_last), (67, m_o_greatest), (68, m_o_marked)]) G bv) → lv_has ls 4 [(3, .int v), (2, .ref (ad 42)), (1, .ref (ad 0)), (0, .ref b)] → W p l e room_1 s m #[Value.ref b] below meth c H locs (cells + 4) (slots + 149) Q (F0 m 1478 ls [])) : W p l e room_1 s m #[Value.ref b] below meth c H locs cells slots Q (F0 m 602 ls []) := by
  have hx := X.1
  have hb := X.2.1
  refine lv_aload_n hx hb dL_law_602 rfl (lv_at hl 2 rfl) ?_
  refine lv_aload_n hx hb dL_law_603 rfl (lv_at hl 3 rfl) ?_
  refine lv_iload_n hx hb dL_law_604 rfl (lv_at hl 0 rfl) ?_
  refine lv_iconst (v := 1) hx hb dL_law_605 (by decide) ?_
  refine lv_iadd hx hb dL_law_606 ?_
  refine ksld X hX hbl hbA hV (v := y1) (hin 1 (by decide) (by decide)) e1 dL_law_607 ?_
  refine lv_aload_n hx hb dL_law_608 rfl (lv_at hl 3 rfl) ?_
  refine lv_iload_n hx hb dL_law_609 rfl (lv_at hl 0 rfl) ?_
  refine lv_iconst (v := 2) hx hb dL_law_610 (by decide) ?_
  refine lv_iadd hx hb dL_law_611 ?_
  refine ksld X hX hbl hbA hV (v := y2) (hin 2 (by decide) (by decide)) e2 dL_law_612 ?_
  refine lv_aload_n hx hb dL_law_613 rfl (lv_at hl 3 rfl) ?_
  refine lv_iload_n hx hb dL_law_614 rfl (lv_at hl 0 rfl) ?_
  refine lv_iconst (v := 3) hx hb dL_law_615 (by decide) ?_
  refine lv_iadd hx hb dL_law_616 ?_
  refine ksld X hX hbl hbA hV (v := y3) (hin 3 (by decide) (by decide)) e3 dL_law_617 ?_
  refine lv_aload_n hx hb dL_law_618 rfl (lv_at hl 3 rfl) ?_
  refine lv_iload_n hx hb dL_law_619 rfl (lv_at hl 0 rfl) ?_
  refine lv_iconst (v := 4) hx hb dL_law_620 (by decide) ?_
  refine lv_iadd hx hb dL_law_621 ?_
  refine ksld X hX hbl hbA hV (v := y4) (hin 4 (by decide) (by decide)) e4 dL_law_622 ?_
  refine lv_aload_n hx hb dL_law_623 rfl (lv_at hl 3 rfl) ?_
  refine lv_iload_n hx hb dL_law_624 rfl (lv_at hl 0 rfl) ?_
  refine lv_iconst (v := 5) hx hb dL_law_625 (by decide) ?_
  refine lv_iadd hx hb dL_law_626 ?_
  refine ksld X hX hbl hbA hV (v := y5) (hin 5 (by decide) (by decide)) e5 dL_law_627 ?_
  have hV1 := lopenP lq_X11_passed hV
  clear hV
  refine kgoiP (krunV (rest := []) X hV1 (List.range _) (c_X11_passed l E _ (ad 0) (ad 13) (ad 8) (ad 21) (ad 14) (ad 16) (ad 17) (ad 18) (ad 15) (ad 10) (ad 9) (ad 19) (ad 20) (ad 11) (ad 12) (.ref (ad 1)) (.ref (ad 3)) (.ref (ad 22)) (.ref (ad 27)) (.ref (ad 30)) (.ref (ad 38)) G (σ 13 5) (σ 13 6) (σ 8 2) (σ 8 3) (σ 14) (σ 16) (σ 17) (σ 15) (σ 19) (σ 20) (σ 11) (σ 12) y1 y2 y3 y4 y5 rx x_o_page_readers x_o_page_day x_o_page_heights x_o_page_highest x_o_page_marked x_o_page_shapes x_o_page_reckoner_letters x_o_page_reckoner_values x_o_sky_reckoner_letters x_o_sky_reckoner_values hfx) mw_862 kb_X11_passed (ci := 11) rfl rfl (kndR _) (krg _ _) rfl hl.1 rfl (Nat.le_of_ble_eq_true rfl) dL_law_628 ⟨rfl, rfl, (by decide), (by decide), (by show cells + 0 + 0 ≤ 600000; omega), (by show slots + 0 + 0 ≤ 7302250; omega)⟩) X hV1 (fun u H locs hV2 => ?_)
  have hV3 : kV E A s.heap H locs (lWd E ad (lus σ [(11, x_o_sky_reckoner_letters), (12, x_o_sky_reckoner_values), (13, (upd (upd (σ 13) 5 x_o_page_readers) 6 x_o_page_day)), (14, x_o_page_heights), (15, x_o_page_shapes), (16, x_o_page_highest), (17, x_o_page_marked), (19, x_o_page_reckoner_letters), (20, x_o_page_reckoner_values)]) G bv) := lcloseP lq_X11_passed (ks := [11, 12, 13, 14, 15, 16, 17, 19, 20]) rfl (by decide +kernel) rfl hV2
  clear hV1 hV2
  refine lv_pop hx hb dL_law_631 rfl ?_
  refine lv_aload_n hx hb dL_law_632 rfl (lv_at hl 1 rfl) ?_
  refine lv_aload_n hx hb dL_law_633 rfl (lv_at hl 3 rfl) ?_
  refine lv_iload_n hx hb dL_law_634 rfl (lv_at hl 0 rfl) ?_
  refine lv_iconst (v := 1) hx hb dL_law_635 (by decide) ?_
  refine lv_iadd hx hb dL_law_636 ?_
  refine ksld X hX hbl hbA hV3 (v := y1) (hin 1 (by decide) (by decide)) e1 dL_law_637 ?_
  refine lv_aload_n hx hb dL_law_638 rfl (lv_at hl 3 rfl) ?_
  refine lv_iload_n hx hb dL_law_639 rfl (lv_at hl 0 rfl) ?_
  refine lv_iconst (v := 2) hx hb dL_law_640 (by decide) ?_
  refine lv_iadd hx hb dL_law_641 ?_
  refine ksld X hX hbl hbA hV3 (v := y2) (hin 2 (by decide) (by decide)) e2 dL_law_642 ?_
  refine lv_aload_n hx hb dL_law_643 rfl (lv_at hl 3 rfl) ?_
  refine lv_iload_n hx hb dL_law_644 rfl (lv_at hl 0 rfl) ?_
  refine lv_iconst (v := 3) hx hb dL_law_645 (by decide) ?_
  refine lv_iadd hx hb dL_law_646 ?_
  refine ksld X hX hbl hbA hV3 (v := y3) (hin 3 (by decide) (by decide)) e3 dL_law_647 ?_
  refine lv_aload_n hx hb dL_law_648 rfl (lv_at hl 3 rfl) ?_
  refine lv_iload_n hx hb dL_law_649 rfl (lv_at hl 0 rfl) ?_
  refine lv_iconst (v := 4) hx hb dL_law_650 (by decide) ?_
  refine lv_iadd hx hb dL_law_651 ?_
  refine ksld X hX hbl hbA hV3 (v := y4) (hin 4 (by decide) (by decide)) e4 dL_law_652 ?_
  refine lv_aload_n hx hb dL_law_653 rfl (lv_at hl 3 rfl) ?_
  refine lv_iload_n hx hb dL_law_654 rfl (lv_at hl 0 rfl) ?_
  refine lv_iconst (v := 5) hx hb dL_law_655 (by decide) ?_
  refine lv_iadd hx hb dL_law_656 ?_
  refine ksld X hX hbl hbA hV3 (v := y5) (hin 5 (by decide) (by decide)) e5 dL_law_657 ?_
  have hV4 := lopen lq_X12_passed hV3
  clear hV3
  refine kgoiT (krunV (rest := []) X hV4 (List.range _) (c_X12_passed l E _ (ad 42) (ad 58) (ad 48) (ad 49) (ad 46) (ad 47) (ad 65) (ad 67) (ad 63) (ad 57) (ad 66) (ad 44) (ad 68) (ad 59) (ad 61) (ad 64) (ad 45) (ad 62) (ad 60) (ad 56) (.ref (ad 43)) (.int (σ 42 1)) (.int (σ 42 4)) (.int (σ 42 5)) (.int (σ 42 6)) (.ref (ad 50)) (.ref (ad 51)) (.ref (ad 52)) (.ref (ad 53)) (.ref (ad 54)) (.int (σ 42 18)) (.int (σ 42 19)) (.int (σ 42 20)) (.int (σ 42 21)) (.int (σ 42 22)) (.int (σ 42 23)) (.int (σ 42 24)) (.int (σ 42 25)) (.int (σ 42 26)) (.ref (ad 55)) (.ref (ad 69)) (.ref (ad 70)) (.ref (ad 71)) (.ref (ad 72)) (.int (σ 42 60)) (.int (σ 42 61)) (.int (σ 42 62)) (.ref (ad 73)) (.ref (ad 74)) (.ref (ad 75)) (.ref (ad 76)) (σ 42 2) (σ 42 3) (σ 42 28) (σ 42 29) (σ 42 30) (σ 42 31) (σ 42 32) (σ 42 33) (σ 42 34) (σ 42 35) (σ 42 36) (σ 42 37) (σ 42 38) (σ 42 39) (σ 42 40) (σ 42 48) (σ 42 49) (σ 58) (σ 48) (σ 49) (σ 46) (σ 47) (σ 65) (σ 67) (σ 63) (σ 57) (σ 66) (σ 44) (σ 68) (σ 59) (σ 61) (σ 64) (σ 45) (σ 62) (σ 60) (σ 56) y1 y2 y3 y4 y5 rm m_o_atA m_o_atB m_o_atD m_o_atF m_o_atG m_o_atH m_o_atL m_o_atM m_o_atN m_o_atS m_o_atT m_o_atU m_o_atX m_o_paperHigh m_o_paperShape m_o_first m_o_greatest m_o_highAt m_o_isRefused m_o_last m_o_marked m_o_shapeAt m_o_worth hfm) mw_878 kb_X12_passed (ci := 12) rfl rfl (kndR _) (krg _ _) rfl hl.1 rfl (Nat.le_of_ble_eq_true rfl) dL_law_658 ⟨rfl, rfl, (by decide), (by decide), (by show cells + 0 + 0 ≤ 600000; omega), (by show slots + 0 + 0 ≤ 7302250; omega)⟩) X hV4 (fun u H locs hV5 => ?_)
  have hV6 : kV E A s.heap H locs (lWd E ad (lus (lus σ [(11, x_o_sky_reckoner_letters), (12, x_o_sky_reckoner_values), (13, (upd (upd (σ 13) 5 x_o_page_readers) 6 x_o_page_day)), (14, x_o_page_heights), (15, x_o_page_shapes), (16, x_o_page_highest), (17, x_o_page_marked), (19, x_o_page_reckoner_letters), (20, x_o_page_reckoner_values)]) [(42, (upd (upd (upd (upd (upd (upd (upd (upd (upd (upd (upd (upd (upd (upd (upd (σ 42) 28 m_o_atA) 29 m_o_atB) 30 m_o_atD) 31 m_o_atF) 32 m_o_atG) 33 m_o_atH) 34 m_o_atL) 35 m_o_atM) 36 m_o_atN) 37 m_o_atS) 38 m_o_atT) 39 m_o_atU) 40 m_o_atX) 48 m_o_paperHigh) 49 m_o_paperShape)), (56, m_o_worth), (57, m_o_isRefused), (63, m_o_highAt), (64, m_o_shapeAt), (65, m_o_first), (66, m_o_last), (67, m_o_greatest), (68, m_o_marked)]) G bv) := lclose lq_X12_passed (ks := [42, 56, 57, 63, 64, 65, 66, 67, 68]) rfl (by decide +kernel) rfl hV5
  clear hV4 hV5
  refine lv_pop hx hb dL_law_661 rfl ?_
  refine lv_goto (tgt := 1478) hx hb dL_law_662 (by decide) ?_
  refine W.widen (k := cells + 4) (n := slots + 149) (by omega) (by omega) ?_
  exact T _ _ _ hV6 hl
set_option maxHeartbeats 4000000 in
set_option maxRecDepth 100000 in
theorem lc_11 {p : Program} {l : Launch} {e : Env} {s : State} {m : MethodId} {below : List Frame} {meth : Method} {c : Code} {E : kE} {A : Nat → Prop} {b L : Nat} {xs : Nat → Int32} {Q : State → Prop} {H : Heap} {locs : List Loc} {ls : Array Slot} {ad : Nat → Nat} {σ : Nat → Nat → Int32} {G : kG} {bv : Value} {v y1 y2 y3 y4 y5 : Int32} {cells slots : Nat} (X : kC p s m c code 4 RL #[Value.ref b] E A) (hX : va_X b L xs s s.heap) (hbl : b < s.heap.size) (hbA : ¬ A b) (hV : kV E A s.heap H locs (lWd E ad σ G bv)) (hin : ∀ j : Int32, 0 ≤ j.toInt → j.toInt ≤ 5 → vp_in (v + j) L) (e1 : y1 = xs (v + 1).toNatClampNeg) (e2 : y2 = xs (v + 2).toNatClampNeg) (e3 : y3 = xs (v + 3).toNatClampNeg) (e4 : y4 = xs (v + 4).toNatClampNeg) (e5 : y5 = xs (v + 5).toNatClampNeg) (hc : cells + 4 ≤ 600000) (hs : slots + 149 ≤ 7302250) (hl : lv_has ls 4 [(3, .int v), (2, .ref (ad 42)), (1, .ref (ad 0)), (0, .ref b)]) (rx : Int32) (x_o_notes_many : Int32) (x_o_notes_days : Nat → Int32) (x_o_notes_minutes : Nat → Int32) (x_o_notes_shapes : Nat → Int32) (rm : Int32) (m_o_notes : Int32) (m_o_noteDay : Nat → Int32) (m_o_noteMinute : Nat → Int32) (m_o_noteShape : Nat → Int32) (hfx : f_X11_note (σ 22 4) (σ 23) (σ 24) (σ 25) y1 y2 y3 = some (rx, x_o_notes_many, x_o_notes_days, x_o_notes_minutes, x_o_notes_shapes)) (hfm : f_X12_note (σ 42 4) (σ 69) (σ 70) (σ 71) y1 y2 y3 = some (rm, m_o_notes, m_o_noteDay, m_o_noteMinute, m_o_noteShape)) (T : ∀ (H : Heap) (locs : List Loc) (ls : Array Slot), kV E A s.heap H locs (lWd E ad (lus (lus σ [(22, (upd (σ 22) 4 x_o_notes_many)), (23, x_o_notes_days), (24, x_o_notes_minutes), (25, x_o_notes_shapes)]) [(42, (upd (σ 42) 4 m_o_notes)), (69, m_o_noteDay), (70, m_o_noteMinute), (71, m_o_noteShape)]) G bv) → lv_has ls 4 [(3, .int v), (2, .ref (ad 42)), (1, .ref (ad 0)), (0, .ref b)] → W p l e room_1 s m #[Value.ref b] below meth c H locs (cells + 4) (slots + 149) Q (F0 m 1478 ls [])) : W p l e room_1 s m #[Value.ref b] below meth c H locs cells slots Q (F0 m 665 ls []) := by
  have hx := X.1
  have hb := X.2.1
  refine lv_aload_n hx hb dL_law_665 rfl (lv_at hl 2 rfl) ?_
  refine lv_aload_n hx hb dL_law_666 rfl (lv_at hl 3 rfl) ?_
  refine lv_iload_n hx hb dL_law_667 rfl (lv_at hl 0 rfl) ?_
  refine lv_iconst (v := 1) hx hb dL_law_668 (by decide) ?_
  refine lv_iadd hx hb dL_law_669 ?_
  refine ksld X hX hbl hbA hV (v := y1) (hin 1 (by decide) (by decide)) e1 dL_law_670 ?_
  refine lv_aload_n hx hb dL_law_671 rfl (lv_at hl 3 rfl) ?_
  refine lv_iload_n hx hb dL_law_672 rfl (lv_at hl 0 rfl) ?_
  refine lv_iconst (v := 2) hx hb dL_law_673 (by decide) ?_
  refine lv_iadd hx hb dL_law_674 ?_
  refine ksld X hX hbl hbA hV (v := y2) (hin 2 (by decide) (by decide)) e2 dL_law_675 ?_
  refine lv_aload_n hx hb dL_law_676 rfl (lv_at hl 3 rfl) ?_
  refine lv_iload_n hx hb dL_law_677 rfl (lv_at hl 0 rfl) ?_
  refine lv_iconst (v := 3) hx hb dL_law_678 (by decide) ?_
  refine lv_iadd hx hb dL_law_679 ?_
  refine ksld X hX hbl hbA hV (v := y3) (hin 3 (by decide) (by decide)) e3 dL_law_680 ?_
  have hV1 := lopen lq_X11_note hV
  clear hV
  refine kgoiT (krunV (rest := []) X hV1 (List.range _) (c_X11_note l E _ (ad 0) (ad 22) (ad 23) (ad 24) (ad 25) (.ref (ad 1)) (.ref (ad 3)) (.ref (ad 8)) (.ref (ad 13)) (.ref (ad 21)) (.ref (ad 27)) (.ref (ad 30)) (.ref (ad 38)) (.ref (ad 26)) (σ 22 4) (σ 23) (σ 24) (σ 25) y1 y2 y3 rx x_o_notes_many x_o_notes_days x_o_notes_minutes x_o_notes_shapes hfx) mw_887 kb_X11_note (ci := 11) rfl rfl (kndR _) (krg _ _) rfl hl.1 rfl (Nat.le_of_ble_eq_true rfl) dL_law_681 ⟨rfl, rfl, (by decide), (by decide), (by show cells + 0 + 0 ≤ 600000; omega), (by show slots + 0 + 0 ≤ 7302250; omega)⟩) X hV1 (fun u H locs hV2 => ?_)
  have hV3 : kV E A s.heap H locs (lWd E ad (lus σ [(22, (upd (σ 22) 4 x_o_notes_many)), (23, x_o_notes_days), (24, x_o_notes_minutes), (25, x_o_notes_shapes)]) G bv) := lclose lq_X11_note (ks := [22, 23, 24, 25]) rfl (by decide +kernel) rfl hV2
  clear hV1 hV2
  refine lv_pop hx hb dL_law_684 rfl ?_
  refine lv_aload_n hx hb dL_law_685 rfl (lv_at hl 1 rfl) ?_
  refine lv_aload_n hx hb dL_law_686 rfl (lv_at hl 3 rfl) ?_
  refine lv_iload_n hx hb dL_law_687 rfl (lv_at hl 0 rfl) ?_
  refine lv_iconst (v := 1) hx hb dL_law_688 (by decide) ?_
  refine lv_iadd hx hb dL_law_689 ?_
  refine ksld X hX hbl hbA hV3 (v := y1) (hin 1 (by decide) (by decide)) e1 dL_law_690 ?_
  refine lv_aload_n hx hb dL_law_691 rfl (lv_at hl 3 rfl) ?_
  refine lv_iload_n hx hb dL_law_692 rfl (lv_at hl 0 rfl) ?_
  refine lv_iconst (v := 2) hx hb dL_law_693 (by decide) ?_
  refine lv_iadd hx hb dL_law_694 ?_
  refine ksld X hX hbl hbA hV3 (v := y2) (hin 2 (by decide) (by decide)) e2 dL_law_695 ?_
  refine lv_aload_n hx hb dL_law_696 rfl (lv_at hl 3 rfl) ?_
  refine lv_iload_n hx hb dL_law_697 rfl (lv_at hl 0 rfl) ?_
  refine lv_iconst (v := 3) hx hb dL_law_698 (by decide) ?_
  refine lv_iadd hx hb dL_law_699 ?_
  refine ksld X hX hbl hbA hV3 (v := y3) (hin 3 (by decide) (by decide)) e3 dL_law_700 ?_
  have hV4 := lopen lq_X12_note hV3
  clear hV3
  refine kgoiT (krunV (rest := []) X hV4 (List.range _) (c_X12_note l E _ (ad 42) (ad 69) (ad 70) (ad 71) (.ref (ad 43)) (.int (σ 42 1)) (.int (σ 42 2)) (.int (σ 42 3)) (.int (σ 42 5)) (.int (σ 42 6)) (.ref (ad 44)) (.ref (ad 45)) (.ref (ad 46)) (.ref (ad 47)) (.ref (ad 48)) (.ref (ad 49)) (.ref (ad 50)) (.ref (ad 51)) (.ref (ad 52)) (.ref (ad 53)) (.ref (ad 54)) (.int (σ 42 18)) (.int (σ 42 19)) (.int (σ 42 20)) (.int (σ 42 21)) (.int (σ 42 22)) (.int (σ 42 23)) (.int (σ 42 24)) (.int (σ 42 25)) (.int (σ 42 26)) (.ref (ad 55)) (.int (σ 42 28)) (.int (σ 42 29)) (.int (σ 42 30)) (.int (σ 42 31)) (.int (σ 42 32)) (.int (σ 42 33)) (.int (σ 42 34)) (.int (σ 42 35)) (.int (σ 42 36)) (.int (σ 42 37)) (.int (σ 42 38)) (.int (σ 42 39)) (.int (σ 42 40)) (.ref (ad 56)) (.ref (ad 57)) (.ref (ad 58)) (.ref (ad 59)) (.ref (ad 60)) (.ref (ad 61)) (.ref (ad 62)) (.int (σ 42 48)) (.int (σ 42 49)) (.ref (ad 63)) (.ref (ad 64)) (.ref (ad 65)) (.ref (ad 66)) (.ref (ad 67)) (.ref (ad 68)) (.ref (ad 72)) (.int (σ 42 60)) (.int (σ 42 61)) (.int (σ 42 62)) (.ref (ad 73)) (.ref (ad 74)) (.ref (ad 75)) (.ref (ad 76)) (σ 42 4) (σ 69) (σ 70) (σ 71) y1 y2 y3 rm m_o_notes m_o_noteDay m_o_noteMinute m_o_noteShape hfm) mw_895 kb_X12_note (ci := 12) rfl rfl (kndR _) (krg _ _) rfl hl.1 rfl (Nat.le_of_ble_eq_true rfl) dL_law_701 ⟨rfl, rfl, (by decide), (by decide), (by show cells + 0 + 0 ≤ 600000; omega), (by show slots + 0 + 0 ≤ 7302250; omega)⟩) X hV4 (fun u H locs hV5 => ?_)
  have hV6 : kV E A s.heap H locs (lWd E ad (lus (lus σ [(22, (upd (σ 22) 4 x_o_notes_many)), (23, x_o_notes_days), (24, x_o_notes_minutes), (25, x_o_notes_shapes)]) [(42, (upd (σ 42) 4 m_o_notes)), (69, m_o_noteDay), (70, m_o_noteMinute), (71, m_o_noteShape)]) G bv) := lclose lq_X12_note (ks := [42, 69, 70, 71]) rfl (by decide +kernel) rfl hV5
  clear hV4 hV5
  refine lv_pop hx hb dL_law_704 rfl ?_
  refine lv_goto (tgt := 1478) hx hb dL_law_705 (by decide) ?_
  refine W.widen (k := cells + 4) (n := slots + 149) (by omega) (by omega) ?_
  exact T _ _ _ hV6 hl
set_option maxHeartbeats 4000000 in
set_option maxRecDepth 100000 in
theorem lc_12 {p : Program} {l : Launch} {e : Env} {s : State} {m : MethodId} {below : List Frame} {meth : Method} {c : Code} {E : kE} {A : Nat → Prop} {b L : Nat} {xs : Nat → Int32} {Q : State → Prop} {H : Heap} {locs : List Loc} {ls : Array Slot} {ad : Nat → Nat} {σ : Nat → Nat → Int32} {G : kG} {bv : Value} {v y1 y2 y3 y4 y5 : Int32} {cells slots : Nat} (X : kC p s m c code 4 RL #[Value.ref b] E A) (hX : va_X b L xs s s.heap) (hbl : b < s.heap.size) (hbA : ¬ A b) (hV : kV E A s.heap H locs (lWd E ad σ G bv)) (hin : ∀ j : Int32, 0 ≤ j.toInt → j.toInt ≤ 5 → vp_in (v + j) L) (e1 : y1 = xs (v + 1).toNatClampNeg) (e2 : y2 = xs (v + 2).toNatClampNeg) (e3 : y3 = xs (v + 3).toNatClampNeg) (e4 : y4 = xs (v + 4).toNatClampNeg) (e5 : y5 = xs (v + 5).toNatClampNeg) (hc : cells + 4 ≤ 600000) (hs : slots + 149 ≤ 7302250) (hl : lv_has ls 4 [(3, .int v), (2, .ref (ad 42)), (1, .ref (ad 0)), (0, .ref b)]) (rx : Int32) (x_o_notes_gathered : Nat → Int32) (rm : Int32) (hfx : f_X11_one (σ 22 4) (σ 23) (σ 26) (σ 24) (σ 25) y1 y2 = some (rx, x_o_notes_gathered)) (hfm : f_X12_one (σ 42 4) (σ 69) (σ 70) (σ 71) y1 y2 = some (rm)) (T : ∀ (H : Heap) (locs : List Loc) (ls : Array Slot), kV E A s.heap H locs (lWd E ad (lus (lus σ [(26, x_o_notes_gathered)]) []) G bv) → lv_has ls 4 [(3, .int v), (2, .ref (ad 42)), (1, .ref (ad 0)), (0, .ref b)] → W p l e room_1 s m #[Value.ref b] below meth c H locs (cells + 4) (slots + 149) Q (F0 m 1478 ls [])) : W p l e room_1 s m #[Value.ref b] below meth c H locs cells slots Q (F0 m 708 ls []) := by
  have hx := X.1
  have hb := X.2.1
  refine lv_aload_n hx hb dL_law_708 rfl (lv_at hl 2 rfl) ?_
  refine lv_aload_n hx hb dL_law_709 rfl (lv_at hl 3 rfl) ?_
  refine lv_iload_n hx hb dL_law_710 rfl (lv_at hl 0 rfl) ?_
  refine lv_iconst (v := 1) hx hb dL_law_711 (by decide) ?_
  refine lv_iadd hx hb dL_law_712 ?_
  refine ksld X hX hbl hbA hV (v := y1) (hin 1 (by decide) (by decide)) e1 dL_law_713 ?_
  refine lv_aload_n hx hb dL_law_714 rfl (lv_at hl 3 rfl) ?_
  refine lv_iload_n hx hb dL_law_715 rfl (lv_at hl 0 rfl) ?_
  refine lv_iconst (v := 2) hx hb dL_law_716 (by decide) ?_
  refine lv_iadd hx hb dL_law_717 ?_
  refine ksld X hX hbl hbA hV (v := y2) (hin 2 (by decide) (by decide)) e2 dL_law_718 ?_
  have hV1 := lopen lq_X11_one hV
  clear hV
  refine kgoiT (krunV (rest := []) X hV1 (List.range _) (c_X11_one l E _ (ad 0) (ad 22) (ad 23) (ad 26) (ad 24) (ad 25) (.ref (ad 1)) (.ref (ad 3)) (.ref (ad 8)) (.ref (ad 13)) (.ref (ad 21)) (.ref (ad 27)) (.ref (ad 30)) (.ref (ad 38)) (σ 22 4) (σ 23) (σ 26) (σ 24) (σ 25) y1 y2 rx x_o_notes_gathered hfx) mw_900 kb_X11_one (ci := 11) rfl rfl (kndR _) (krg _ _) rfl hl.1 rfl (Nat.le_of_ble_eq_true rfl) dL_law_719 ⟨rfl, rfl, (by decide), (by decide), (by show cells + 0 + 0 ≤ 600000; omega), (by show slots + 0 + 0 ≤ 7302250; omega)⟩) X hV1 (fun u H locs hV2 => ?_)
  have hV3 : kV E A s.heap H locs (lWd E ad (lus σ [(26, x_o_notes_gathered)]) G bv) := lclose lq_X11_one (ks := [26]) rfl (by decide +kernel) rfl hV2
  clear hV1 hV2
  refine lv_pop hx hb dL_law_722 rfl ?_
  refine lv_aload_n hx hb dL_law_723 rfl (lv_at hl 1 rfl) ?_
  refine lv_aload_n hx hb dL_law_724 rfl (lv_at hl 3 rfl) ?_
  refine lv_iload_n hx hb dL_law_725 rfl (lv_at hl 0 rfl) ?_
  refine lv_iconst (v := 1) hx hb dL_law_726 (by decide) ?_
  refine lv_iadd hx hb dL_law_727 ?_
  refine ksld X hX hbl hbA hV3 (v := y1) (hin 1 (by decide) (by decide)) e1 dL_law_728 ?_
  refine lv_aload_n hx hb dL_law_729 rfl (lv_at hl 3 rfl) ?_
  refine lv_iload_n hx hb dL_law_730 rfl (lv_at hl 0 rfl) ?_
  refine lv_iconst (v := 2) hx hb dL_law_731 (by decide) ?_
  refine lv_iadd hx hb dL_law_732 ?_
  refine ksld X hX hbl hbA hV3 (v := y2) (hin 2 (by decide) (by decide)) e2 dL_law_733 ?_
  have hV4 := lopen lq_X12_one hV3
  clear hV3
  refine kgoiT (krunV (rest := []) X hV4 (List.range _) (c_X12_one l E _ (ad 42) (ad 69) (ad 70) (ad 71) (.ref (ad 43)) (.int (σ 42 1)) (.int (σ 42 2)) (.int (σ 42 3)) (.int (σ 42 5)) (.int (σ 42 6)) (.ref (ad 44)) (.ref (ad 45)) (.ref (ad 46)) (.ref (ad 47)) (.ref (ad 48)) (.ref (ad 49)) (.ref (ad 50)) (.ref (ad 51)) (.ref (ad 52)) (.ref (ad 53)) (.ref (ad 54)) (.int (σ 42 18)) (.int (σ 42 19)) (.int (σ 42 20)) (.int (σ 42 21)) (.int (σ 42 22)) (.int (σ 42 23)) (.int (σ 42 24)) (.int (σ 42 25)) (.int (σ 42 26)) (.ref (ad 55)) (.int (σ 42 28)) (.int (σ 42 29)) (.int (σ 42 30)) (.int (σ 42 31)) (.int (σ 42 32)) (.int (σ 42 33)) (.int (σ 42 34)) (.int (σ 42 35)) (.int (σ 42 36)) (.int (σ 42 37)) (.int (σ 42 38)) (.int (σ 42 39)) (.int (σ 42 40)) (.ref (ad 56)) (.ref (ad 57)) (.ref (ad 58)) (.ref (ad 59)) (.ref (ad 60)) (.ref (ad 61)) (.ref (ad 62)) (.int (σ 42 48)) (.int (σ 42 49)) (.ref (ad 63)) (.ref (ad 64)) (.ref (ad 65)) (.ref (ad 66)) (.ref (ad 67)) (.ref (ad 68)) (.ref (ad 72)) (.int (σ 42 60)) (.int (σ 42 61)) (.int (σ 42 62)) (.ref (ad 73)) (.ref (ad 74)) (.ref (ad 75)) (.ref (ad 76)) (σ 42 4) (σ 69) (σ 70) (σ 71) y1 y2 rm hfm) mw_917 kb_X12_one (ci := 12) rfl rfl (kndR _) (krg _ _) rfl hl.1 rfl (Nat.le_of_ble_eq_true rfl) dL_law_734 ⟨rfl, rfl, (by decide), (by decide), (by show cells + 0 + 0 ≤ 600000; omega), (by show slots + 0 + 0 ≤ 7302250; omega)⟩) X hV4 (fun u H locs hV5 => ?_)
  have hV6 : kV E A s.heap H locs (lWd E ad (lus (lus σ [(26, x_o_notes_gathered)]) []) G bv) := lclose lq_X12_one (ks := []) rfl (by decide +kernel) rfl hV5
  clear hV4 hV5
  refine lv_pop hx hb dL_law_737 rfl ?_
  refine lv_goto (tgt := 1478) hx hb dL_law_738 (by decide) ?_
  refine W.widen (k := cells + 4) (n := slots + 149) (by omega) (by omega) ?_
  exact T _ _ _ hV6 hl
set_option maxHeartbeats 4000000 in
set_option maxRecDepth 100000 in
theorem lc_13 {p : Program} {l : Launch} {e : Env} {s : State} {m : MethodId} {below : List Frame} {meth : Method} {c : Code} {E : kE} {A : Nat → Prop} {b L : Nat} {xs : Nat → Int32} {Q : State → Prop} {H : Heap} {locs : List Loc} {ls : Array Slot} {ad : Nat → Nat} {σ : Nat → Nat → Int32} {G : kG} {bv : Value} {v y1 y2 y3 y4 y5 : Int32} {cells slots : Nat} (X : kC p s m c code 4 RL #[Value.ref b] E A) (hX : va_X b L xs s s.heap) (hbl : b < s.heap.size) (hbA : ¬ A b) (hV : kV E A s.heap H locs (lWd E ad σ G bv)) (hin : ∀ j : Int32, 0 ≤ j.toInt → j.toInt ≤ 5 → vp_in (v + j) L) (e1 : y1 = xs (v + 1).toNatClampNeg) (e2 : y2 = xs (v + 2).toNatClampNeg) (e3 : y3 = xs (v + 3).toNatClampNeg) (e4 : y4 = xs (v + 4).toNatClampNeg) (e5 : y5 = xs (v + 5).toNatClampNeg) (hc : cells + 4 ≤ 600000) (hs : slots + 149 ≤ 7302250) (hl : lv_has ls 4 [(3, .int v), (2, .ref (ad 42)), (1, .ref (ad 0)), (0, .ref b)]) (rx : Int32) (x_o_notes_gathered : Nat → Int32) (rm : Int32) (hfx : f_X11_known (σ 22 4) (σ 23) (σ 26) (σ 24) (σ 25) y1 y2 = some (rx, x_o_notes_gathered)) (hfm : f_X12_known (σ 42 4) (σ 69) (σ 70) (σ 71) y1 y2 = some (rm)) (T : ∀ (H : Heap) (locs : List Loc) (ls : Array Slot), kV E A s.heap H locs (lWd E ad (lus (lus σ [(26, x_o_notes_gathered)]) []) G bv) → lv_has ls 4 [(3, .int v), (2, .ref (ad 42)), (1, .ref (ad 0)), (0, .ref b)] → W p l e room_1 s m #[Value.ref b] below meth c H locs (cells + 4) (slots + 149) Q (F0 m 1478 ls [])) : W p l e room_1 s m #[Value.ref b] below meth c H locs cells slots Q (F0 m 741 ls []) := by
  have hx := X.1
  have hb := X.2.1
  refine lv_aload_n hx hb dL_law_741 rfl (lv_at hl 2 rfl) ?_
  refine lv_aload_n hx hb dL_law_742 rfl (lv_at hl 3 rfl) ?_
  refine lv_iload_n hx hb dL_law_743 rfl (lv_at hl 0 rfl) ?_
  refine lv_iconst (v := 1) hx hb dL_law_744 (by decide) ?_
  refine lv_iadd hx hb dL_law_745 ?_
  refine ksld X hX hbl hbA hV (v := y1) (hin 1 (by decide) (by decide)) e1 dL_law_746 ?_
  refine lv_aload_n hx hb dL_law_747 rfl (lv_at hl 3 rfl) ?_
  refine lv_iload_n hx hb dL_law_748 rfl (lv_at hl 0 rfl) ?_
  refine lv_iconst (v := 2) hx hb dL_law_749 (by decide) ?_
  refine lv_iadd hx hb dL_law_750 ?_
  refine ksld X hX hbl hbA hV (v := y2) (hin 2 (by decide) (by decide)) e2 dL_law_751 ?_
  have hV1 := lopen lq_X11_known hV
  clear hV
  refine kgoiT (krunV (rest := []) X hV1 (List.range _) (c_X11_known l E _ (ad 0) (ad 22) (ad 23) (ad 26) (ad 24) (ad 25) (.ref (ad 1)) (.ref (ad 3)) (.ref (ad 8)) (.ref (ad 13)) (.ref (ad 21)) (.ref (ad 27)) (.ref (ad 30)) (.ref (ad 38)) (σ 22 4) (σ 23) (σ 26) (σ 24) (σ 25) y1 y2 rx x_o_notes_gathered hfx) mw_948 kb_X11_known (ci := 11) rfl rfl (kndR _) (krg _ _) rfl hl.1 rfl (Nat.le_of_ble_eq_true rfl) dL_law_752 ⟨rfl, rfl, (by decide), (by decide), (by show cells + 0 + 0 ≤ 600000; omega), (by show slots + 0 + 0 ≤ 7302250; omega)⟩) X hV1 (fun u H locs hV2 => ?_)
  have hV3 : kV E A s.heap H locs (lWd E ad (lus σ [(26, x_o_notes_gathered)]) G bv) := lclose lq_X11_known (ks := [26]) rfl (by decide +kernel) rfl hV2
  clear hV1 hV2
  refine lv_pop hx hb dL_law_755 rfl ?_
  refine lv_aload_n hx hb dL_law_756 rfl (lv_at hl 1 rfl) ?_
  refine lv_aload_n hx hb dL_law_757 rfl (lv_at hl 3 rfl) ?_
  refine lv_iload_n hx hb dL_law_758 rfl (lv_at hl 0 rfl) ?_
  refine lv_iconst (v := 1) hx hb dL_law_759 (by decide) ?_
  refine lv_iadd hx hb dL_law_760 ?_
  refine ksld X hX hbl hbA hV3 (v := y1) (hin 1 (by decide) (by decide)) e1 dL_law_761 ?_
  refine lv_aload_n hx hb dL_law_762 rfl (lv_at hl 3 rfl) ?_
  refine lv_iload_n hx hb dL_law_763 rfl (lv_at hl 0 rfl) ?_
  refine lv_iconst (v := 2) hx hb dL_law_764 (by decide) ?_
  refine lv_iadd hx hb dL_law_765 ?_
  refine ksld X hX hbl hbA hV3 (v := y2) (hin 2 (by decide) (by decide)) e2 dL_law_766 ?_
  have hV4 := lopen lq_X12_known hV3
  clear hV3
  refine kgoiT (krunV (rest := []) X hV4 (List.range _) (c_X12_known l E _ (ad 42) (ad 69) (ad 70) (ad 71) (.ref (ad 43)) (.int (σ 42 1)) (.int (σ 42 2)) (.int (σ 42 3)) (.int (σ 42 5)) (.int (σ 42 6)) (.ref (ad 44)) (.ref (ad 45)) (.ref (ad 46)) (.ref (ad 47)) (.ref (ad 48)) (.ref (ad 49)) (.ref (ad 50)) (.ref (ad 51)) (.ref (ad 52)) (.ref (ad 53)) (.ref (ad 54)) (.int (σ 42 18)) (.int (σ 42 19)) (.int (σ 42 20)) (.int (σ 42 21)) (.int (σ 42 22)) (.int (σ 42 23)) (.int (σ 42 24)) (.int (σ 42 25)) (.int (σ 42 26)) (.ref (ad 55)) (.int (σ 42 28)) (.int (σ 42 29)) (.int (σ 42 30)) (.int (σ 42 31)) (.int (σ 42 32)) (.int (σ 42 33)) (.int (σ 42 34)) (.int (σ 42 35)) (.int (σ 42 36)) (.int (σ 42 37)) (.int (σ 42 38)) (.int (σ 42 39)) (.int (σ 42 40)) (.ref (ad 56)) (.ref (ad 57)) (.ref (ad 58)) (.ref (ad 59)) (.ref (ad 60)) (.ref (ad 61)) (.ref (ad 62)) (.int (σ 42 48)) (.int (σ 42 49)) (.ref (ad 63)) (.ref (ad 64)) (.ref (ad 65)) (.ref (ad 66)) (.ref (ad 67)) (.ref (ad 68)) (.ref (ad 72)) (.int (σ 42 60)) (.int (σ 42 61)) (.int (σ 42 62)) (.ref (ad 73)) (.ref (ad 74)) (.ref (ad 75)) (.ref (ad 76)) (σ 42 4) (σ 69) (σ 70) (σ 71) y1 y2 rm hfm) mw_957 kb_X12_known (ci := 12) rfl rfl (kndR _) (krg _ _) rfl hl.1 rfl (Nat.le_of_ble_eq_true rfl) dL_law_767 ⟨rfl, rfl, (by decide), (by decide), (by show cells + 0 + 0 ≤ 600000; omega), (by show slots + 0 + 0 ≤ 7302250; omega)⟩) X hV4 (fun u H locs hV5 => ?_)
  have hV6 : kV E A s.heap H locs (lWd E ad (lus (lus σ [(26, x_o_notes_gathered)]) []) G bv) := lclose lq_X12_known (ks := []) rfl (by decide +kernel) rfl hV5
  clear hV4 hV5
  refine lv_pop hx hb dL_law_770 rfl ?_
  refine lv_goto (tgt := 1478) hx hb dL_law_771 (by decide) ?_
  refine W.widen (k := cells + 4) (n := slots + 149) (by omega) (by omega) ?_
  exact T _ _ _ hV6 hl
set_option maxHeartbeats 4000000 in
set_option maxRecDepth 100000 in
theorem lc_14 {p : Program} {l : Launch} {e : Env} {s : State} {m : MethodId} {below : List Frame} {meth : Method} {c : Code} {E : kE} {A : Nat → Prop} {b L : Nat} {xs : Nat → Int32} {Q : State → Prop} {H : Heap} {locs : List Loc} {ls : Array Slot} {ad : Nat → Nat} {σ : Nat → Nat → Int32} {G : kG} {bv : Value} {v y1 y2 y3 y4 y5 : Int32} {cells slots : Nat} (X : kC p s m c code 4 RL #[Value.ref b] E A) (hX : va_X b L xs s s.heap) (hbl : b < s.heap.size) (hbA : ¬ A b) (hV : kV E A s.heap H locs (lWd E ad σ G bv)) (hin : ∀ j : Int32, 0 ≤ j.toInt → j.toInt ≤ 5 → vp_in (v + j) L) (e1 : y1 = xs (v + 1).toNatClampNeg) (e2 : y2 = xs (v + 2).toNatClampNeg) (e3 : y3 = xs (v + 3).toNatClampNeg) (e4 : y4 = xs (v + 4).toNatClampNeg) (e5 : y5 = xs (v + 5).toNatClampNeg) (hc : cells + 4 ≤ 600000) (hs : slots + 149 ≤ 7302250) (hl : lv_has ls 4 [(3, .int v), (2, .ref (ad 42)), (1, .ref (ad 0)), (0, .ref b)]) (rx : Int32) (x_o_notes_gathered : Nat → Int32) (rm : Int32) (hfx : f_X11_row (σ 22 4) (σ 23) (σ 26) (σ 24) (σ 25) y1 y2 y3 = some (rx, x_o_notes_gathered)) (hfm : f_X12_row (σ 42 4) (σ 69) (σ 70) (σ 71) y1 y2 y3 = some (rm)) (T : ∀ (H : Heap) (locs : List Loc) (ls : Array Slot), kV E A s.heap H locs (lWd E ad (lus (lus σ [(26, x_o_notes_gathered)]) []) G bv) → lv_has ls 4 [(3, .int v), (2, .ref (ad 42)), (1, .ref (ad 0)), (0, .ref b)] → W p l e room_1 s m #[Value.ref b] below meth c H locs (cells + 4) (slots + 149) Q (F0 m 1478 ls [])) : W p l e room_1 s m #[Value.ref b] below meth c H locs cells slots Q (F0 m 774 ls []) := by
  have hx := X.1
  have hb := X.2.1
  refine lv_aload_n hx hb dL_law_774 rfl (lv_at hl 2 rfl) ?_
  refine lv_aload_n hx hb dL_law_775 rfl (lv_at hl 3 rfl) ?_
  refine lv_iload_n hx hb dL_law_776 rfl (lv_at hl 0 rfl) ?_
  refine lv_iconst (v := 1) hx hb dL_law_777 (by decide) ?_
  refine lv_iadd hx hb dL_law_778 ?_
  refine ksld X hX hbl hbA hV (v := y1) (hin 1 (by decide) (by decide)) e1 dL_law_779 ?_
  refine lv_aload_n hx hb dL_law_780 rfl (lv_at hl 3 rfl) ?_
  refine lv_iload_n hx hb dL_law_781 rfl (lv_at hl 0 rfl) ?_
  refine lv_iconst (v := 2) hx hb dL_law_782 (by decide) ?_
  refine lv_iadd hx hb dL_law_783 ?_
  refine ksld X hX hbl hbA hV (v := y2) (hin 2 (by decide) (by decide)) e2 dL_law_784 ?_
  refine lv_aload_n hx hb dL_law_785 rfl (lv_at hl 3 rfl) ?_
  refine lv_iload_n hx hb dL_law_786 rfl (lv_at hl 0 rfl) ?_
  refine lv_iconst (v := 3) hx hb dL_law_787 (by decide) ?_
  refine lv_iadd hx hb dL_law_788 ?_
  refine ksld X hX hbl hbA hV (v := y3) (hin 3 (by decide) (by decide)) e3 dL_law_789 ?_
  have hV1 := lopen lq_X11_row hV
  clear hV
  refine kgoiT (krunV (rest := []) X hV1 (List.range _) (c_X11_row l E _ (ad 0) (ad 22) (ad 23) (ad 26) (ad 24) (ad 25) (.ref (ad 1)) (.ref (ad 3)) (.ref (ad 8)) (.ref (ad 13)) (.ref (ad 21)) (.ref (ad 27)) (.ref (ad 30)) (.ref (ad 38)) (σ 22 4) (σ 23) (σ 26) (σ 24) (σ 25) y1 y2 y3 rx x_o_notes_gathered hfx) mw_961 kb_X11_row (ci := 11) rfl rfl (kndR _) (krg _ _) rfl hl.1 rfl (Nat.le_of_ble_eq_true rfl) dL_law_790 ⟨rfl, rfl, (by decide), (by decide), (by show cells + 0 + 0 ≤ 600000; omega), (by show slots + 0 + 0 ≤ 7302250; omega)⟩) X hV1 (fun u H locs hV2 => ?_)
  have hV3 : kV E A s.heap H locs (lWd E ad (lus σ [(26, x_o_notes_gathered)]) G bv) := lclose lq_X11_row (ks := [26]) rfl (by decide +kernel) rfl hV2
  clear hV1 hV2
  refine lv_pop hx hb dL_law_793 rfl ?_
  refine lv_aload_n hx hb dL_law_794 rfl (lv_at hl 1 rfl) ?_
  refine lv_aload_n hx hb dL_law_795 rfl (lv_at hl 3 rfl) ?_
  refine lv_iload_n hx hb dL_law_796 rfl (lv_at hl 0 rfl) ?_
  refine lv_iconst (v := 1) hx hb dL_law_797 (by decide) ?_
  refine lv_iadd hx hb dL_law_798 ?_
  refine ksld X hX hbl hbA hV3 (v := y1) (hin 1 (by decide) (by decide)) e1 dL_law_799 ?_
  refine lv_aload_n hx hb dL_law_800 rfl (lv_at hl 3 rfl) ?_
  refine lv_iload_n hx hb dL_law_801 rfl (lv_at hl 0 rfl) ?_
  refine lv_iconst (v := 2) hx hb dL_law_802 (by decide) ?_
  refine lv_iadd hx hb dL_law_803 ?_
  refine ksld X hX hbl hbA hV3 (v := y2) (hin 2 (by decide) (by decide)) e2 dL_law_804 ?_
  refine lv_aload_n hx hb dL_law_805 rfl (lv_at hl 3 rfl) ?_
  refine lv_iload_n hx hb dL_law_806 rfl (lv_at hl 0 rfl) ?_
  refine lv_iconst (v := 3) hx hb dL_law_807 (by decide) ?_
  refine lv_iadd hx hb dL_law_808 ?_
  refine ksld X hX hbl hbA hV3 (v := y3) (hin 3 (by decide) (by decide)) e3 dL_law_809 ?_
  have hV4 := lopen lq_X12_row hV3
  clear hV3
  refine kgoiT (krunV (rest := []) X hV4 (List.range _) (c_X12_row l E _ (ad 42) (ad 69) (ad 70) (ad 71) (.ref (ad 43)) (.int (σ 42 1)) (.int (σ 42 2)) (.int (σ 42 3)) (.int (σ 42 5)) (.int (σ 42 6)) (.ref (ad 44)) (.ref (ad 45)) (.ref (ad 46)) (.ref (ad 47)) (.ref (ad 48)) (.ref (ad 49)) (.ref (ad 50)) (.ref (ad 51)) (.ref (ad 52)) (.ref (ad 53)) (.ref (ad 54)) (.int (σ 42 18)) (.int (σ 42 19)) (.int (σ 42 20)) (.int (σ 42 21)) (.int (σ 42 22)) (.int (σ 42 23)) (.int (σ 42 24)) (.int (σ 42 25)) (.int (σ 42 26)) (.ref (ad 55)) (.int (σ 42 28)) (.int (σ 42 29)) (.int (σ 42 30)) (.int (σ 42 31)) (.int (σ 42 32)) (.int (σ 42 33)) (.int (σ 42 34)) (.int (σ 42 35)) (.int (σ 42 36)) (.int (σ 42 37)) (.int (σ 42 38)) (.int (σ 42 39)) (.int (σ 42 40)) (.ref (ad 56)) (.ref (ad 57)) (.ref (ad 58)) (.ref (ad 59)) (.ref (ad 60)) (.ref (ad 61)) (.ref (ad 62)) (.int (σ 42 48)) (.int (σ 42 49)) (.ref (ad 63)) (.ref (ad 64)) (.ref (ad 65)) (.ref (ad 66)) (.ref (ad 67)) (.ref (ad 68)) (.ref (ad 72)) (.int (σ 42 60)) (.int (σ 42 61)) (.int (σ 42 62)) (.ref (ad 73)) (.ref (ad 74)) (.ref (ad 75)) (.ref (ad 76)) (σ 42 4) (σ 69) (σ 70) (σ 71) y1 y2 y3 rm hfm) mw_974 kb_X12_row (ci := 12) rfl rfl (kndR _) (krg _ _) rfl hl.1 rfl (Nat.le_of_ble_eq_true rfl) dL_law_810 ⟨rfl, rfl, (by decide), (by decide), (by show cells + 0 + 0 ≤ 600000; omega), (by show slots + 0 + 0 ≤ 7302250; omega)⟩) X hV4 (fun u H locs hV5 => ?_)
  have hV6 : kV E A s.heap H locs (lWd E ad (lus (lus σ [(26, x_o_notes_gathered)]) []) G bv) := lclose lq_X12_row (ks := []) rfl (by decide +kernel) rfl hV5
  clear hV4 hV5
  refine lv_pop hx hb dL_law_813 rfl ?_
  refine lv_goto (tgt := 1478) hx hb dL_law_814 (by decide) ?_
  refine W.widen (k := cells + 4) (n := slots + 149) (by omega) (by omega) ?_
  exact T _ _ _ hV6 hl
set_option maxHeartbeats 4000000 in
set_option maxRecDepth 100000 in
theorem lc_15 {p : Program} {l : Launch} {e : Env} {s : State} {m : MethodId} {below : List Frame} {meth : Method} {c : Code} {E : kE} {A : Nat → Prop} {b L : Nat} {xs : Nat → Int32} {Q : State → Prop} {H : Heap} {locs : List Loc} {ls : Array Slot} {ad : Nat → Nat} {σ : Nat → Nat → Int32} {G : kG} {bv : Value} {v y1 y2 y3 y4 y5 : Int32} {cells slots : Nat} (X : kC p s m c code 4 RL #[Value.ref b] E A) (hX : va_X b L xs s s.heap) (hbl : b < s.heap.size) (hbA : ¬ A b) (hV : kV E A s.heap H locs (lWd E ad σ G bv)) (hin : ∀ j : Int32, 0 ≤ j.toInt → j.toInt ≤ 5 → vp_in (v + j) L) (e1 : y1 = xs (v + 1).toNatClampNeg) (e2 : y2 = xs (v + 2).toNatClampNeg) (e3 : y3 = xs (v + 3).toNatClampNeg) (e4 : y4 = xs (v + 4).toNatClampNeg) (e5 : y5 = xs (v + 5).toNatClampNeg) (hc : cells + 4 ≤ 600000) (hs : slots + 149 ≤ 7302250) (hl : lv_has ls 4 [(3, .int v), (2, .ref (ad 42)), (1, .ref (ad 0)), (0, .ref b)]) (rx : Int32) (x_o_blips_many : Int32) (x_o_blips_times : Nat → Int32) (rm : Int32) (m_o_blips : Int32) (m_o_time : Nat → Int32) (hfx : f_X11_blip (σ 27 2) (σ 28) y1 = some (rx, x_o_blips_many, x_o_blips_times)) (hfm : f_X12_blip (σ 42 5) (σ 72) y1 = some (rm, m_o_blips, m_o_time)) (T : ∀ (H : Heap) (locs : List Loc) (ls : Array Slot), kV E A s.heap H locs (lWd E ad (lus (lus σ [(27, (upd (σ 27) 2 x_o_blips_many)), (28, x_o_blips_times)]) [(42, (upd (σ 42) 5 m_o_blips)), (72, m_o_time)]) G bv) → lv_has ls 4 [(3, .int v), (2, .ref (ad 42)), (1, .ref (ad 0)), (0, .ref b)] → W p l e room_1 s m #[Value.ref b] below meth c H locs (cells + 4) (slots + 149) Q (F0 m 1478 ls [])) : W p l e room_1 s m #[Value.ref b] below meth c H locs cells slots Q (F0 m 817 ls []) := by
  have hx := X.1
  have hb := X.2.1
  refine lv_aload_n hx hb dL_law_817 rfl (lv_at hl 2 rfl) ?_
  refine lv_aload_n hx hb dL_law_818 rfl (lv_at hl 3 rfl) ?_
  refine lv_iload_n hx hb dL_law_819 rfl (lv_at hl 0 rfl) ?_
  refine lv_iconst (v := 1) hx hb dL_law_820 (by decide) ?_
  refine lv_iadd hx hb dL_law_821 ?_
  refine ksld X hX hbl hbA hV (v := y1) (hin 1 (by decide) (by decide)) e1 dL_law_822 ?_
  have hV1 := lopen lq_X11_blip hV
  clear hV
  refine kgoiT (krunV (rest := []) X hV1 (List.range _) (c_X11_blip l E _ (ad 0) (ad 27) (ad 28) (.ref (ad 1)) (.ref (ad 3)) (.ref (ad 8)) (.ref (ad 13)) (.ref (ad 21)) (.ref (ad 22)) (.ref (ad 30)) (.ref (ad 38)) (.ref (ad 29)) (.int (σ 27 3)) (.int (σ 27 4)) (.int (σ 27 5)) (σ 27 2) (σ 28) y1 rx x_o_blips_many x_o_blips_times hfx) mw_978 kb_X11_blip (ci := 11) rfl rfl (kndR _) (krg _ _) rfl hl.1 rfl (Nat.le_of_ble_eq_true rfl) dL_law_823 ⟨rfl, rfl, (by decide), (by decide), (by show cells + 0 + 0 ≤ 600000; omega), (by show slots + 0 + 0 ≤ 7302250; omega)⟩) X hV1 (fun u H locs hV2 => ?_)
  have hV3 : kV E A s.heap H locs (lWd E ad (lus σ [(27, (upd (σ 27) 2 x_o_blips_many)), (28, x_o_blips_times)]) G bv) := lclose lq_X11_blip (ks := [27, 28]) rfl (by decide +kernel) rfl hV2
  clear hV1 hV2
  refine lv_pop hx hb dL_law_826 rfl ?_
  refine lv_aload_n hx hb dL_law_827 rfl (lv_at hl 1 rfl) ?_
  refine lv_aload_n hx hb dL_law_828 rfl (lv_at hl 3 rfl) ?_
  refine lv_iload_n hx hb dL_law_829 rfl (lv_at hl 0 rfl) ?_
  refine lv_iconst (v := 1) hx hb dL_law_830 (by decide) ?_
  refine lv_iadd hx hb dL_law_831 ?_
  refine ksld X hX hbl hbA hV3 (v := y1) (hin 1 (by decide) (by decide)) e1 dL_law_832 ?_
  have hV4 := lopen lq_X12_blip hV3
  clear hV3
  refine kgoiT (krunV (rest := []) X hV4 (List.range _) (c_X12_blip l E _ (ad 42) (ad 72) (.ref (ad 43)) (.int (σ 42 1)) (.int (σ 42 2)) (.int (σ 42 3)) (.int (σ 42 4)) (.int (σ 42 6)) (.ref (ad 44)) (.ref (ad 45)) (.ref (ad 46)) (.ref (ad 47)) (.ref (ad 48)) (.ref (ad 49)) (.ref (ad 50)) (.ref (ad 51)) (.ref (ad 52)) (.ref (ad 53)) (.ref (ad 54)) (.int (σ 42 18)) (.int (σ 42 19)) (.int (σ 42 20)) (.int (σ 42 21)) (.int (σ 42 22)) (.int (σ 42 23)) (.int (σ 42 24)) (.int (σ 42 25)) (.int (σ 42 26)) (.ref (ad 55)) (.int (σ 42 28)) (.int (σ 42 29)) (.int (σ 42 30)) (.int (σ 42 31)) (.int (σ 42 32)) (.int (σ 42 33)) (.int (σ 42 34)) (.int (σ 42 35)) (.int (σ 42 36)) (.int (σ 42 37)) (.int (σ 42 38)) (.int (σ 42 39)) (.int (σ 42 40)) (.ref (ad 56)) (.ref (ad 57)) (.ref (ad 58)) (.ref (ad 59)) (.ref (ad 60)) (.ref (ad 61)) (.ref (ad 62)) (.int (σ 42 48)) (.int (σ 42 49)) (.ref (ad 63)) (.ref (ad 64)) (.ref (ad 65)) (.ref (ad 66)) (.ref (ad 67)) (.ref (ad 68)) (.ref (ad 69)) (.ref (ad 70)) (.ref (ad 71)) (.int (σ 42 60)) (.int (σ 42 61)) (.int (σ 42 62)) (.ref (ad 73)) (.ref (ad 74)) (.ref (ad 75)) (.ref (ad 76)) (σ 42 5) (σ 72) y1 rm m_o_blips m_o_time hfm) mw_987 kb_X12_blip (ci := 12) rfl rfl (kndR _) (krg _ _) rfl hl.1 rfl (Nat.le_of_ble_eq_true rfl) dL_law_833 ⟨rfl, rfl, (by decide), (by decide), (by show cells + 0 + 0 ≤ 600000; omega), (by show slots + 0 + 0 ≤ 7302250; omega)⟩) X hV4 (fun u H locs hV5 => ?_)
  have hV6 : kV E A s.heap H locs (lWd E ad (lus (lus σ [(27, (upd (σ 27) 2 x_o_blips_many)), (28, x_o_blips_times)]) [(42, (upd (σ 42) 5 m_o_blips)), (72, m_o_time)]) G bv) := lclose lq_X12_blip (ks := [42, 72]) rfl (by decide +kernel) rfl hV5
  clear hV4 hV5
  refine lv_pop hx hb dL_law_836 rfl ?_
  refine lv_goto (tgt := 1478) hx hb dL_law_837 (by decide) ?_
  refine W.widen (k := cells + 4) (n := slots + 149) (by omega) (by omega) ?_
  exact T _ _ _ hV6 hl
