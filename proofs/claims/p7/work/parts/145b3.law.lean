set_option maxHeartbeats 4000000 in
set_option maxRecDepth 100000 in
theorem lc_24 {p : Program} {l : Launch} {e : Env} {s : State} {m : MethodId} {below : List Frame} {meth : Method} {c : Code} {E : kE} {A : Nat → Prop} {b L : Nat} {xs : Nat → Int32} {Q : State → Prop} {H : Heap} {locs : List Loc} {ls : Array Slot} {ad : Nat → Nat} {σ : Nat → Nat → Int32} {G : kG} {bv : Value} {v y1 y2 y3 y4 y5 : Int32} {cells slots : Nat} (X : kC p s m c code 4 RL #[Value.ref b] E A) (hX : va_X b L xs s s.heap) (hbl : b < s.heap.size) (hbA : ¬ A b) (hV : kV E A s.heap H locs (lWd E ad σ G bv)) (hin : ∀ j : Int32, 0 ≤ j.toInt → j.toInt ≤ 5 → vp_in (v + j) L) (e1 : y1 = xs (v + 1).toNatClampNeg) (e2 : y2 = xs (v + 2).toNatClampNeg) (e3 : y3 = xs (v + 3).toNatClampNeg) (e4 : y4 = xs (v + 4).toNatClampNeg) (e5 : y5 = xs (v + 5).toNatClampNeg) (hc : cells + 4 ≤ 600000) (hs : slots + 149 ≤ 7302250) (hl : lv_has ls 4 [(3, .int v), (2, .ref (ad 42)), (1, .ref (ad 0)), (0, .ref b)]) (rx : Int32) (x_o_nights_fallen : Nat → Int32) (x_o_nights_reckoner_letters : Nat → Int32) (x_o_nights_reckoner_values : Nat → Int32) (rm : Int32) (m_o_atA : Int32) (m_o_atB : Int32) (m_o_atD : Int32) (m_o_atF : Int32) (m_o_atG : Int32) (m_o_atH : Int32) (m_o_atL : Int32) (m_o_atM : Int32) (m_o_atN : Int32) (m_o_atS : Int32) (m_o_atT : Int32) (m_o_atU : Int32) (m_o_atX : Int32) (m_o_isRefused : Nat → Int32) (m_o_worth : Nat → Int32) (hfx : f_X11_told G (σ 30 5) (σ 31) (σ 33) (σ 32) (σ 35) (σ 36) y1 y2 = some (rx, x_o_nights_fallen, x_o_nights_reckoner_letters, x_o_nights_reckoner_values)) (hfm : f_X12_told (σ 42 6) (σ 42 28) (σ 42 29) (σ 42 30) (σ 42 31) (σ 42 32) (σ 42 33) (σ 42 34) (σ 42 35) (σ 42 36) (σ 42 37) (σ 42 38) (σ 42 39) (σ 42 40) (σ 48) (σ 49) (σ 46) (σ 74) (σ 57) (σ 44) (σ 73) (σ 45) (σ 56) y1 y2 = some (rm, m_o_atA, m_o_atB, m_o_atD, m_o_atF, m_o_atG, m_o_atH, m_o_atL, m_o_atM, m_o_atN, m_o_atS, m_o_atT, m_o_atU, m_o_atX, m_o_isRefused, m_o_worth)) (T : ∀ (H : Heap) (locs : List Loc) (ls : Array Slot), kV E A s.heap H locs (lWd E ad (lus (lus σ [(33, x_o_nights_fallen), (35, x_o_nights_reckoner_letters), (36, x_o_nights_reckoner_values)]) [(42, (upd (upd (upd (upd (upd (upd (upd (upd (upd (upd (upd (upd (upd (σ 42) 28 m_o_atA) 29 m_o_atB) 30 m_o_atD) 31 m_o_atF) 32 m_o_atG) 33 m_o_atH) 34 m_o_atL) 35 m_o_atM) 36 m_o_atN) 37 m_o_atS) 38 m_o_atT) 39 m_o_atU) 40 m_o_atX)), (56, m_o_worth), (57, m_o_isRefused)]) G bv) → lv_has ls 4 [(3, .int v), (2, .ref (ad 42)), (1, .ref (ad 0)), (0, .ref b)] → W p l e room_1 s m #[Value.ref b] below meth c H locs (cells + 4) (slots + 149) Q (F0 m 1478 ls [])) : W p l e room_1 s m #[Value.ref b] below meth c H locs cells slots Q (F0 m 1144 ls []) := by
  have hx := X.1
  have hb := X.2.1
  refine lv_aload_n hx hb dL_law_1144 rfl (lv_at hl 2 rfl) ?_
  refine lv_aload_n hx hb dL_law_1145 rfl (lv_at hl 3 rfl) ?_
  refine lv_iload_n hx hb dL_law_1146 rfl (lv_at hl 0 rfl) ?_
  refine lv_iconst (v := 1) hx hb dL_law_1147 (by decide) ?_
  refine lv_iadd hx hb dL_law_1148 ?_
  refine ksld X hX hbl hbA hV (v := y1) (hin 1 (by decide) (by decide)) e1 dL_law_1149 ?_
  refine lv_aload_n hx hb dL_law_1150 rfl (lv_at hl 3 rfl) ?_
  refine lv_iload_n hx hb dL_law_1151 rfl (lv_at hl 0 rfl) ?_
  refine lv_iconst (v := 2) hx hb dL_law_1152 (by decide) ?_
  refine lv_iadd hx hb dL_law_1153 ?_
  refine ksld X hX hbl hbA hV (v := y2) (hin 2 (by decide) (by decide)) e2 dL_law_1154 ?_
  have hV1 := lopenP lq_X11_told hV
  clear hV
  refine kgoiP (krunV (rest := []) X hV1 (List.range _) (c_X11_told l E _ (ad 0) (ad 30) (ad 31) (ad 33) (ad 34) (ad 32) (ad 37) (ad 35) (ad 36) (.ref (ad 1)) (.ref (ad 3)) (.ref (ad 8)) (.ref (ad 13)) (.ref (ad 21)) (.ref (ad 22)) (.ref (ad 27)) (.ref (ad 38)) G (σ 30 5) (σ 31) (σ 33) (σ 32) (σ 35) (σ 36) y1 y2 rx x_o_nights_fallen x_o_nights_reckoner_letters x_o_nights_reckoner_values hfx) mw_1168 kb_X11_told (ci := 11) rfl rfl (kndR _) (krg _ _) rfl hl.1 rfl (Nat.le_of_ble_eq_true rfl) dL_law_1155 ⟨rfl, rfl, (by decide), (by decide), (by show cells + 0 + 0 ≤ 600000; omega), (by show slots + 0 + 0 ≤ 7302250; omega)⟩) X hV1 (fun u H locs hV2 => ?_)
  have hV3 : kV E A s.heap H locs (lWd E ad (lus σ [(33, x_o_nights_fallen), (35, x_o_nights_reckoner_letters), (36, x_o_nights_reckoner_values)]) G bv) := lcloseP lq_X11_told (ks := [33, 35, 36]) rfl (by decide +kernel) rfl hV2
  clear hV1 hV2
  refine lv_pop hx hb dL_law_1158 rfl ?_
  refine lv_aload_n hx hb dL_law_1159 rfl (lv_at hl 1 rfl) ?_
  refine lv_aload_n hx hb dL_law_1160 rfl (lv_at hl 3 rfl) ?_
  refine lv_iload_n hx hb dL_law_1161 rfl (lv_at hl 0 rfl) ?_
  refine lv_iconst (v := 1) hx hb dL_law_1162 (by decide) ?_
  refine lv_iadd hx hb dL_law_1163 ?_
  refine ksld X hX hbl hbA hV3 (v := y1) (hin 1 (by decide) (by decide)) e1 dL_law_1164 ?_
  refine lv_aload_n hx hb dL_law_1165 rfl (lv_at hl 3 rfl) ?_
  refine lv_iload_n hx hb dL_law_1166 rfl (lv_at hl 0 rfl) ?_
  refine lv_iconst (v := 2) hx hb dL_law_1167 (by decide) ?_
  refine lv_iadd hx hb dL_law_1168 ?_
  refine ksld X hX hbl hbA hV3 (v := y2) (hin 2 (by decide) (by decide)) e2 dL_law_1169 ?_
  have hV4 := lopen lq_X12_told hV3
  clear hV3
  refine kgoiT (krunV (rest := []) X hV4 (List.range _) (c_X12_told l E _ (ad 42) (ad 48) (ad 49) (ad 46) (ad 74) (ad 57) (ad 44) (ad 73) (ad 45) (ad 56) (.ref (ad 43)) (.int (σ 42 1)) (.int (σ 42 2)) (.int (σ 42 3)) (.int (σ 42 4)) (.int (σ 42 5)) (.ref (ad 47)) (.ref (ad 50)) (.ref (ad 51)) (.ref (ad 52)) (.ref (ad 53)) (.ref (ad 54)) (.int (σ 42 18)) (.int (σ 42 19)) (.int (σ 42 20)) (.int (σ 42 21)) (.int (σ 42 22)) (.int (σ 42 23)) (.int (σ 42 24)) (.int (σ 42 25)) (.int (σ 42 26)) (.ref (ad 55)) (.ref (ad 58)) (.ref (ad 59)) (.ref (ad 60)) (.ref (ad 61)) (.ref (ad 62)) (.int (σ 42 48)) (.int (σ 42 49)) (.ref (ad 63)) (.ref (ad 64)) (.ref (ad 65)) (.ref (ad 66)) (.ref (ad 67)) (.ref (ad 68)) (.ref (ad 69)) (.ref (ad 70)) (.ref (ad 71)) (.ref (ad 72)) (.int (σ 42 60)) (.int (σ 42 61)) (.int (σ 42 62)) (.ref (ad 75)) (.ref (ad 76)) (σ 42 6) (σ 42 28) (σ 42 29) (σ 42 30) (σ 42 31) (σ 42 32) (σ 42 33) (σ 42 34) (σ 42 35) (σ 42 36) (σ 42 37) (σ 42 38) (σ 42 39) (σ 42 40) (σ 48) (σ 49) (σ 46) (σ 74) (σ 57) (σ 44) (σ 73) (σ 45) (σ 56) y1 y2 rm m_o_atA m_o_atB m_o_atD m_o_atF m_o_atG m_o_atH m_o_atL m_o_atM m_o_atN m_o_atS m_o_atT m_o_atU m_o_atX m_o_isRefused m_o_worth hfm) mw_1177 kb_X12_told (ci := 12) rfl rfl (kndR _) (krg _ _) rfl hl.1 rfl (Nat.le_of_ble_eq_true rfl) dL_law_1170 ⟨rfl, rfl, (by decide), (by decide), (by show cells + 0 + 0 ≤ 600000; omega), (by show slots + 0 + 0 ≤ 7302250; omega)⟩) X hV4 (fun u H locs hV5 => ?_)
  have hV6 : kV E A s.heap H locs (lWd E ad (lus (lus σ [(33, x_o_nights_fallen), (35, x_o_nights_reckoner_letters), (36, x_o_nights_reckoner_values)]) [(42, (upd (upd (upd (upd (upd (upd (upd (upd (upd (upd (upd (upd (upd (σ 42) 28 m_o_atA) 29 m_o_atB) 30 m_o_atD) 31 m_o_atF) 32 m_o_atG) 33 m_o_atH) 34 m_o_atL) 35 m_o_atM) 36 m_o_atN) 37 m_o_atS) 38 m_o_atT) 39 m_o_atU) 40 m_o_atX)), (56, m_o_worth), (57, m_o_isRefused)]) G bv) := lclose lq_X12_told (ks := [42, 56, 57]) rfl (by decide +kernel) rfl hV5
  clear hV4 hV5
  refine lv_pop hx hb dL_law_1173 rfl ?_
  refine lv_goto (tgt := 1478) hx hb dL_law_1174 (by decide) ?_
  refine W.widen (k := cells + 4) (n := slots + 149) (by omega) (by omega) ?_
  exact T _ _ _ hV6 hl
set_option maxHeartbeats 4000000 in
set_option maxRecDepth 100000 in
theorem lc_25 {p : Program} {l : Launch} {e : Env} {s : State} {m : MethodId} {below : List Frame} {meth : Method} {c : Code} {E : kE} {A : Nat → Prop} {b L : Nat} {xs : Nat → Int32} {Q : State → Prop} {H : Heap} {locs : List Loc} {ls : Array Slot} {ad : Nat → Nat} {σ : Nat → Nat → Int32} {G : kG} {bv : Value} {v y1 y2 y3 y4 y5 : Int32} {cells slots : Nat} (X : kC p s m c code 4 RL #[Value.ref b] E A) (hX : va_X b L xs s s.heap) (hbl : b < s.heap.size) (hbA : ¬ A b) (hV : kV E A s.heap H locs (lWd E ad σ G bv)) (hin : ∀ j : Int32, 0 ≤ j.toInt → j.toInt ≤ 5 → vp_in (v + j) L) (e1 : y1 = xs (v + 1).toNatClampNeg) (e2 : y2 = xs (v + 2).toNatClampNeg) (e3 : y3 = xs (v + 3).toNatClampNeg) (e4 : y4 = xs (v + 4).toNatClampNeg) (e5 : y5 = xs (v + 5).toNatClampNeg) (hc : cells + 4 ≤ 600000) (hs : slots + 149 ≤ 7302250) (hl : lv_has ls 4 [(3, .int v), (2, .ref (ad 42)), (1, .ref (ad 0)), (0, .ref b)]) (rx : Int32) (rm : Int32) (hfx : f_X11_bound (σ 30 5) (σ 31) (σ 32) y1 y2 = some (rx)) (hfm : f_X12_bound (σ 42 6) (σ 74) (σ 73) y1 y2 = some (rm)) (T : ∀ (H : Heap) (locs : List Loc) (ls : Array Slot), kV E A s.heap H locs (lWd E ad (lus (lus σ []) []) G bv) → lv_has ls 4 [(3, .int v), (2, .ref (ad 42)), (1, .ref (ad 0)), (0, .ref b)] → W p l e room_1 s m #[Value.ref b] below meth c H locs (cells + 4) (slots + 149) Q (F0 m 1478 ls [])) : W p l e room_1 s m #[Value.ref b] below meth c H locs cells slots Q (F0 m 1177 ls []) := by
  have hx := X.1
  have hb := X.2.1
  refine lv_aload_n hx hb dL_law_1177 rfl (lv_at hl 2 rfl) ?_
  refine lv_aload_n hx hb dL_law_1178 rfl (lv_at hl 3 rfl) ?_
  refine lv_iload_n hx hb dL_law_1179 rfl (lv_at hl 0 rfl) ?_
  refine lv_iconst (v := 1) hx hb dL_law_1180 (by decide) ?_
  refine lv_iadd hx hb dL_law_1181 ?_
  refine ksld X hX hbl hbA hV (v := y1) (hin 1 (by decide) (by decide)) e1 dL_law_1182 ?_
  refine lv_aload_n hx hb dL_law_1183 rfl (lv_at hl 3 rfl) ?_
  refine lv_iload_n hx hb dL_law_1184 rfl (lv_at hl 0 rfl) ?_
  refine lv_iconst (v := 2) hx hb dL_law_1185 (by decide) ?_
  refine lv_iadd hx hb dL_law_1186 ?_
  refine ksld X hX hbl hbA hV (v := y2) (hin 2 (by decide) (by decide)) e2 dL_law_1187 ?_
  have hV1 := lopen lq_X11_bound hV
  clear hV
  refine kgoiT (krunV (rest := []) X hV1 (List.range _) (c_X11_bound l E _ (ad 0) (ad 30) (ad 31) (ad 32) (.ref (ad 1)) (.ref (ad 3)) (.ref (ad 8)) (.ref (ad 13)) (.ref (ad 21)) (.ref (ad 22)) (.ref (ad 27)) (.ref (ad 38)) (.ref (ad 33)) (.ref (ad 34)) (.ref (ad 37)) (σ 30 5) (σ 31) (σ 32) y1 y2 rx hfx) mw_1181 kb_X11_bound (ci := 11) rfl rfl (kndR _) (krg _ _) rfl hl.1 rfl (Nat.le_of_ble_eq_true rfl) dL_law_1188 ⟨rfl, rfl, (by decide), (by decide), (by show cells + 0 + 0 ≤ 600000; omega), (by show slots + 0 + 0 ≤ 7302250; omega)⟩) X hV1 (fun u H locs hV2 => ?_)
  have hV3 : kV E A s.heap H locs (lWd E ad (lus σ []) G bv) := lclose lq_X11_bound (ks := []) rfl (by decide +kernel) rfl hV2
  clear hV1 hV2
  refine lv_pop hx hb dL_law_1191 rfl ?_
  refine lv_aload_n hx hb dL_law_1192 rfl (lv_at hl 1 rfl) ?_
  refine lv_aload_n hx hb dL_law_1193 rfl (lv_at hl 3 rfl) ?_
  refine lv_iload_n hx hb dL_law_1194 rfl (lv_at hl 0 rfl) ?_
  refine lv_iconst (v := 1) hx hb dL_law_1195 (by decide) ?_
  refine lv_iadd hx hb dL_law_1196 ?_
  refine ksld X hX hbl hbA hV3 (v := y1) (hin 1 (by decide) (by decide)) e1 dL_law_1197 ?_
  refine lv_aload_n hx hb dL_law_1198 rfl (lv_at hl 3 rfl) ?_
  refine lv_iload_n hx hb dL_law_1199 rfl (lv_at hl 0 rfl) ?_
  refine lv_iconst (v := 2) hx hb dL_law_1200 (by decide) ?_
  refine lv_iadd hx hb dL_law_1201 ?_
  refine ksld X hX hbl hbA hV3 (v := y2) (hin 2 (by decide) (by decide)) e2 dL_law_1202 ?_
  have hV4 := lopen lq_X12_bound hV3
  clear hV3
  refine kgoiT (krunV (rest := []) X hV4 (List.range _) (c_X12_bound l E _ (ad 42) (ad 74) (ad 73) (.ref (ad 43)) (.int (σ 42 1)) (.int (σ 42 2)) (.int (σ 42 3)) (.int (σ 42 4)) (.int (σ 42 5)) (.ref (ad 44)) (.ref (ad 45)) (.ref (ad 46)) (.ref (ad 47)) (.ref (ad 48)) (.ref (ad 49)) (.ref (ad 50)) (.ref (ad 51)) (.ref (ad 52)) (.ref (ad 53)) (.ref (ad 54)) (.int (σ 42 18)) (.int (σ 42 19)) (.int (σ 42 20)) (.int (σ 42 21)) (.int (σ 42 22)) (.int (σ 42 23)) (.int (σ 42 24)) (.int (σ 42 25)) (.int (σ 42 26)) (.ref (ad 55)) (.int (σ 42 28)) (.int (σ 42 29)) (.int (σ 42 30)) (.int (σ 42 31)) (.int (σ 42 32)) (.int (σ 42 33)) (.int (σ 42 34)) (.int (σ 42 35)) (.int (σ 42 36)) (.int (σ 42 37)) (.int (σ 42 38)) (.int (σ 42 39)) (.int (σ 42 40)) (.ref (ad 56)) (.ref (ad 57)) (.ref (ad 58)) (.ref (ad 59)) (.ref (ad 60)) (.ref (ad 61)) (.ref (ad 62)) (.int (σ 42 48)) (.int (σ 42 49)) (.ref (ad 63)) (.ref (ad 64)) (.ref (ad 65)) (.ref (ad 66)) (.ref (ad 67)) (.ref (ad 68)) (.ref (ad 69)) (.ref (ad 70)) (.ref (ad 71)) (.ref (ad 72)) (.int (σ 42 60)) (.int (σ 42 61)) (.int (σ 42 62)) (.ref (ad 75)) (.ref (ad 76)) (σ 42 6) (σ 74) (σ 73) y1 y2 rm hfm) mw_1199 kb_X12_bound (ci := 12) rfl rfl (kndR _) (krg _ _) rfl hl.1 rfl (Nat.le_of_ble_eq_true rfl) dL_law_1203 ⟨rfl, rfl, (by decide), (by decide), (by show cells + 0 + 0 ≤ 600000; omega), (by show slots + 0 + 0 ≤ 7302250; omega)⟩) X hV4 (fun u H locs hV5 => ?_)
  have hV6 : kV E A s.heap H locs (lWd E ad (lus (lus σ []) []) G bv) := lclose lq_X12_bound (ks := []) rfl (by decide +kernel) rfl hV5
  clear hV4 hV5
  refine lv_pop hx hb dL_law_1206 rfl ?_
  refine lv_goto (tgt := 1478) hx hb dL_law_1207 (by decide) ?_
  refine W.widen (k := cells + 4) (n := slots + 149) (by omega) (by omega) ?_
  exact T _ _ _ hV6 hl
set_option maxHeartbeats 4000000 in
set_option maxRecDepth 100000 in
theorem lc_26 {p : Program} {l : Launch} {e : Env} {s : State} {m : MethodId} {below : List Frame} {meth : Method} {c : Code} {E : kE} {A : Nat → Prop} {b L : Nat} {xs : Nat → Int32} {Q : State → Prop} {H : Heap} {locs : List Loc} {ls : Array Slot} {ad : Nat → Nat} {σ : Nat → Nat → Int32} {G : kG} {bv : Value} {v y1 y2 y3 y4 y5 : Int32} {cells slots : Nat} (X : kC p s m c code 4 RL #[Value.ref b] E A) (hX : va_X b L xs s s.heap) (hbl : b < s.heap.size) (hbA : ¬ A b) (hV : kV E A s.heap H locs (lWd E ad σ G bv)) (hin : ∀ j : Int32, 0 ≤ j.toInt → j.toInt ≤ 5 → vp_in (v + j) L) (e1 : y1 = xs (v + 1).toNatClampNeg) (e2 : y2 = xs (v + 2).toNatClampNeg) (e3 : y3 = xs (v + 3).toNatClampNeg) (e4 : y4 = xs (v + 4).toNatClampNeg) (e5 : y5 = xs (v + 5).toNatClampNeg) (hc : cells + 4 ≤ 600000) (hs : slots + 149 ≤ 7302250) (hl : lv_has ls 4 [(3, .int v), (2, .ref (ad 42)), (1, .ref (ad 0)), (0, .ref b)]) (rx : Int32) (x_o_lots_tens : Nat → Int32) (rm : Int32) (m_o_ten : Nat → Int32) (hfx : f_X11_there (σ 39) y1 y2 = some (rx, x_o_lots_tens)) (hfm : f_X12_there (σ 75) y1 y2 = some (rm, m_o_ten)) (T : ∀ (H : Heap) (locs : List Loc) (ls : Array Slot), kV E A s.heap H locs (lWd E ad (lus (lus σ [(39, x_o_lots_tens)]) [(75, m_o_ten)]) G bv) → lv_has ls 4 [(3, .int v), (2, .ref (ad 42)), (1, .ref (ad 0)), (0, .ref b)] → W p l e room_1 s m #[Value.ref b] below meth c H locs (cells + 4) (slots + 149) Q (F0 m 1478 ls [])) : W p l e room_1 s m #[Value.ref b] below meth c H locs cells slots Q (F0 m 1210 ls []) := by
  have hx := X.1
  have hb := X.2.1
  refine lv_aload_n hx hb dL_law_1210 rfl (lv_at hl 2 rfl) ?_
  refine lv_aload_n hx hb dL_law_1211 rfl (lv_at hl 3 rfl) ?_
  refine lv_iload_n hx hb dL_law_1212 rfl (lv_at hl 0 rfl) ?_
  refine lv_iconst (v := 1) hx hb dL_law_1213 (by decide) ?_
  refine lv_iadd hx hb dL_law_1214 ?_
  refine ksld X hX hbl hbA hV (v := y1) (hin 1 (by decide) (by decide)) e1 dL_law_1215 ?_
  refine lv_aload_n hx hb dL_law_1216 rfl (lv_at hl 3 rfl) ?_
  refine lv_iload_n hx hb dL_law_1217 rfl (lv_at hl 0 rfl) ?_
  refine lv_iconst (v := 2) hx hb dL_law_1218 (by decide) ?_
  refine lv_iadd hx hb dL_law_1219 ?_
  refine ksld X hX hbl hbA hV (v := y2) (hin 2 (by decide) (by decide)) e2 dL_law_1220 ?_
  have hV1 := lopen lq_X11_there hV
  clear hV
  refine kgoiT (krunV (rest := []) X hV1 (List.range _) (c_X11_there l E _ (ad 0) (ad 38) (ad 39) (.ref (ad 1)) (.ref (ad 3)) (.ref (ad 8)) (.ref (ad 13)) (.ref (ad 21)) (.ref (ad 22)) (.ref (ad 27)) (.ref (ad 30)) (.ref (ad 40)) (.ref (ad 41)) (.int (σ 38 3)) (σ 39) y1 y2 rx x_o_lots_tens hfx) mw_1212 kb_X11_there (ci := 11) rfl rfl (kndR _) (krg _ _) rfl hl.1 rfl (Nat.le_of_ble_eq_true rfl) dL_law_1221 ⟨rfl, rfl, (by decide), (by decide), (by show cells + 0 + 0 ≤ 600000; omega), (by show slots + 0 + 0 ≤ 7302250; omega)⟩) X hV1 (fun u H locs hV2 => ?_)
  have hV3 : kV E A s.heap H locs (lWd E ad (lus σ [(39, x_o_lots_tens)]) G bv) := lclose lq_X11_there (ks := [39]) rfl (by decide +kernel) rfl hV2
  clear hV1 hV2
  refine lv_pop hx hb dL_law_1224 rfl ?_
  refine lv_aload_n hx hb dL_law_1225 rfl (lv_at hl 1 rfl) ?_
  refine lv_aload_n hx hb dL_law_1226 rfl (lv_at hl 3 rfl) ?_
  refine lv_iload_n hx hb dL_law_1227 rfl (lv_at hl 0 rfl) ?_
  refine lv_iconst (v := 1) hx hb dL_law_1228 (by decide) ?_
  refine lv_iadd hx hb dL_law_1229 ?_
  refine ksld X hX hbl hbA hV3 (v := y1) (hin 1 (by decide) (by decide)) e1 dL_law_1230 ?_
  refine lv_aload_n hx hb dL_law_1231 rfl (lv_at hl 3 rfl) ?_
  refine lv_iload_n hx hb dL_law_1232 rfl (lv_at hl 0 rfl) ?_
  refine lv_iconst (v := 2) hx hb dL_law_1233 (by decide) ?_
  refine lv_iadd hx hb dL_law_1234 ?_
  refine ksld X hX hbl hbA hV3 (v := y2) (hin 2 (by decide) (by decide)) e2 dL_law_1235 ?_
  have hV4 := lopen lq_X12_there hV3
  clear hV3
  refine kgoiT (krunV (rest := []) X hV4 (List.range _) (c_X12_there l E _ (ad 42) (ad 75) (.ref (ad 43)) (.int (σ 42 1)) (.int (σ 42 2)) (.int (σ 42 3)) (.int (σ 42 4)) (.int (σ 42 5)) (.int (σ 42 6)) (.ref (ad 44)) (.ref (ad 45)) (.ref (ad 46)) (.ref (ad 47)) (.ref (ad 48)) (.ref (ad 49)) (.ref (ad 50)) (.ref (ad 51)) (.ref (ad 52)) (.ref (ad 53)) (.ref (ad 54)) (.int (σ 42 18)) (.int (σ 42 19)) (.int (σ 42 20)) (.int (σ 42 21)) (.int (σ 42 22)) (.int (σ 42 23)) (.int (σ 42 24)) (.int (σ 42 25)) (.int (σ 42 26)) (.ref (ad 55)) (.int (σ 42 28)) (.int (σ 42 29)) (.int (σ 42 30)) (.int (σ 42 31)) (.int (σ 42 32)) (.int (σ 42 33)) (.int (σ 42 34)) (.int (σ 42 35)) (.int (σ 42 36)) (.int (σ 42 37)) (.int (σ 42 38)) (.int (σ 42 39)) (.int (σ 42 40)) (.ref (ad 56)) (.ref (ad 57)) (.ref (ad 58)) (.ref (ad 59)) (.ref (ad 60)) (.ref (ad 61)) (.ref (ad 62)) (.int (σ 42 48)) (.int (σ 42 49)) (.ref (ad 63)) (.ref (ad 64)) (.ref (ad 65)) (.ref (ad 66)) (.ref (ad 67)) (.ref (ad 68)) (.ref (ad 69)) (.ref (ad 70)) (.ref (ad 71)) (.ref (ad 72)) (.int (σ 42 60)) (.int (σ 42 61)) (.int (σ 42 62)) (.ref (ad 73)) (.ref (ad 74)) (.ref (ad 76)) (σ 75) y1 y2 rm m_o_ten hfm) mw_1217 kb_X12_there (ci := 12) rfl rfl (kndR _) (krg _ _) rfl hl.1 rfl (Nat.le_of_ble_eq_true rfl) dL_law_1236 ⟨rfl, rfl, (by decide), (by decide), (by show cells + 0 + 0 ≤ 600000; omega), (by show slots + 0 + 0 ≤ 7302250; omega)⟩) X hV4 (fun u H locs hV5 => ?_)
  have hV6 : kV E A s.heap H locs (lWd E ad (lus (lus σ [(39, x_o_lots_tens)]) [(75, m_o_ten)]) G bv) := lclose lq_X12_there (ks := [75]) rfl (by decide +kernel) rfl hV5
  clear hV4 hV5
  refine lv_pop hx hb dL_law_1239 rfl ?_
  refine lv_goto (tgt := 1478) hx hb dL_law_1240 (by decide) ?_
  refine W.widen (k := cells + 4) (n := slots + 149) (by omega) (by omega) ?_
  exact T _ _ _ hV6 hl
set_option maxHeartbeats 4000000 in
set_option maxRecDepth 100000 in
theorem lc_27 {p : Program} {l : Launch} {e : Env} {s : State} {m : MethodId} {below : List Frame} {meth : Method} {c : Code} {E : kE} {A : Nat → Prop} {b L : Nat} {xs : Nat → Int32} {Q : State → Prop} {H : Heap} {locs : List Loc} {ls : Array Slot} {ad : Nat → Nat} {σ : Nat → Nat → Int32} {G : kG} {bv : Value} {v y1 y2 y3 y4 y5 : Int32} {cells slots : Nat} (X : kC p s m c code 4 RL #[Value.ref b] E A) (hX : va_X b L xs s s.heap) (hbl : b < s.heap.size) (hbA : ¬ A b) (hV : kV E A s.heap H locs (lWd E ad σ G bv)) (hin : ∀ j : Int32, 0 ≤ j.toInt → j.toInt ≤ 5 → vp_in (v + j) L) (e1 : y1 = xs (v + 1).toNatClampNeg) (e2 : y2 = xs (v + 2).toNatClampNeg) (e3 : y3 = xs (v + 3).toNatClampNeg) (e4 : y4 = xs (v + 4).toNatClampNeg) (e5 : y5 = xs (v + 5).toNatClampNeg) (hc : cells + 4 ≤ 600000) (hs : slots + 149 ≤ 7302250) (hl : lv_has ls 4 [(3, .int v), (2, .ref (ad 42)), (1, .ref (ad 0)), (0, .ref b)]) (rx : Int32) (x_o_lots_unseen : Int32) (x_o_lots_best : Nat → Int32) (x_o_lots_chosen : Nat → Int32) (rm : Int32) (m_o_leastFrom : Nat → Int32) (hfx : f_X11_pen (σ 38 3) (σ 41) (σ 40) (σ 39) y1 y2 y3 = some (rx, x_o_lots_unseen, x_o_lots_best, x_o_lots_chosen)) (hfm : f_X12_pen (σ 76) (σ 75) y1 y2 y3 = some (rm, m_o_leastFrom)) (T : ∀ (H : Heap) (locs : List Loc) (ls : Array Slot), kV E A s.heap H locs (lWd E ad (lus (lus σ [(38, (upd (σ 38) 3 x_o_lots_unseen)), (40, x_o_lots_chosen), (41, x_o_lots_best)]) [(76, m_o_leastFrom)]) G bv) → lv_has ls 4 [(3, .int v), (2, .ref (ad 42)), (1, .ref (ad 0)), (0, .ref b)] → W p l e room_1 s m #[Value.ref b] below meth c H locs (cells + 4) (slots + 149) Q (F0 m 1478 ls [])) : W p l e room_1 s m #[Value.ref b] below meth c H locs cells slots Q (F0 m 1243 ls []) := by
  have hx := X.1
  have hb := X.2.1
  refine lv_aload_n hx hb dL_law_1243 rfl (lv_at hl 2 rfl) ?_
  refine lv_aload_n hx hb dL_law_1244 rfl (lv_at hl 3 rfl) ?_
  refine lv_iload_n hx hb dL_law_1245 rfl (lv_at hl 0 rfl) ?_
  refine lv_iconst (v := 1) hx hb dL_law_1246 (by decide) ?_
  refine lv_iadd hx hb dL_law_1247 ?_
  refine ksld X hX hbl hbA hV (v := y1) (hin 1 (by decide) (by decide)) e1 dL_law_1248 ?_
  refine lv_aload_n hx hb dL_law_1249 rfl (lv_at hl 3 rfl) ?_
  refine lv_iload_n hx hb dL_law_1250 rfl (lv_at hl 0 rfl) ?_
  refine lv_iconst (v := 2) hx hb dL_law_1251 (by decide) ?_
  refine lv_iadd hx hb dL_law_1252 ?_
  refine ksld X hX hbl hbA hV (v := y2) (hin 2 (by decide) (by decide)) e2 dL_law_1253 ?_
  refine lv_aload_n hx hb dL_law_1254 rfl (lv_at hl 3 rfl) ?_
  refine lv_iload_n hx hb dL_law_1255 rfl (lv_at hl 0 rfl) ?_
  refine lv_iconst (v := 3) hx hb dL_law_1256 (by decide) ?_
  refine lv_iadd hx hb dL_law_1257 ?_
  refine ksld X hX hbl hbA hV (v := y3) (hin 3 (by decide) (by decide)) e3 dL_law_1258 ?_
  have hV1 := lopen lq_X11_pen hV
  clear hV
  refine kgoiT (krunV (rest := []) X hV1 (List.range _) (c_X11_pen l E _ (ad 0) (ad 38) (ad 41) (ad 40) (ad 39) (.ref (ad 1)) (.ref (ad 3)) (.ref (ad 8)) (.ref (ad 13)) (.ref (ad 21)) (.ref (ad 22)) (.ref (ad 27)) (.ref (ad 30)) (σ 38 3) (σ 41) (σ 40) (σ 39) y1 y2 y3 rx x_o_lots_unseen x_o_lots_best x_o_lots_chosen hfx) mw_1223 kb_X11_pen (ci := 11) rfl rfl (kndR _) (krg _ _) rfl hl.1 rfl (Nat.le_of_ble_eq_true rfl) dL_law_1259 ⟨rfl, rfl, (by decide), (by decide), (by show cells + 0 + 0 ≤ 600000; omega), (by show slots + 0 + 0 ≤ 7302250; omega)⟩) X hV1 (fun u H locs hV2 => ?_)
  have hV3 : kV E A s.heap H locs (lWd E ad (lus σ [(38, (upd (σ 38) 3 x_o_lots_unseen)), (40, x_o_lots_chosen), (41, x_o_lots_best)]) G bv) := lclose lq_X11_pen (ks := [38, 40, 41]) rfl (by decide +kernel) rfl hV2
  clear hV1 hV2
  refine lv_pop hx hb dL_law_1262 rfl ?_
  refine lv_aload_n hx hb dL_law_1263 rfl (lv_at hl 1 rfl) ?_
  refine lv_aload_n hx hb dL_law_1264 rfl (lv_at hl 3 rfl) ?_
  refine lv_iload_n hx hb dL_law_1265 rfl (lv_at hl 0 rfl) ?_
  refine lv_iconst (v := 1) hx hb dL_law_1266 (by decide) ?_
  refine lv_iadd hx hb dL_law_1267 ?_
  refine ksld X hX hbl hbA hV3 (v := y1) (hin 1 (by decide) (by decide)) e1 dL_law_1268 ?_
  refine lv_aload_n hx hb dL_law_1269 rfl (lv_at hl 3 rfl) ?_
  refine lv_iload_n hx hb dL_law_1270 rfl (lv_at hl 0 rfl) ?_
  refine lv_iconst (v := 2) hx hb dL_law_1271 (by decide) ?_
  refine lv_iadd hx hb dL_law_1272 ?_
  refine ksld X hX hbl hbA hV3 (v := y2) (hin 2 (by decide) (by decide)) e2 dL_law_1273 ?_
  refine lv_aload_n hx hb dL_law_1274 rfl (lv_at hl 3 rfl) ?_
  refine lv_iload_n hx hb dL_law_1275 rfl (lv_at hl 0 rfl) ?_
  refine lv_iconst (v := 3) hx hb dL_law_1276 (by decide) ?_
  refine lv_iadd hx hb dL_law_1277 ?_
  refine ksld X hX hbl hbA hV3 (v := y3) (hin 3 (by decide) (by decide)) e3 dL_law_1278 ?_
  have hV4 := lopen lq_X12_pen hV3
  clear hV3
  refine kgoiT (krunV (rest := []) X hV4 (List.range _) (c_X12_pen l E _ (ad 42) (ad 76) (ad 75) (.ref (ad 43)) (.int (σ 42 1)) (.int (σ 42 2)) (.int (σ 42 3)) (.int (σ 42 4)) (.int (σ 42 5)) (.int (σ 42 6)) (.ref (ad 44)) (.ref (ad 45)) (.ref (ad 46)) (.ref (ad 47)) (.ref (ad 48)) (.ref (ad 49)) (.ref (ad 50)) (.ref (ad 51)) (.ref (ad 52)) (.ref (ad 53)) (.ref (ad 54)) (.int (σ 42 18)) (.int (σ 42 19)) (.int (σ 42 20)) (.int (σ 42 21)) (.int (σ 42 22)) (.int (σ 42 23)) (.int (σ 42 24)) (.int (σ 42 25)) (.int (σ 42 26)) (.ref (ad 55)) (.int (σ 42 28)) (.int (σ 42 29)) (.int (σ 42 30)) (.int (σ 42 31)) (.int (σ 42 32)) (.int (σ 42 33)) (.int (σ 42 34)) (.int (σ 42 35)) (.int (σ 42 36)) (.int (σ 42 37)) (.int (σ 42 38)) (.int (σ 42 39)) (.int (σ 42 40)) (.ref (ad 56)) (.ref (ad 57)) (.ref (ad 58)) (.ref (ad 59)) (.ref (ad 60)) (.ref (ad 61)) (.ref (ad 62)) (.int (σ 42 48)) (.int (σ 42 49)) (.ref (ad 63)) (.ref (ad 64)) (.ref (ad 65)) (.ref (ad 66)) (.ref (ad 67)) (.ref (ad 68)) (.ref (ad 69)) (.ref (ad 70)) (.ref (ad 71)) (.ref (ad 72)) (.int (σ 42 60)) (.int (σ 42 61)) (.int (σ 42 62)) (.ref (ad 73)) (.ref (ad 74)) (σ 76) (σ 75) y1 y2 y3 rm m_o_leastFrom hfm) mw_1246 kb_X12_pen (ci := 12) rfl rfl (kndR _) (krg _ _) rfl hl.1 rfl (Nat.le_of_ble_eq_true rfl) dL_law_1279 ⟨rfl, rfl, (by decide), (by decide), (by show cells + 0 + 0 ≤ 600000; omega), (by show slots + 0 + 0 ≤ 7302250; omega)⟩) X hV4 (fun u H locs hV5 => ?_)
  have hV6 : kV E A s.heap H locs (lWd E ad (lus (lus σ [(38, (upd (σ 38) 3 x_o_lots_unseen)), (40, x_o_lots_chosen), (41, x_o_lots_best)]) [(76, m_o_leastFrom)]) G bv) := lclose lq_X12_pen (ks := [76]) rfl (by decide +kernel) rfl hV5
  clear hV4 hV5
  refine lv_pop hx hb dL_law_1282 rfl ?_
  refine lv_goto (tgt := 1478) hx hb dL_law_1283 (by decide) ?_
  refine W.widen (k := cells + 4) (n := slots + 149) (by omega) (by omega) ?_
  exact T _ _ _ hV6 hl
set_option maxHeartbeats 4000000 in
set_option maxRecDepth 100000 in
theorem lc_28 {p : Program} {l : Launch} {e : Env} {s : State} {m : MethodId} {below : List Frame} {meth : Method} {c : Code} {E : kE} {A : Nat → Prop} {b L : Nat} {xs : Nat → Int32} {Q : State → Prop} {H : Heap} {locs : List Loc} {ls : Array Slot} {ad : Nat → Nat} {σ : Nat → Nat → Int32} {G : kG} {bv : Value} {v y1 y2 y3 y4 y5 : Int32} {cells slots : Nat} (X : kC p s m c code 4 RL #[Value.ref b] E A) (hX : va_X b L xs s s.heap) (hbl : b < s.heap.size) (hbA : ¬ A b) (hV : kV E A s.heap H locs (lWd E ad σ G bv)) (hin : ∀ j : Int32, 0 ≤ j.toInt → j.toInt ≤ 5 → vp_in (v + j) L) (e1 : y1 = xs (v + 1).toNatClampNeg) (e2 : y2 = xs (v + 2).toNatClampNeg) (e3 : y3 = xs (v + 3).toNatClampNeg) (e4 : y4 = xs (v + 4).toNatClampNeg) (e5 : y5 = xs (v + 5).toNatClampNeg) (hc : cells + 4 ≤ 600000) (hs : slots + 149 ≤ 7302250) (hl : lv_has ls 4 [(3, .int v), (2, .ref (ad 42)), (1, .ref (ad 0)), (0, .ref b)]) (rx : Int64) (rm : Int64) (hfx : f_X11_odds y1 y2 y3 y4 y5 = some (rx)) (hfm : f_X12_odds y1 y2 y3 y4 y5 = some (rm)) (T : ∀ (H : Heap) (locs : List Loc) (ls : Array Slot), kV E A s.heap H locs (lWd E ad (lus (lus σ []) []) G bv) → lv_has ls 4 [(3, .int v), (2, .ref (ad 42)), (1, .ref (ad 0)), (0, .ref b)] → W p l e room_1 s m #[Value.ref b] below meth c H locs (cells + 4) (slots + 149) Q (F0 m 1478 ls [])) : W p l e room_1 s m #[Value.ref b] below meth c H locs cells slots Q (F0 m 1286 ls []) := by
  have hx := X.1
  have hb := X.2.1
  refine lv_aload_n hx hb dL_law_1286 rfl (lv_at hl 2 rfl) ?_
  refine lv_aload_n hx hb dL_law_1287 rfl (lv_at hl 3 rfl) ?_
  refine lv_iload_n hx hb dL_law_1288 rfl (lv_at hl 0 rfl) ?_
  refine lv_iconst (v := 1) hx hb dL_law_1289 (by decide) ?_
  refine lv_iadd hx hb dL_law_1290 ?_
  refine ksld X hX hbl hbA hV (v := y1) (hin 1 (by decide) (by decide)) e1 dL_law_1291 ?_
  refine lv_aload_n hx hb dL_law_1292 rfl (lv_at hl 3 rfl) ?_
  refine lv_iload_n hx hb dL_law_1293 rfl (lv_at hl 0 rfl) ?_
  refine lv_iconst (v := 2) hx hb dL_law_1294 (by decide) ?_
  refine lv_iadd hx hb dL_law_1295 ?_
  refine ksld X hX hbl hbA hV (v := y2) (hin 2 (by decide) (by decide)) e2 dL_law_1296 ?_
  refine lv_aload_n hx hb dL_law_1297 rfl (lv_at hl 3 rfl) ?_
  refine lv_iload_n hx hb dL_law_1298 rfl (lv_at hl 0 rfl) ?_
  refine lv_iconst (v := 3) hx hb dL_law_1299 (by decide) ?_
  refine lv_iadd hx hb dL_law_1300 ?_
  refine ksld X hX hbl hbA hV (v := y3) (hin 3 (by decide) (by decide)) e3 dL_law_1301 ?_
  refine lv_aload_n hx hb dL_law_1302 rfl (lv_at hl 3 rfl) ?_
  refine lv_iload_n hx hb dL_law_1303 rfl (lv_at hl 0 rfl) ?_
  refine lv_iconst (v := 4) hx hb dL_law_1304 (by decide) ?_
  refine lv_iadd hx hb dL_law_1305 ?_
  refine ksld X hX hbl hbA hV (v := y4) (hin 4 (by decide) (by decide)) e4 dL_law_1306 ?_
  refine lv_aload_n hx hb dL_law_1307 rfl (lv_at hl 3 rfl) ?_
  refine lv_iload_n hx hb dL_law_1308 rfl (lv_at hl 0 rfl) ?_
  refine lv_iconst (v := 5) hx hb dL_law_1309 (by decide) ?_
  refine lv_iadd hx hb dL_law_1310 ?_
  refine ksld X hX hbl hbA hV (v := y5) (hin 5 (by decide) (by decide)) e5 dL_law_1311 ?_
  have hV1 := lopen lq_X11_odds hV
  clear hV
  refine kgolT (krunV (rest := []) X hV1 (List.range _) (c_X11_odds l E _ (ad 0) (.ref (ad 1)) (.ref (ad 3)) (.ref (ad 8)) (.ref (ad 13)) (.ref (ad 21)) (.ref (ad 22)) (.ref (ad 27)) (.ref (ad 30)) (.ref (ad 38)) y1 y2 y3 y4 y5 rx hfx) mw_1255 kb_X11_odds (ci := 11) rfl rfl (kndR _) (krg _ _) rfl hl.1 rfl (Nat.le_of_ble_eq_true rfl) dL_law_1312 ⟨rfl, rfl, (by decide), (by decide), (by show cells + 0 + 0 ≤ 600000; omega), (by show slots + 0 + 0 ≤ 7302250; omega)⟩) X hV1 (fun u H locs hV2 => ?_)
  have hV3 : kV E A s.heap H locs (lWd E ad (lus σ []) G bv) := lclose lq_X11_odds (ks := []) rfl (by decide +kernel) rfl hV2
  clear hV1 hV2
  refine lv_pop2_2 hx hb dL_law_1315 rfl ?_
  refine lv_aload_n hx hb dL_law_1316 rfl (lv_at hl 1 rfl) ?_
  refine lv_aload_n hx hb dL_law_1317 rfl (lv_at hl 3 rfl) ?_
  refine lv_iload_n hx hb dL_law_1318 rfl (lv_at hl 0 rfl) ?_
  refine lv_iconst (v := 1) hx hb dL_law_1319 (by decide) ?_
  refine lv_iadd hx hb dL_law_1320 ?_
  refine ksld X hX hbl hbA hV3 (v := y1) (hin 1 (by decide) (by decide)) e1 dL_law_1321 ?_
  refine lv_aload_n hx hb dL_law_1322 rfl (lv_at hl 3 rfl) ?_
  refine lv_iload_n hx hb dL_law_1323 rfl (lv_at hl 0 rfl) ?_
  refine lv_iconst (v := 2) hx hb dL_law_1324 (by decide) ?_
  refine lv_iadd hx hb dL_law_1325 ?_
  refine ksld X hX hbl hbA hV3 (v := y2) (hin 2 (by decide) (by decide)) e2 dL_law_1326 ?_
  refine lv_aload_n hx hb dL_law_1327 rfl (lv_at hl 3 rfl) ?_
  refine lv_iload_n hx hb dL_law_1328 rfl (lv_at hl 0 rfl) ?_
  refine lv_iconst (v := 3) hx hb dL_law_1329 (by decide) ?_
  refine lv_iadd hx hb dL_law_1330 ?_
  refine ksld X hX hbl hbA hV3 (v := y3) (hin 3 (by decide) (by decide)) e3 dL_law_1331 ?_
  refine lv_aload_n hx hb dL_law_1332 rfl (lv_at hl 3 rfl) ?_
  refine lv_iload_n hx hb dL_law_1333 rfl (lv_at hl 0 rfl) ?_
  refine lv_iconst (v := 4) hx hb dL_law_1334 (by decide) ?_
  refine lv_iadd hx hb dL_law_1335 ?_
  refine ksld X hX hbl hbA hV3 (v := y4) (hin 4 (by decide) (by decide)) e4 dL_law_1336 ?_
  refine lv_aload_n hx hb dL_law_1337 rfl (lv_at hl 3 rfl) ?_
  refine lv_iload_n hx hb dL_law_1338 rfl (lv_at hl 0 rfl) ?_
  refine lv_iconst (v := 5) hx hb dL_law_1339 (by decide) ?_
  refine lv_iadd hx hb dL_law_1340 ?_
  refine ksld X hX hbl hbA hV3 (v := y5) (hin 5 (by decide) (by decide)) e5 dL_law_1341 ?_
  have hV4 := lopen lq_X12_odds hV3
  clear hV3
  refine kgolT (krunV (rest := []) X hV4 (List.range _) (c_X12_odds l E _ (ad 42) (.ref (ad 43)) (.int (σ 42 1)) (.int (σ 42 2)) (.int (σ 42 3)) (.int (σ 42 4)) (.int (σ 42 5)) (.int (σ 42 6)) (.ref (ad 44)) (.ref (ad 45)) (.ref (ad 46)) (.ref (ad 47)) (.ref (ad 48)) (.ref (ad 49)) (.ref (ad 50)) (.ref (ad 51)) (.ref (ad 52)) (.ref (ad 53)) (.ref (ad 54)) (.int (σ 42 18)) (.int (σ 42 19)) (.int (σ 42 20)) (.int (σ 42 21)) (.int (σ 42 22)) (.int (σ 42 23)) (.int (σ 42 24)) (.int (σ 42 25)) (.int (σ 42 26)) (.ref (ad 55)) (.int (σ 42 28)) (.int (σ 42 29)) (.int (σ 42 30)) (.int (σ 42 31)) (.int (σ 42 32)) (.int (σ 42 33)) (.int (σ 42 34)) (.int (σ 42 35)) (.int (σ 42 36)) (.int (σ 42 37)) (.int (σ 42 38)) (.int (σ 42 39)) (.int (σ 42 40)) (.ref (ad 56)) (.ref (ad 57)) (.ref (ad 58)) (.ref (ad 59)) (.ref (ad 60)) (.ref (ad 61)) (.ref (ad 62)) (.int (σ 42 48)) (.int (σ 42 49)) (.ref (ad 63)) (.ref (ad 64)) (.ref (ad 65)) (.ref (ad 66)) (.ref (ad 67)) (.ref (ad 68)) (.ref (ad 69)) (.ref (ad 70)) (.ref (ad 71)) (.ref (ad 72)) (.int (σ 42 60)) (.int (σ 42 61)) (.int (σ 42 62)) (.ref (ad 73)) (.ref (ad 74)) (.ref (ad 75)) (.ref (ad 76)) y1 y2 y3 y4 y5 rm hfm) mw_1276 kb_X12_odds (ci := 12) rfl rfl (kndR _) (krg _ _) rfl hl.1 rfl (Nat.le_of_ble_eq_true rfl) dL_law_1342 ⟨rfl, rfl, (by decide), (by decide), (by show cells + 0 + 0 ≤ 600000; omega), (by show slots + 0 + 0 ≤ 7302250; omega)⟩) X hV4 (fun u H locs hV5 => ?_)
  have hV6 : kV E A s.heap H locs (lWd E ad (lus (lus σ []) []) G bv) := lclose lq_X12_odds (ks := []) rfl (by decide +kernel) rfl hV5
  clear hV4 hV5
  refine lv_pop2_2 hx hb dL_law_1345 rfl ?_
  refine lv_goto (tgt := 1478) hx hb dL_law_1346 (by decide) ?_
  refine W.widen (k := cells + 4) (n := slots + 149) (by omega) (by omega) ?_
  exact T _ _ _ hV6 hl
set_option maxHeartbeats 4000000 in
set_option maxRecDepth 100000 in
theorem lc_29 {p : Program} {l : Launch} {e : Env} {s : State} {m : MethodId} {below : List Frame} {meth : Method} {c : Code} {E : kE} {A : Nat → Prop} {b L : Nat} {xs : Nat → Int32} {Q : State → Prop} {H : Heap} {locs : List Loc} {ls : Array Slot} {ad : Nat → Nat} {σ : Nat → Nat → Int32} {G : kG} {bv : Value} {v y1 y2 y3 y4 y5 : Int32} {cells slots : Nat} (X : kC p s m c code 4 RL #[Value.ref b] E A) (hX : va_X b L xs s s.heap) (hbl : b < s.heap.size) (hbA : ¬ A b) (hV : kV E A s.heap H locs (lWd E ad σ G bv)) (hin : ∀ j : Int32, 0 ≤ j.toInt → j.toInt ≤ 5 → vp_in (v + j) L) (e1 : y1 = xs (v + 1).toNatClampNeg) (e2 : y2 = xs (v + 2).toNatClampNeg) (e3 : y3 = xs (v + 3).toNatClampNeg) (e4 : y4 = xs (v + 4).toNatClampNeg) (e5 : y5 = xs (v + 5).toNatClampNeg) (hc : cells + 4 ≤ 600000) (hs : slots + 149 ≤ 7302250) (hl : lv_has ls 4 [(3, .int v), (2, .ref (ad 42)), (1, .ref (ad 0)), (0, .ref b)]) (rx : Int32) (rm : Int32) (hfx : f_X11_more y1 y2 y3 y4 y5 = some (rx)) (hfm : f_X12_more y1 y2 y3 y4 y5 = some (rm)) (T : ∀ (H : Heap) (locs : List Loc) (ls : Array Slot), kV E A s.heap H locs (lWd E ad (lus (lus σ []) []) G bv) → lv_has ls 4 [(3, .int v), (2, .ref (ad 42)), (1, .ref (ad 0)), (0, .ref b)] → W p l e room_1 s m #[Value.ref b] below meth c H locs (cells + 4) (slots + 149) Q (F0 m 1478 ls [])) : W p l e room_1 s m #[Value.ref b] below meth c H locs cells slots Q (F0 m 1349 ls []) := by
  have hx := X.1
  have hb := X.2.1
  refine lv_aload_n hx hb dL_law_1349 rfl (lv_at hl 2 rfl) ?_
  refine lv_aload_n hx hb dL_law_1350 rfl (lv_at hl 3 rfl) ?_
  refine lv_iload_n hx hb dL_law_1351 rfl (lv_at hl 0 rfl) ?_
  refine lv_iconst (v := 1) hx hb dL_law_1352 (by decide) ?_
  refine lv_iadd hx hb dL_law_1353 ?_
  refine ksld X hX hbl hbA hV (v := y1) (hin 1 (by decide) (by decide)) e1 dL_law_1354 ?_
  refine lv_aload_n hx hb dL_law_1355 rfl (lv_at hl 3 rfl) ?_
  refine lv_iload_n hx hb dL_law_1356 rfl (lv_at hl 0 rfl) ?_
  refine lv_iconst (v := 2) hx hb dL_law_1357 (by decide) ?_
  refine lv_iadd hx hb dL_law_1358 ?_
  refine ksld X hX hbl hbA hV (v := y2) (hin 2 (by decide) (by decide)) e2 dL_law_1359 ?_
  refine lv_aload_n hx hb dL_law_1360 rfl (lv_at hl 3 rfl) ?_
  refine lv_iload_n hx hb dL_law_1361 rfl (lv_at hl 0 rfl) ?_
  refine lv_iconst (v := 3) hx hb dL_law_1362 (by decide) ?_
  refine lv_iadd hx hb dL_law_1363 ?_
  refine ksld X hX hbl hbA hV (v := y3) (hin 3 (by decide) (by decide)) e3 dL_law_1364 ?_
  refine lv_aload_n hx hb dL_law_1365 rfl (lv_at hl 3 rfl) ?_
  refine lv_iload_n hx hb dL_law_1366 rfl (lv_at hl 0 rfl) ?_
  refine lv_iconst (v := 4) hx hb dL_law_1367 (by decide) ?_
  refine lv_iadd hx hb dL_law_1368 ?_
  refine ksld X hX hbl hbA hV (v := y4) (hin 4 (by decide) (by decide)) e4 dL_law_1369 ?_
  refine lv_aload_n hx hb dL_law_1370 rfl (lv_at hl 3 rfl) ?_
  refine lv_iload_n hx hb dL_law_1371 rfl (lv_at hl 0 rfl) ?_
  refine lv_iconst (v := 5) hx hb dL_law_1372 (by decide) ?_
  refine lv_iadd hx hb dL_law_1373 ?_
  refine ksld X hX hbl hbA hV (v := y5) (hin 5 (by decide) (by decide)) e5 dL_law_1374 ?_
  have hV1 := lopen lq_X11_more hV
  clear hV
  refine kgoiT (krunV (rest := []) X hV1 (List.range _) (c_X11_more l E _ (ad 0) (.ref (ad 1)) (.ref (ad 3)) (.ref (ad 8)) (.ref (ad 13)) (.ref (ad 21)) (.ref (ad 22)) (.ref (ad 27)) (.ref (ad 30)) (.ref (ad 38)) y1 y2 y3 y4 y5 rx hfx) mw_1295 kb_X11_more (ci := 11) rfl rfl (kndR _) (krg _ _) rfl hl.1 rfl (Nat.le_of_ble_eq_true rfl) dL_law_1375 ⟨rfl, rfl, (by decide), (by decide), (by show cells + 0 + 0 ≤ 600000; omega), (by show slots + 0 + 0 ≤ 7302250; omega)⟩) X hV1 (fun u H locs hV2 => ?_)
  have hV3 : kV E A s.heap H locs (lWd E ad (lus σ []) G bv) := lclose lq_X11_more (ks := []) rfl (by decide +kernel) rfl hV2
  clear hV1 hV2
  refine lv_pop hx hb dL_law_1378 rfl ?_
  refine lv_aload_n hx hb dL_law_1379 rfl (lv_at hl 1 rfl) ?_
  refine lv_aload_n hx hb dL_law_1380 rfl (lv_at hl 3 rfl) ?_
  refine lv_iload_n hx hb dL_law_1381 rfl (lv_at hl 0 rfl) ?_
  refine lv_iconst (v := 1) hx hb dL_law_1382 (by decide) ?_
  refine lv_iadd hx hb dL_law_1383 ?_
  refine ksld X hX hbl hbA hV3 (v := y1) (hin 1 (by decide) (by decide)) e1 dL_law_1384 ?_
  refine lv_aload_n hx hb dL_law_1385 rfl (lv_at hl 3 rfl) ?_
  refine lv_iload_n hx hb dL_law_1386 rfl (lv_at hl 0 rfl) ?_
  refine lv_iconst (v := 2) hx hb dL_law_1387 (by decide) ?_
  refine lv_iadd hx hb dL_law_1388 ?_
  refine ksld X hX hbl hbA hV3 (v := y2) (hin 2 (by decide) (by decide)) e2 dL_law_1389 ?_
  refine lv_aload_n hx hb dL_law_1390 rfl (lv_at hl 3 rfl) ?_
  refine lv_iload_n hx hb dL_law_1391 rfl (lv_at hl 0 rfl) ?_
  refine lv_iconst (v := 3) hx hb dL_law_1392 (by decide) ?_
  refine lv_iadd hx hb dL_law_1393 ?_
  refine ksld X hX hbl hbA hV3 (v := y3) (hin 3 (by decide) (by decide)) e3 dL_law_1394 ?_
  refine lv_aload_n hx hb dL_law_1395 rfl (lv_at hl 3 rfl) ?_
  refine lv_iload_n hx hb dL_law_1396 rfl (lv_at hl 0 rfl) ?_
  refine lv_iconst (v := 4) hx hb dL_law_1397 (by decide) ?_
  refine lv_iadd hx hb dL_law_1398 ?_
  refine ksld X hX hbl hbA hV3 (v := y4) (hin 4 (by decide) (by decide)) e4 dL_law_1399 ?_
  refine lv_aload_n hx hb dL_law_1400 rfl (lv_at hl 3 rfl) ?_
  refine lv_iload_n hx hb dL_law_1401 rfl (lv_at hl 0 rfl) ?_
  refine lv_iconst (v := 5) hx hb dL_law_1402 (by decide) ?_
  refine lv_iadd hx hb dL_law_1403 ?_
  refine ksld X hX hbl hbA hV3 (v := y5) (hin 5 (by decide) (by decide)) e5 dL_law_1404 ?_
  have hV4 := lopen lq_X12_more hV3
  clear hV3
  refine kgoiT (krunV (rest := []) X hV4 (List.range _) (c_X12_more l E _ (ad 42) (.ref (ad 43)) (.int (σ 42 1)) (.int (σ 42 2)) (.int (σ 42 3)) (.int (σ 42 4)) (.int (σ 42 5)) (.int (σ 42 6)) (.ref (ad 44)) (.ref (ad 45)) (.ref (ad 46)) (.ref (ad 47)) (.ref (ad 48)) (.ref (ad 49)) (.ref (ad 50)) (.ref (ad 51)) (.ref (ad 52)) (.ref (ad 53)) (.ref (ad 54)) (.int (σ 42 18)) (.int (σ 42 19)) (.int (σ 42 20)) (.int (σ 42 21)) (.int (σ 42 22)) (.int (σ 42 23)) (.int (σ 42 24)) (.int (σ 42 25)) (.int (σ 42 26)) (.ref (ad 55)) (.int (σ 42 28)) (.int (σ 42 29)) (.int (σ 42 30)) (.int (σ 42 31)) (.int (σ 42 32)) (.int (σ 42 33)) (.int (σ 42 34)) (.int (σ 42 35)) (.int (σ 42 36)) (.int (σ 42 37)) (.int (σ 42 38)) (.int (σ 42 39)) (.int (σ 42 40)) (.ref (ad 56)) (.ref (ad 57)) (.ref (ad 58)) (.ref (ad 59)) (.ref (ad 60)) (.ref (ad 61)) (.ref (ad 62)) (.int (σ 42 48)) (.int (σ 42 49)) (.ref (ad 63)) (.ref (ad 64)) (.ref (ad 65)) (.ref (ad 66)) (.ref (ad 67)) (.ref (ad 68)) (.ref (ad 69)) (.ref (ad 70)) (.ref (ad 71)) (.ref (ad 72)) (.int (σ 42 60)) (.int (σ 42 61)) (.int (σ 42 62)) (.ref (ad 73)) (.ref (ad 74)) (.ref (ad 75)) (.ref (ad 76)) y1 y2 y3 y4 y5 rm hfm) mw_1300 kb_X12_more (ci := 12) rfl rfl (kndR _) (krg _ _) rfl hl.1 rfl (Nat.le_of_ble_eq_true rfl) dL_law_1405 ⟨rfl, rfl, (by decide), (by decide), (by show cells + 0 + 0 ≤ 600000; omega), (by show slots + 0 + 0 ≤ 7302250; omega)⟩) X hV4 (fun u H locs hV5 => ?_)
  have hV6 : kV E A s.heap H locs (lWd E ad (lus (lus σ []) []) G bv) := lclose lq_X12_more (ks := []) rfl (by decide +kernel) rfl hV5
  clear hV4 hV5
  refine lv_pop hx hb dL_law_1408 rfl ?_
  refine lv_goto (tgt := 1478) hx hb dL_law_1409 (by decide) ?_
  refine W.widen (k := cells + 4) (n := slots + 149) (by omega) (by omega) ?_
  exact T _ _ _ hV6 hl
set_option maxHeartbeats 4000000 in
set_option maxRecDepth 100000 in
theorem lc_30 {p : Program} {l : Launch} {e : Env} {s : State} {m : MethodId} {below : List Frame} {meth : Method} {c : Code} {E : kE} {A : Nat → Prop} {b L : Nat} {xs : Nat → Int32} {Q : State → Prop} {H : Heap} {locs : List Loc} {ls : Array Slot} {ad : Nat → Nat} {σ : Nat → Nat → Int32} {G : kG} {bv : Value} {v y1 y2 y3 y4 y5 : Int32} {cells slots : Nat} (X : kC p s m c code 4 RL #[Value.ref b] E A) (hX : va_X b L xs s s.heap) (hbl : b < s.heap.size) (hbA : ¬ A b) (hV : kV E A s.heap H locs (lWd E ad σ G bv)) (hin : ∀ j : Int32, 0 ≤ j.toInt → j.toInt ≤ 5 → vp_in (v + j) L) (e1 : y1 = xs (v + 1).toNatClampNeg) (e2 : y2 = xs (v + 2).toNatClampNeg) (e3 : y3 = xs (v + 3).toNatClampNeg) (e4 : y4 = xs (v + 4).toNatClampNeg) (e5 : y5 = xs (v + 5).toNatClampNeg) (hc : cells + 4 ≤ 600000) (hs : slots + 149 ≤ 7302250) (hl : lv_has ls 4 [(3, .int v), (2, .ref (ad 42)), (1, .ref (ad 0)), (0, .ref b)]) (rx : Int32) (x_o_page_readers : Int32) (x_o_page_day : Int32) (x_o_tape_length : Int32) (x_o_page_heights : Nat → Int32) (x_o_page_highest : Nat → Int32) (x_o_page_marked : Nat → Int32) (x_o_page_shapes : Nat → Int32) (x_o_page_reckoner_letters : Nat → Int32) (x_o_page_reckoner_values : Nat → Int32) (x_o_sky_reckoner_letters : Nat → Int32) (x_o_sky_reckoner_values : Nat → Int32) (rm : Int32) (m_o_taped : Int32) (m_o_atA : Int32) (m_o_atB : Int32) (m_o_atD : Int32) (m_o_atF : Int32) (m_o_atG : Int32) (m_o_atH : Int32) (m_o_atL : Int32) (m_o_atM : Int32) (m_o_atN : Int32) (m_o_atS : Int32) (m_o_atT : Int32) (m_o_atU : Int32) (m_o_atX : Int32) (m_o_paperHigh : Int32) (m_o_paperShape : Int32) (m_o_first : Nat → Int32) (m_o_greatest : Nat → Int32) (m_o_highAt : Nat → Int32) (m_o_isRefused : Nat → Int32) (m_o_last : Nat → Int32) (m_o_marked : Nat → Int32) (m_o_shapeAt : Nat → Int32) (m_o_worth : Nat → Int32) (hfx : f_X11_check G (σ 13 5) (σ 13 6) (σ 8 2) (σ 8 3) (σ 1 1) (σ 14) (σ 16) (σ 17) (σ 15) (σ 2) (σ 19) (σ 20) (σ 11) (σ 12) y1 y2 y3 = some (rx, x_o_page_readers, x_o_page_day, x_o_tape_length, x_o_page_heights, x_o_page_highest, x_o_page_marked, x_o_page_shapes, x_o_page_reckoner_letters, x_o_page_reckoner_values, x_o_sky_reckoner_letters, x_o_sky_reckoner_values)) (hfm : f_X12_check (σ 42 1) (σ 42 2) (σ 42 3) (σ 42 28) (σ 42 29) (σ 42 30) (σ 42 31) (σ 42 32) (σ 42 33) (σ 42 34) (σ 42 35) (σ 42 36) (σ 42 37) (σ 42 38) (σ 42 39) (σ 42 40) (σ 42 48) (σ 42 49) (σ 58) (σ 48) (σ 49) (σ 46) (σ 47) (σ 65) (σ 67) (σ 63) (σ 57) (σ 66) (σ 44) (σ 68) (σ 59) (σ 61) (σ 64) (σ 45) (σ 43) (σ 62) (σ 60) (σ 56) y1 y2 y3 = some (rm, m_o_taped, m_o_atA, m_o_atB, m_o_atD, m_o_atF, m_o_atG, m_o_atH, m_o_atL, m_o_atM, m_o_atN, m_o_atS, m_o_atT, m_o_atU, m_o_atX, m_o_paperHigh, m_o_paperShape, m_o_first, m_o_greatest, m_o_highAt, m_o_isRefused, m_o_last, m_o_marked, m_o_shapeAt, m_o_worth)) (T : ∀ (H : Heap) (locs : List Loc) (ls : Array Slot), kV E A s.heap H locs (lWd E ad (lus (lus σ [(1, (upd (σ 1) 1 x_o_tape_length)), (11, x_o_sky_reckoner_letters), (12, x_o_sky_reckoner_values), (13, (upd (upd (σ 13) 5 x_o_page_readers) 6 x_o_page_day)), (14, x_o_page_heights), (15, x_o_page_shapes), (16, x_o_page_highest), (17, x_o_page_marked), (19, x_o_page_reckoner_letters), (20, x_o_page_reckoner_values)]) [(42, (upd (upd (upd (upd (upd (upd (upd (upd (upd (upd (upd (upd (upd (upd (upd (upd (σ 42) 1 m_o_taped) 28 m_o_atA) 29 m_o_atB) 30 m_o_atD) 31 m_o_atF) 32 m_o_atG) 33 m_o_atH) 34 m_o_atL) 35 m_o_atM) 36 m_o_atN) 37 m_o_atS) 38 m_o_atT) 39 m_o_atU) 40 m_o_atX) 48 m_o_paperHigh) 49 m_o_paperShape)), (56, m_o_worth), (57, m_o_isRefused), (63, m_o_highAt), (64, m_o_shapeAt), (65, m_o_first), (66, m_o_last), (67, m_o_greatest), (68, m_o_marked)]) G bv) → lv_has ls 4 [(3, .int v), (2, .ref (ad 42)), (1, .ref (ad 0)), (0, .ref b)] → W p l e room_1 s m #[Value.ref b] below meth c H locs (cells + 4) (slots + 149) Q (F0 m 1478 ls [])) : W p l e room_1 s m #[Value.ref b] below meth c H locs cells slots Q (F0 m 1412 ls []) := by
  have hx := X.1
  have hb := X.2.1
  refine lv_aload_n hx hb dL_law_1412 rfl (lv_at hl 2 rfl) ?_
  refine lv_aload_n hx hb dL_law_1413 rfl (lv_at hl 3 rfl) ?_
  refine lv_iload_n hx hb dL_law_1414 rfl (lv_at hl 0 rfl) ?_
  refine lv_iconst (v := 1) hx hb dL_law_1415 (by decide) ?_
  refine lv_iadd hx hb dL_law_1416 ?_
  refine ksld X hX hbl hbA hV (v := y1) (hin 1 (by decide) (by decide)) e1 dL_law_1417 ?_
  refine lv_aload_n hx hb dL_law_1418 rfl (lv_at hl 3 rfl) ?_
  refine lv_iload_n hx hb dL_law_1419 rfl (lv_at hl 0 rfl) ?_
  refine lv_iconst (v := 2) hx hb dL_law_1420 (by decide) ?_
  refine lv_iadd hx hb dL_law_1421 ?_
  refine ksld X hX hbl hbA hV (v := y2) (hin 2 (by decide) (by decide)) e2 dL_law_1422 ?_
  refine lv_aload_n hx hb dL_law_1423 rfl (lv_at hl 3 rfl) ?_
  refine lv_iload_n hx hb dL_law_1424 rfl (lv_at hl 0 rfl) ?_
  refine lv_iconst (v := 3) hx hb dL_law_1425 (by decide) ?_
  refine lv_iadd hx hb dL_law_1426 ?_
  refine ksld X hX hbl hbA hV (v := y3) (hin 3 (by decide) (by decide)) e3 dL_law_1427 ?_
  have hV1 := lopenP lq_X11_check hV
  clear hV
  refine kgoiP (krunV (rest := []) X hV1 (List.range _) (c_X11_check l E _ (ad 0) (ad 13) (ad 8) (ad 1) (ad 21) (ad 14) (ad 16) (ad 17) (ad 18) (ad 15) (ad 10) (ad 9) (ad 2) (ad 19) (ad 20) (ad 11) (ad 12) (.ref (ad 3)) (.ref (ad 22)) (.ref (ad 27)) (.ref (ad 30)) (.ref (ad 38)) G (σ 13 5) (σ 13 6) (σ 8 2) (σ 8 3) (σ 1 1) (σ 14) (σ 16) (σ 17) (σ 15) (σ 2) (σ 19) (σ 20) (σ 11) (σ 12) y1 y2 y3 rx x_o_page_readers x_o_page_day x_o_tape_length x_o_page_heights x_o_page_highest x_o_page_marked x_o_page_shapes x_o_page_reckoner_letters x_o_page_reckoner_values x_o_sky_reckoner_letters x_o_sky_reckoner_values hfx) mw_1304 kb_X11_check (ci := 11) rfl rfl (kndR _) (krg _ _) rfl hl.1 rfl (Nat.le_of_ble_eq_true rfl) dL_law_1428 ⟨rfl, rfl, (by decide), (by decide), (by show cells + 0 + 0 ≤ 600000; omega), (by show slots + 0 + 0 ≤ 7302250; omega)⟩) X hV1 (fun u H locs hV2 => ?_)
  have hV3 : kV E A s.heap H locs (lWd E ad (lus σ [(1, (upd (σ 1) 1 x_o_tape_length)), (11, x_o_sky_reckoner_letters), (12, x_o_sky_reckoner_values), (13, (upd (upd (σ 13) 5 x_o_page_readers) 6 x_o_page_day)), (14, x_o_page_heights), (15, x_o_page_shapes), (16, x_o_page_highest), (17, x_o_page_marked), (19, x_o_page_reckoner_letters), (20, x_o_page_reckoner_values)]) G bv) := lcloseP lq_X11_check (ks := [1, 11, 12, 13, 14, 15, 16, 17, 19, 20]) rfl (by decide +kernel) rfl hV2
  clear hV1 hV2
  refine lv_pop hx hb dL_law_1431 rfl ?_
  refine lv_aload_n hx hb dL_law_1432 rfl (lv_at hl 1 rfl) ?_
  refine lv_aload_n hx hb dL_law_1433 rfl (lv_at hl 3 rfl) ?_
  refine lv_iload_n hx hb dL_law_1434 rfl (lv_at hl 0 rfl) ?_
  refine lv_iconst (v := 1) hx hb dL_law_1435 (by decide) ?_
  refine lv_iadd hx hb dL_law_1436 ?_
  refine ksld X hX hbl hbA hV3 (v := y1) (hin 1 (by decide) (by decide)) e1 dL_law_1437 ?_
  refine lv_aload_n hx hb dL_law_1438 rfl (lv_at hl 3 rfl) ?_
  refine lv_iload_n hx hb dL_law_1439 rfl (lv_at hl 0 rfl) ?_
  refine lv_iconst (v := 2) hx hb dL_law_1440 (by decide) ?_
  refine lv_iadd hx hb dL_law_1441 ?_
  refine ksld X hX hbl hbA hV3 (v := y2) (hin 2 (by decide) (by decide)) e2 dL_law_1442 ?_
  refine lv_aload_n hx hb dL_law_1443 rfl (lv_at hl 3 rfl) ?_
  refine lv_iload_n hx hb dL_law_1444 rfl (lv_at hl 0 rfl) ?_
  refine lv_iconst (v := 3) hx hb dL_law_1445 (by decide) ?_
  refine lv_iadd hx hb dL_law_1446 ?_
  refine ksld X hX hbl hbA hV3 (v := y3) (hin 3 (by decide) (by decide)) e3 dL_law_1447 ?_
  have hV4 := lopen lq_X12_check hV3
  clear hV3
  refine kgoiT (krunV (rest := []) X hV4 (List.range _) (c_X12_check l E _ (ad 42) (ad 58) (ad 48) (ad 49) (ad 46) (ad 47) (ad 65) (ad 67) (ad 63) (ad 57) (ad 66) (ad 44) (ad 68) (ad 59) (ad 61) (ad 64) (ad 45) (ad 43) (ad 62) (ad 60) (ad 56) (.int (σ 42 4)) (.int (σ 42 5)) (.int (σ 42 6)) (.ref (ad 50)) (.ref (ad 51)) (.ref (ad 52)) (.ref (ad 53)) (.ref (ad 54)) (.int (σ 42 18)) (.int (σ 42 19)) (.int (σ 42 20)) (.int (σ 42 21)) (.int (σ 42 22)) (.int (σ 42 23)) (.int (σ 42 24)) (.int (σ 42 25)) (.int (σ 42 26)) (.ref (ad 55)) (.ref (ad 69)) (.ref (ad 70)) (.ref (ad 71)) (.ref (ad 72)) (.int (σ 42 60)) (.int (σ 42 61)) (.int (σ 42 62)) (.ref (ad 73)) (.ref (ad 74)) (.ref (ad 75)) (.ref (ad 76)) (σ 42 1) (σ 42 2) (σ 42 3) (σ 42 28) (σ 42 29) (σ 42 30) (σ 42 31) (σ 42 32) (σ 42 33) (σ 42 34) (σ 42 35) (σ 42 36) (σ 42 37) (σ 42 38) (σ 42 39) (σ 42 40) (σ 42 48) (σ 42 49) (σ 58) (σ 48) (σ 49) (σ 46) (σ 47) (σ 65) (σ 67) (σ 63) (σ 57) (σ 66) (σ 44) (σ 68) (σ 59) (σ 61) (σ 64) (σ 45) (σ 43) (σ 62) (σ 60) (σ 56) y1 y2 y3 rm m_o_taped m_o_atA m_o_atB m_o_atD m_o_atF m_o_atG m_o_atH m_o_atL m_o_atM m_o_atN m_o_atS m_o_atT m_o_atU m_o_atX m_o_paperHigh m_o_paperShape m_o_first m_o_greatest m_o_highAt m_o_isRefused m_o_last m_o_marked m_o_shapeAt m_o_worth hfm) mw_1316 kb_X12_check (ci := 12) rfl rfl (kndR _) (krg _ _) rfl hl.1 rfl (Nat.le_of_ble_eq_true rfl) dL_law_1448 ⟨rfl, rfl, (by decide), (by decide), (by show cells + 0 + 0 ≤ 600000; omega), (by show slots + 0 + 0 ≤ 7302250; omega)⟩) X hV4 (fun u H locs hV5 => ?_)
  have hV6 : kV E A s.heap H locs (lWd E ad (lus (lus σ [(1, (upd (σ 1) 1 x_o_tape_length)), (11, x_o_sky_reckoner_letters), (12, x_o_sky_reckoner_values), (13, (upd (upd (σ 13) 5 x_o_page_readers) 6 x_o_page_day)), (14, x_o_page_heights), (15, x_o_page_shapes), (16, x_o_page_highest), (17, x_o_page_marked), (19, x_o_page_reckoner_letters), (20, x_o_page_reckoner_values)]) [(42, (upd (upd (upd (upd (upd (upd (upd (upd (upd (upd (upd (upd (upd (upd (upd (upd (σ 42) 1 m_o_taped) 28 m_o_atA) 29 m_o_atB) 30 m_o_atD) 31 m_o_atF) 32 m_o_atG) 33 m_o_atH) 34 m_o_atL) 35 m_o_atM) 36 m_o_atN) 37 m_o_atS) 38 m_o_atT) 39 m_o_atU) 40 m_o_atX) 48 m_o_paperHigh) 49 m_o_paperShape)), (56, m_o_worth), (57, m_o_isRefused), (63, m_o_highAt), (64, m_o_shapeAt), (65, m_o_first), (66, m_o_last), (67, m_o_greatest), (68, m_o_marked)]) G bv) := lclose lq_X12_check (ks := [42, 56, 57, 63, 64, 65, 66, 67, 68]) rfl (by decide +kernel) rfl hV5
  clear hV4 hV5
  refine lv_pop hx hb dL_law_1451 rfl ?_
  refine lv_goto (tgt := 1478) hx hb dL_law_1452 (by decide) ?_
  refine W.widen (k := cells + 4) (n := slots + 149) (by omega) (by omega) ?_
  exact T _ _ _ hV6 hl
set_option maxHeartbeats 4000000 in
set_option maxRecDepth 100000 in
theorem lc_31 {p : Program} {l : Launch} {e : Env} {s : State} {m : MethodId} {below : List Frame} {meth : Method} {c : Code} {E : kE} {A : Nat → Prop} {b L : Nat} {xs : Nat → Int32} {Q : State → Prop} {H : Heap} {locs : List Loc} {ls : Array Slot} {ad : Nat → Nat} {σ : Nat → Nat → Int32} {G : kG} {bv : Value} {v y1 y2 y3 y4 y5 : Int32} {cells slots : Nat} (X : kC p s m c code 4 RL #[Value.ref b] E A) (hX : va_X b L xs s s.heap) (hbl : b < s.heap.size) (hbA : ¬ A b) (hV : kV E A s.heap H locs (lWd E ad σ G bv)) (hin : ∀ j : Int32, 0 ≤ j.toInt → j.toInt ≤ 5 → vp_in (v + j) L) (e1 : y1 = xs (v + 1).toNatClampNeg) (e2 : y2 = xs (v + 2).toNatClampNeg) (e3 : y3 = xs (v + 3).toNatClampNeg) (e4 : y4 = xs (v + 4).toNatClampNeg) (e5 : y5 = xs (v + 5).toNatClampNeg) (hc : cells + 4 ≤ 600000) (hs : slots + 149 ≤ 7302250) (hl : lv_has ls 4 [(3, .int v), (2, .ref (ad 42)), (1, .ref (ad 0)), (0, .ref b)]) (rx : Int32) (rm : Int32) (hfx : f_X11_count G (σ 27 2) (σ 30 5) (σ 22 4) (σ 8 2) (σ 8 3) (σ 1 1) y1 = some (rx)) (hfm : f_X12_count (σ 42 1) (σ 42 2) (σ 42 3) (σ 42 4) (σ 42 5) (σ 42 6) (σ 44) y1 = some (rm)) (T : ∀ (H : Heap) (locs : List Loc) (ls : Array Slot), kV E A s.heap H locs (lWd E ad (lus (lus σ []) []) G bv) → lv_has ls 4 [(3, .int v), (2, .ref (ad 42)), (1, .ref (ad 0)), (0, .ref b)] → W p l e room_1 s m #[Value.ref b] below meth c H locs (cells + 4) (slots + 149) Q (F0 m 1478 ls [])) : W p l e room_1 s m #[Value.ref b] below meth c H locs cells slots Q (F0 m 1455 ls []) := by
  have hx := X.1
  have hb := X.2.1
  refine lv_aload_n hx hb dL_law_1455 rfl (lv_at hl 2 rfl) ?_
  refine lv_aload_n hx hb dL_law_1456 rfl (lv_at hl 3 rfl) ?_
  refine lv_iload_n hx hb dL_law_1457 rfl (lv_at hl 0 rfl) ?_
  refine lv_iconst (v := 1) hx hb dL_law_1458 (by decide) ?_
  refine lv_iadd hx hb dL_law_1459 ?_
  refine ksld X hX hbl hbA hV (v := y1) (hin 1 (by decide) (by decide)) e1 dL_law_1460 ?_
  have hV1 := lopenP lq_X11_count hV
  clear hV
  refine kgoiP (krunV (rest := []) X hV1 (List.range _) (c_X11_count l E _ (ad 0) (ad 27) (ad 30) (ad 22) (ad 8) (ad 1) (ad 21) (ad 37) (ad 9) (.ref (ad 3)) (.ref (ad 13)) (.ref (ad 38)) (.ref (ad 28)) (.ref (ad 29)) (.int (σ 27 3)) (.int (σ 27 4)) (.int (σ 27 5)) (.ref (ad 31)) (.ref (ad 32)) (.ref (ad 33)) (.ref (ad 34)) (.ref (ad 23)) (.ref (ad 24)) (.ref (ad 25)) (.ref (ad 26)) (.ref (ad 10)) (.ref (ad 2)) G (σ 27 2) (σ 30 5) (σ 22 4) (σ 8 2) (σ 8 3) (σ 1 1) y1 rx hfx) mw_1324 kb_X11_count (ci := 11) rfl rfl (kndR _) (krg _ _) rfl hl.1 rfl (Nat.le_of_ble_eq_true rfl) dL_law_1461 ⟨rfl, rfl, (by decide), (by decide), (by show cells + 0 + 0 ≤ 600000; omega), (by show slots + 0 + 0 ≤ 7302250; omega)⟩) X hV1 (fun u H locs hV2 => ?_)
  have hV3 : kV E A s.heap H locs (lWd E ad (lus σ []) G bv) := lcloseP lq_X11_count (ks := []) rfl (by decide +kernel) rfl hV2
  clear hV1 hV2
  refine lv_pop hx hb dL_law_1464 rfl ?_
  refine lv_aload_n hx hb dL_law_1465 rfl (lv_at hl 1 rfl) ?_
  refine lv_aload_n hx hb dL_law_1466 rfl (lv_at hl 3 rfl) ?_
  refine lv_iload_n hx hb dL_law_1467 rfl (lv_at hl 0 rfl) ?_
  refine lv_iconst (v := 1) hx hb dL_law_1468 (by decide) ?_
  refine lv_iadd hx hb dL_law_1469 ?_
  refine ksld X hX hbl hbA hV3 (v := y1) (hin 1 (by decide) (by decide)) e1 dL_law_1470 ?_
  have hV4 := lopen lq_X12_count hV3
  clear hV3
  refine kgoiT (krunV (rest := []) X hV4 (List.range _) (c_X12_count l E _ (ad 42) (ad 44) (.ref (ad 43)) (.ref (ad 45)) (.ref (ad 46)) (.ref (ad 47)) (.ref (ad 48)) (.ref (ad 49)) (.ref (ad 50)) (.ref (ad 51)) (.ref (ad 52)) (.ref (ad 53)) (.ref (ad 54)) (.int (σ 42 18)) (.int (σ 42 19)) (.int (σ 42 20)) (.int (σ 42 21)) (.int (σ 42 22)) (.int (σ 42 23)) (.int (σ 42 24)) (.int (σ 42 25)) (.int (σ 42 26)) (.ref (ad 55)) (.int (σ 42 28)) (.int (σ 42 29)) (.int (σ 42 30)) (.int (σ 42 31)) (.int (σ 42 32)) (.int (σ 42 33)) (.int (σ 42 34)) (.int (σ 42 35)) (.int (σ 42 36)) (.int (σ 42 37)) (.int (σ 42 38)) (.int (σ 42 39)) (.int (σ 42 40)) (.ref (ad 56)) (.ref (ad 57)) (.ref (ad 58)) (.ref (ad 59)) (.ref (ad 60)) (.ref (ad 61)) (.ref (ad 62)) (.int (σ 42 48)) (.int (σ 42 49)) (.ref (ad 63)) (.ref (ad 64)) (.ref (ad 65)) (.ref (ad 66)) (.ref (ad 67)) (.ref (ad 68)) (.ref (ad 69)) (.ref (ad 70)) (.ref (ad 71)) (.ref (ad 72)) (.int (σ 42 60)) (.int (σ 42 61)) (.int (σ 42 62)) (.ref (ad 73)) (.ref (ad 74)) (.ref (ad 75)) (.ref (ad 76)) (σ 42 1) (σ 42 2) (σ 42 3) (σ 42 4) (σ 42 5) (σ 42 6) (σ 44) y1 rm hfm) mw_1336 kb_X12_count (ci := 12) rfl rfl (kndR _) (krg _ _) rfl hl.1 rfl (Nat.le_of_ble_eq_true rfl) dL_law_1471 ⟨rfl, rfl, (by decide), (by decide), (by show cells + 0 + 0 ≤ 600000; omega), (by show slots + 0 + 0 ≤ 7302250; omega)⟩) X hV4 (fun u H locs hV5 => ?_)
  have hV6 : kV E A s.heap H locs (lWd E ad (lus (lus σ []) []) G bv) := lclose lq_X12_count (ks := []) rfl (by decide +kernel) rfl hV5
  clear hV4 hV5
  refine lv_pop hx hb dL_law_1474 rfl ?_
  refine lv_goto (tgt := 1478) hx hb dL_law_1475 (by decide) ?_
  refine W.widen (k := cells + 4) (n := slots + 149) (by omega) (by omega) ?_
  exact T _ _ _ hV6 hl
