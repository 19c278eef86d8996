set_option maxHeartbeats 4000000 in
set_option maxRecDepth 100000 in
theorem lc_24 {p : Program} {l : Launch} {e : Env} {s : State} {m : MethodId} {below : List Frame} {meth : Method} {c : Code} {E : kE} {A : Nat → Prop} {b : Nat} {xs : Nat → Int32} {Q : State → Prop} {H : Heap} {locs : List Loc} {ls : Array Slot} {ad : Nat → Nat} (X : kC p s m c code 4 RL #[Value.ref b] E A) (hX : va_X b 6 xs s s.heap) (hbl : b < s.heap.size) (hbA : ¬ A b) (hV : kV E A s.heap H locs (lW E ad)) (hl : lv_has ls 4 [(3, .int 0), (2, .ref (ad 42)), (1, .ref (ad 0)), (0, .ref b)]) (r : Int32) (x_o_nights_fallen : Nat → Int32) (hfx : f_X11_told 0 (fun _ => 0) (fun _ => none) (xs 1) (xs 2) = some (r, x_o_nights_fallen)) (hfm : f_X12_told 0 (fun _ => 0) (xs 1) (xs 2) = some (r)) (T : ∀ (H : Heap) (locs : List Loc) (ls : Array Slot), va_S A s.heap H locs → lv_has ls 4 [(3, .int 0), (2, .ref (ad 42)), (1, .ref (ad 0)), (0, .ref b)] → W p l e room_1 s m #[Value.ref b] below meth c H locs 1000 100000 Q (F0 m 1479 ls [])) : W p l e room_1 s m #[Value.ref b] below meth c H locs 900 90000 Q (F0 m 1144 ls []) := by
  have hx := X.1
  have hb := X.2.1
  have hV0 : kV E A s.heap H locs [((ad 0), .inr (11, [.ref (ad 1), .ref (ad 3), .ref (ad 8), .ref (ad 13), .ref (ad 21), .ref (ad 22), .ref (ad 27), .ref (ad 30), .ref (ad 38)])), ((ad 30), .inr (2, [.ref (ad 31), .ref (ad 32), .ref (ad 33), .ref (ad 34), .ref (ad 37), .int 0])), ((ad 33), .inl (E.2 0, 6, .inl (fun _ => 0))), ((ad 37), .inl (E.2 4, 6, .inr (.inr (.inr (.inr (fun _ => none)))))), ((ad 42), .inr (12, [.ref (ad 43), .int 0, .int 0, .int 0, .int 0, .int 0, .int 0, .ref (ad 44), .ref (ad 45), .ref (ad 46), .ref (ad 47), .ref (ad 48), .ref (ad 49), .ref (ad 50), .ref (ad 51), .ref (ad 52), .ref (ad 53), .ref (ad 54), .int 0, .int 0, .int 0, .int 0, .int 0, .int 0, .int 0, .int 0, .int 0, .ref (ad 55), .int 0, .int 0, .int 0, .int 0, .int 0, .int 0, .int 0, .int 0, .int 0, .int 0, .int 0, .int 0, .int 0, .ref (ad 56), .ref (ad 57), .ref (ad 58), .ref (ad 59), .ref (ad 60), .ref (ad 61), .ref (ad 62), .int 0, .int 0, .ref (ad 63), .ref (ad 64), .ref (ad 65), .ref (ad 66), .ref (ad 67), .ref (ad 68), .ref (ad 69), .ref (ad 70), .ref (ad 71), .ref (ad 72), .int 0, .int 0, .int 0, .ref (ad 73), .ref (ad 74), .ref (ad 75), .ref (ad 76)])), ((ad 44), .inl (E.2 0, 20, .inl (fun _ => 0)))] := hV.sub [0, 30, 33, 37, 42, 44] rfl rfl
  clear hV
  refine lv_aload_n hx hb dL_law_1144 rfl (lv_at hl 2 rfl) ?_
  refine lv_aload_n hx hb dL_law_1145 rfl (lv_at hl 3 rfl) ?_
  refine lv_iload_n hx hb dL_law_1146 rfl (lv_at hl 0 rfl) ?_
  refine lv_iconst (v := 1) hx hb dL_law_1147 (by decide) ?_
  refine lv_iadd hx hb dL_law_1148 ?_
  refine ksld X hX hbl hbA hV0 (v := xs 1) (vp_in_iff.mpr (by decide)) (congrArg xs (by decide)) dL_law_1149 ?_
  refine lv_aload_n hx hb dL_law_1150 rfl (lv_at hl 3 rfl) ?_
  refine lv_iload_n hx hb dL_law_1151 rfl (lv_at hl 0 rfl) ?_
  refine lv_iconst (v := 2) hx hb dL_law_1152 (by decide) ?_
  refine lv_iadd hx hb dL_law_1153 ?_
  refine ksld X hX hbl hbA hV0 (v := xs 2) (vp_in_iff.mpr (by decide)) (congrArg xs (by decide)) dL_law_1154 ?_
  refine kgoiE (krunV (rest := []) X hV0 [0, 1, 2, 3] (c_X11_told l E _ (ad 0) (ad 30) (ad 33) (ad 37) (.ref (ad 1)) (.ref (ad 3)) (.ref (ad 8)) (.ref (ad 13)) (.ref (ad 21)) (.ref (ad 22)) (.ref (ad 27)) (.ref (ad 38)) (.ref (ad 31)) (.ref (ad 32)) (.ref (ad 34)) 0 (fun _ => 0) (fun _ => none) (xs 1) (xs 2) r x_o_nights_fallen hfx) mw_1168 kb_X11_told (ci := 11) rfl rfl (by decide) rfl rfl hl.1 rfl (Nat.le_of_ble_eq_true rfl) dL_law_1155 (by decide)) X hV0 [0, 1, 2, 3] [4, 5] rfl rfl rfl (by decide) (fun u1155 H locs hV1 => ?_)
  have hV1 : kV E A s.heap H locs [((ad 0), .inr (11, [.ref (ad 1), .ref (ad 3), .ref (ad 8), .ref (ad 13), .ref (ad 21), .ref (ad 22), .ref (ad 27), .ref (ad 30), .ref (ad 38)])), ((ad 30), .inr (2, [.ref (ad 31), .ref (ad 32), .ref (ad 33), .ref (ad 34), .ref (ad 37), .int 0])), (ad 33, .inl (E.2 0, 6, .inl x_o_nights_fallen)), ((ad 37), .inl (E.2 4, 6, .inr (.inr (.inr (.inr (fun _ => none)))))), ((ad 42), .inr (12, [.ref (ad 43), .int 0, .int 0, .int 0, .int 0, .int 0, .int 0, .ref (ad 44), .ref (ad 45), .ref (ad 46), .ref (ad 47), .ref (ad 48), .ref (ad 49), .ref (ad 50), .ref (ad 51), .ref (ad 52), .ref (ad 53), .ref (ad 54), .int 0, .int 0, .int 0, .int 0, .int 0, .int 0, .int 0, .int 0, .int 0, .ref (ad 55), .int 0, .int 0, .int 0, .int 0, .int 0, .int 0, .int 0, .int 0, .int 0, .int 0, .int 0, .int 0, .int 0, .ref (ad 56), .ref (ad 57), .ref (ad 58), .ref (ad 59), .ref (ad 60), .ref (ad 61), .ref (ad 62), .int 0, .int 0, .ref (ad 63), .ref (ad 64), .ref (ad 65), .ref (ad 66), .ref (ad 67), .ref (ad 68), .ref (ad 69), .ref (ad 70), .ref (ad 71), .ref (ad 72), .int 0, .int 0, .int 0, .ref (ad 73), .ref (ad 74), .ref (ad 75), .ref (ad 76)])), ((ad 44), .inl (E.2 0, 20, .inl (fun _ => 0)))] := hV1.sub [2, 3, 4, 5, 0, 1] rfl rfl
  clear hV0
  refine lv_aload_n hx hb dL_law_1158 rfl (lv_at hl 1 rfl) ?_
  refine lv_aload_n hx hb dL_law_1159 rfl (lv_at hl 3 rfl) ?_
  refine lv_iload_n hx hb dL_law_1160 rfl (lv_at hl 0 rfl) ?_
  refine lv_iconst (v := 1) hx hb dL_law_1161 (by decide) ?_
  refine lv_iadd hx hb dL_law_1162 ?_
  refine ksld X hX hbl hbA hV1 (v := xs 1) (vp_in_iff.mpr (by decide)) (congrArg xs (by decide)) dL_law_1163 ?_
  refine lv_aload_n hx hb dL_law_1164 rfl (lv_at hl 3 rfl) ?_
  refine lv_iload_n hx hb dL_law_1165 rfl (lv_at hl 0 rfl) ?_
  refine lv_iconst (v := 2) hx hb dL_law_1166 (by decide) ?_
  refine lv_iadd hx hb dL_law_1167 ?_
  refine ksld X hX hbl hbA hV1 (v := xs 2) (vp_in_iff.mpr (by decide)) (congrArg xs (by decide)) dL_law_1168 ?_
  refine kgoiE (krunV (rest := [.int r]) X hV1 [4, 5] (c_X12_told l E _ (ad 42) (ad 44) (.ref (ad 43)) (.int 0) (.int 0) (.int 0) (.int 0) (.int 0) (.ref (ad 45)) (.ref (ad 46)) (.ref (ad 47)) (.ref (ad 48)) (.ref (ad 49)) (.ref (ad 50)) (.ref (ad 51)) (.ref (ad 52)) (.ref (ad 53)) (.ref (ad 54)) (.int 0) (.int 0) (.int 0) (.int 0) (.int 0) (.int 0) (.int 0) (.int 0) (.int 0) (.ref (ad 55)) (.int 0) (.int 0) (.int 0) (.int 0) (.int 0) (.int 0) (.int 0) (.int 0) (.int 0) (.int 0) (.int 0) (.int 0) (.int 0) (.ref (ad 56)) (.ref (ad 57)) (.ref (ad 58)) (.ref (ad 59)) (.ref (ad 60)) (.ref (ad 61)) (.ref (ad 62)) (.int 0) (.int 0) (.ref (ad 63)) (.ref (ad 64)) (.ref (ad 65)) (.ref (ad 66)) (.ref (ad 67)) (.ref (ad 68)) (.ref (ad 69)) (.ref (ad 70)) (.ref (ad 71)) (.ref (ad 72)) (.int 0) (.int 0) (.int 0) (.ref (ad 73)) (.ref (ad 74)) (.ref (ad 75)) (.ref (ad 76)) 0 (fun _ => 0) (xs 1) (xs 2) r hfm) mw_1177 kb_X12_told (ci := 12) rfl rfl (by decide) rfl rfl hl.1 rfl (Nat.le_of_ble_eq_true rfl) dL_law_1169 (by decide)) X hV1 [4, 5] [0, 1, 2, 3] rfl rfl rfl (by decide) (fun u1169 H locs hV2 => ?_)
  have hV2 : kV E A s.heap H locs [((ad 0), .inr (11, [.ref (ad 1), .ref (ad 3), .ref (ad 8), .ref (ad 13), .ref (ad 21), .ref (ad 22), .ref (ad 27), .ref (ad 30), .ref (ad 38)])), ((ad 30), .inr (2, [.ref (ad 31), .ref (ad 32), .ref (ad 33), .ref (ad 34), .ref (ad 37), .int 0])), (ad 33, .inl (E.2 0, 6, .inl x_o_nights_fallen)), ((ad 37), .inl (E.2 4, 6, .inr (.inr (.inr (.inr (fun _ => none)))))), ((ad 42), .inr (12, [.ref (ad 43), .int 0, .int 0, .int 0, .int 0, .int 0, .int 0, .ref (ad 44), .ref (ad 45), .ref (ad 46), .ref (ad 47), .ref (ad 48), .ref (ad 49), .ref (ad 50), .ref (ad 51), .ref (ad 52), .ref (ad 53), .ref (ad 54), .int 0, .int 0, .int 0, .int 0, .int 0, .int 0, .int 0, .int 0, .int 0, .ref (ad 55), .int 0, .int 0, .int 0, .int 0, .int 0, .int 0, .int 0, .int 0, .int 0, .int 0, .int 0, .int 0, .int 0, .ref (ad 56), .ref (ad 57), .ref (ad 58), .ref (ad 59), .ref (ad 60), .ref (ad 61), .ref (ad 62), .int 0, .int 0, .ref (ad 63), .ref (ad 64), .ref (ad 65), .ref (ad 66), .ref (ad 67), .ref (ad 68), .ref (ad 69), .ref (ad 70), .ref (ad 71), .ref (ad 72), .int 0, .int 0, .int 0, .ref (ad 73), .ref (ad 74), .ref (ad 75), .ref (ad 76)])), ((ad 44), .inl (E.2 0, 20, .inl (fun _ => 0)))] := hV2.sub [0, 1, 2, 3, 4, 5] rfl rfl
  clear hV1
  refine lv_icmp_eq (tgt := 1479) hx hb dL_law_1172 (by decide) (fun _ => ?_) (fun c3 => absurd rfl c3)
  refine W.widen (k := 1000) (n := 100000) (by decide) (by decide) ?_
  exact T _ _ _ hV2.2.2 hl
set_option maxHeartbeats 4000000 in
set_option maxRecDepth 100000 in
theorem lc_25 {p : Program} {l : Launch} {e : Env} {s : State} {m : MethodId} {below : List Frame} {meth : Method} {c : Code} {E : kE} {A : Nat → Prop} {b : Nat} {xs : Nat → Int32} {Q : State → Prop} {H : Heap} {locs : List Loc} {ls : Array Slot} {ad : Nat → Nat} (X : kC p s m c code 4 RL #[Value.ref b] E A) (hX : va_X b 6 xs s s.heap) (hbl : b < s.heap.size) (hbA : ¬ A b) (hV : kV E A s.heap H locs (lW E ad)) (hl : lv_has ls 4 [(3, .int 0), (2, .ref (ad 42)), (1, .ref (ad 0)), (0, .ref b)]) (r : Int32) (hfx : f_X11_bound 0 (fun _ => 0) (xs 1) (xs 2) = some (r)) (hfm : f_X12_bound 0 (fun _ => 0) (fun _ => 0) (xs 1) (xs 2) = some (r)) (T : ∀ (H : Heap) (locs : List Loc) (ls : Array Slot), va_S A s.heap H locs → lv_has ls 4 [(3, .int 0), (2, .ref (ad 42)), (1, .ref (ad 0)), (0, .ref b)] → W p l e room_1 s m #[Value.ref b] below meth c H locs 1000 100000 Q (F0 m 1479 ls [])) : W p l e room_1 s m #[Value.ref b] below meth c H locs 900 90000 Q (F0 m 1177 ls []) := by
  have hx := X.1
  have hb := X.2.1
  have hV0 : kV E A s.heap H locs [((ad 0), .inr (11, [.ref (ad 1), .ref (ad 3), .ref (ad 8), .ref (ad 13), .ref (ad 21), .ref (ad 22), .ref (ad 27), .ref (ad 30), .ref (ad 38)])), ((ad 30), .inr (2, [.ref (ad 31), .ref (ad 32), .ref (ad 33), .ref (ad 34), .ref (ad 37), .int 0])), ((ad 31), .inl (E.2 0, 30, .inl (fun _ => 0))), ((ad 42), .inr (12, [.ref (ad 43), .int 0, .int 0, .int 0, .int 0, .int 0, .int 0, .ref (ad 44), .ref (ad 45), .ref (ad 46), .ref (ad 47), .ref (ad 48), .ref (ad 49), .ref (ad 50), .ref (ad 51), .ref (ad 52), .ref (ad 53), .ref (ad 54), .int 0, .int 0, .int 0, .int 0, .int 0, .int 0, .int 0, .int 0, .int 0, .ref (ad 55), .int 0, .int 0, .int 0, .int 0, .int 0, .int 0, .int 0, .int 0, .int 0, .int 0, .int 0, .int 0, .int 0, .ref (ad 56), .ref (ad 57), .ref (ad 58), .ref (ad 59), .ref (ad 60), .ref (ad 61), .ref (ad 62), .int 0, .int 0, .ref (ad 63), .ref (ad 64), .ref (ad 65), .ref (ad 66), .ref (ad 67), .ref (ad 68), .ref (ad 69), .ref (ad 70), .ref (ad 71), .ref (ad 72), .int 0, .int 0, .int 0, .ref (ad 73), .ref (ad 74), .ref (ad 75), .ref (ad 76)])), ((ad 74), .inl (E.2 0, 30, .inl (fun _ => 0))), ((ad 73), .inl (E.2 0, 30, .inl (fun _ => 0)))] := hV.sub [0, 30, 31, 42, 74, 73] rfl rfl
  clear hV
  refine lv_aload_n hx hb dL_law_1177 rfl (lv_at hl 2 rfl) ?_
  refine lv_aload_n hx hb dL_law_1178 rfl (lv_at hl 3 rfl) ?_
  refine lv_iload_n hx hb dL_law_1179 rfl (lv_at hl 0 rfl) ?_
  refine lv_iconst (v := 1) hx hb dL_law_1180 (by decide) ?_
  refine lv_iadd hx hb dL_law_1181 ?_
  refine ksld X hX hbl hbA hV0 (v := xs 1) (vp_in_iff.mpr (by decide)) (congrArg xs (by decide)) dL_law_1182 ?_
  refine lv_aload_n hx hb dL_law_1183 rfl (lv_at hl 3 rfl) ?_
  refine lv_iload_n hx hb dL_law_1184 rfl (lv_at hl 0 rfl) ?_
  refine lv_iconst (v := 2) hx hb dL_law_1185 (by decide) ?_
  refine lv_iadd hx hb dL_law_1186 ?_
  refine ksld X hX hbl hbA hV0 (v := xs 2) (vp_in_iff.mpr (by decide)) (congrArg xs (by decide)) dL_law_1187 ?_
  refine kgoiE (krunV (rest := []) X hV0 [0, 1, 2] (c_X11_bound l E _ (ad 0) (ad 30) (ad 31) (.ref (ad 1)) (.ref (ad 3)) (.ref (ad 8)) (.ref (ad 13)) (.ref (ad 21)) (.ref (ad 22)) (.ref (ad 27)) (.ref (ad 38)) (.ref (ad 32)) (.ref (ad 33)) (.ref (ad 34)) (.ref (ad 37)) 0 (fun _ => 0) (xs 1) (xs 2) r hfx) mw_1181 kb_X11_bound (ci := 11) rfl rfl (by decide) rfl rfl hl.1 rfl (Nat.le_of_ble_eq_true rfl) dL_law_1188 (by decide)) X hV0 [0, 1, 2] [3, 4, 5] rfl rfl rfl (by decide) (fun u1188 H locs hV1 => ?_)
  have hV1 : kV E A s.heap H locs [((ad 0), .inr (11, [.ref (ad 1), .ref (ad 3), .ref (ad 8), .ref (ad 13), .ref (ad 21), .ref (ad 22), .ref (ad 27), .ref (ad 30), .ref (ad 38)])), ((ad 30), .inr (2, [.ref (ad 31), .ref (ad 32), .ref (ad 33), .ref (ad 34), .ref (ad 37), .int 0])), ((ad 31), .inl (E.2 0, 30, .inl (fun _ => 0))), ((ad 42), .inr (12, [.ref (ad 43), .int 0, .int 0, .int 0, .int 0, .int 0, .int 0, .ref (ad 44), .ref (ad 45), .ref (ad 46), .ref (ad 47), .ref (ad 48), .ref (ad 49), .ref (ad 50), .ref (ad 51), .ref (ad 52), .ref (ad 53), .ref (ad 54), .int 0, .int 0, .int 0, .int 0, .int 0, .int 0, .int 0, .int 0, .int 0, .ref (ad 55), .int 0, .int 0, .int 0, .int 0, .int 0, .int 0, .int 0, .int 0, .int 0, .int 0, .int 0, .int 0, .int 0, .ref (ad 56), .ref (ad 57), .ref (ad 58), .ref (ad 59), .ref (ad 60), .ref (ad 61), .ref (ad 62), .int 0, .int 0, .ref (ad 63), .ref (ad 64), .ref (ad 65), .ref (ad 66), .ref (ad 67), .ref (ad 68), .ref (ad 69), .ref (ad 70), .ref (ad 71), .ref (ad 72), .int 0, .int 0, .int 0, .ref (ad 73), .ref (ad 74), .ref (ad 75), .ref (ad 76)])), ((ad 74), .inl (E.2 0, 30, .inl (fun _ => 0))), ((ad 73), .inl (E.2 0, 30, .inl (fun _ => 0)))] := hV1.sub [3, 4, 5, 0, 1, 2] rfl rfl
  clear hV0
  refine lv_aload_n hx hb dL_law_1191 rfl (lv_at hl 1 rfl) ?_
  refine lv_aload_n hx hb dL_law_1192 rfl (lv_at hl 3 rfl) ?_
  refine lv_iload_n hx hb dL_law_1193 rfl (lv_at hl 0 rfl) ?_
  refine lv_iconst (v := 1) hx hb dL_law_1194 (by decide) ?_
  refine lv_iadd hx hb dL_law_1195 ?_
  refine ksld X hX hbl hbA hV1 (v := xs 1) (vp_in_iff.mpr (by decide)) (congrArg xs (by decide)) dL_law_1196 ?_
  refine lv_aload_n hx hb dL_law_1197 rfl (lv_at hl 3 rfl) ?_
  refine lv_iload_n hx hb dL_law_1198 rfl (lv_at hl 0 rfl) ?_
  refine lv_iconst (v := 2) hx hb dL_law_1199 (by decide) ?_
  refine lv_iadd hx hb dL_law_1200 ?_
  refine ksld X hX hbl hbA hV1 (v := xs 2) (vp_in_iff.mpr (by decide)) (congrArg xs (by decide)) dL_law_1201 ?_
  refine kgoiE (krunV (rest := [.int r]) X hV1 [3, 4, 5] (c_X12_bound l E _ (ad 42) (ad 74) (ad 73) (.ref (ad 43)) (.int 0) (.int 0) (.int 0) (.int 0) (.int 0) (.ref (ad 44)) (.ref (ad 45)) (.ref (ad 46)) (.ref (ad 47)) (.ref (ad 48)) (.ref (ad 49)) (.ref (ad 50)) (.ref (ad 51)) (.ref (ad 52)) (.ref (ad 53)) (.ref (ad 54)) (.int 0) (.int 0) (.int 0) (.int 0) (.int 0) (.int 0) (.int 0) (.int 0) (.int 0) (.ref (ad 55)) (.int 0) (.int 0) (.int 0) (.int 0) (.int 0) (.int 0) (.int 0) (.int 0) (.int 0) (.int 0) (.int 0) (.int 0) (.int 0) (.ref (ad 56)) (.ref (ad 57)) (.ref (ad 58)) (.ref (ad 59)) (.ref (ad 60)) (.ref (ad 61)) (.ref (ad 62)) (.int 0) (.int 0) (.ref (ad 63)) (.ref (ad 64)) (.ref (ad 65)) (.ref (ad 66)) (.ref (ad 67)) (.ref (ad 68)) (.ref (ad 69)) (.ref (ad 70)) (.ref (ad 71)) (.ref (ad 72)) (.int 0) (.int 0) (.int 0) (.ref (ad 75)) (.ref (ad 76)) 0 (fun _ => 0) (fun _ => 0) (xs 1) (xs 2) r hfm) mw_1199 kb_X12_bound (ci := 12) rfl rfl (by decide) rfl rfl hl.1 rfl (Nat.le_of_ble_eq_true rfl) dL_law_1202 (by decide)) X hV1 [3, 4, 5] [0, 1, 2] rfl rfl rfl (by decide) (fun u1202 H locs hV2 => ?_)
  have hV2 : kV E A s.heap H locs [((ad 0), .inr (11, [.ref (ad 1), .ref (ad 3), .ref (ad 8), .ref (ad 13), .ref (ad 21), .ref (ad 22), .ref (ad 27), .ref (ad 30), .ref (ad 38)])), ((ad 30), .inr (2, [.ref (ad 31), .ref (ad 32), .ref (ad 33), .ref (ad 34), .ref (ad 37), .int 0])), ((ad 31), .inl (E.2 0, 30, .inl (fun _ => 0))), ((ad 42), .inr (12, [.ref (ad 43), .int 0, .int 0, .int 0, .int 0, .int 0, .int 0, .ref (ad 44), .ref (ad 45), .ref (ad 46), .ref (ad 47), .ref (ad 48), .ref (ad 49), .ref (ad 50), .ref (ad 51), .ref (ad 52), .ref (ad 53), .ref (ad 54), .int 0, .int 0, .int 0, .int 0, .int 0, .int 0, .int 0, .int 0, .int 0, .ref (ad 55), .int 0, .int 0, .int 0, .int 0, .int 0, .int 0, .int 0, .int 0, .int 0, .int 0, .int 0, .int 0, .int 0, .ref (ad 56), .ref (ad 57), .ref (ad 58), .ref (ad 59), .ref (ad 60), .ref (ad 61), .ref (ad 62), .int 0, .int 0, .ref (ad 63), .ref (ad 64), .ref (ad 65), .ref (ad 66), .ref (ad 67), .ref (ad 68), .ref (ad 69), .ref (ad 70), .ref (ad 71), .ref (ad 72), .int 0, .int 0, .int 0, .ref (ad 73), .ref (ad 74), .ref (ad 75), .ref (ad 76)])), ((ad 74), .inl (E.2 0, 30, .inl (fun _ => 0))), ((ad 73), .inl (E.2 0, 30, .inl (fun _ => 0)))] := hV2.sub [0, 1, 2, 3, 4, 5] rfl rfl
  clear hV1
  refine lv_icmp_eq (tgt := 1479) hx hb dL_law_1205 (by decide) (fun _ => ?_) (fun c3 => absurd rfl c3)
  refine W.widen (k := 1000) (n := 100000) (by decide) (by decide) ?_
  exact T _ _ _ hV2.2.2 hl
set_option maxHeartbeats 4000000 in
set_option maxRecDepth 100000 in
theorem lc_26 {p : Program} {l : Launch} {e : Env} {s : State} {m : MethodId} {below : List Frame} {meth : Method} {c : Code} {E : kE} {A : Nat → Prop} {b : Nat} {xs : Nat → Int32} {Q : State → Prop} {H : Heap} {locs : List Loc} {ls : Array Slot} {ad : Nat → Nat} (X : kC p s m c code 4 RL #[Value.ref b] E A) (hX : va_X b 6 xs s s.heap) (hbl : b < s.heap.size) (hbA : ¬ A b) (hV : kV E A s.heap H locs (lW E ad)) (hl : lv_has ls 4 [(3, .int 0), (2, .ref (ad 42)), (1, .ref (ad 0)), (0, .ref b)]) (r : Int32) (x_o_lots_tens : Nat → Int32) (m_o_ten : Nat → Int32) (hfx : f_X11_there (fun _ => 0) (xs 1) (xs 2) = some (r, x_o_lots_tens)) (hfm : f_X12_there (fun _ => 0) (xs 1) (xs 2) = some (r, m_o_ten)) (T : ∀ (H : Heap) (locs : List Loc) (ls : Array Slot), va_S A s.heap H locs → lv_has ls 4 [(3, .int 0), (2, .ref (ad 42)), (1, .ref (ad 0)), (0, .ref b)] → W p l e room_1 s m #[Value.ref b] below meth c H locs 1000 100000 Q (F0 m 1479 ls [])) : W p l e room_1 s m #[Value.ref b] below meth c H locs 900 90000 Q (F0 m 1210 ls []) := by
  have hx := X.1
  have hb := X.2.1
  have hV0 : kV E A s.heap H locs [((ad 0), .inr (11, [.ref (ad 1), .ref (ad 3), .ref (ad 8), .ref (ad 13), .ref (ad 21), .ref (ad 22), .ref (ad 27), .ref (ad 30), .ref (ad 38)])), ((ad 38), .inr (1, [.ref (ad 39), .ref (ad 40), .ref (ad 41), .int 0])), ((ad 39), .inl (E.2 0, 40, .inl (fun _ => 0))), ((ad 42), .inr (12, [.ref (ad 43), .int 0, .int 0, .int 0, .int 0, .int 0, .int 0, .ref (ad 44), .ref (ad 45), .ref (ad 46), .ref (ad 47), .ref (ad 48), .ref (ad 49), .ref (ad 50), .ref (ad 51), .ref (ad 52), .ref (ad 53), .ref (ad 54), .int 0, .int 0, .int 0, .int 0, .int 0, .int 0, .int 0, .int 0, .int 0, .ref (ad 55), .int 0, .int 0, .int 0, .int 0, .int 0, .int 0, .int 0, .int 0, .int 0, .int 0, .int 0, .int 0, .int 0, .ref (ad 56), .ref (ad 57), .ref (ad 58), .ref (ad 59), .ref (ad 60), .ref (ad 61), .ref (ad 62), .int 0, .int 0, .ref (ad 63), .ref (ad 64), .ref (ad 65), .ref (ad 66), .ref (ad 67), .ref (ad 68), .ref (ad 69), .ref (ad 70), .ref (ad 71), .ref (ad 72), .int 0, .int 0, .int 0, .ref (ad 73), .ref (ad 74), .ref (ad 75), .ref (ad 76)])), ((ad 75), .inl (E.2 0, 40, .inl (fun _ => 0)))] := hV.sub [0, 38, 39, 42, 75] rfl rfl
  clear hV
  refine lv_aload_n hx hb dL_law_1210 rfl (lv_at hl 2 rfl) ?_
  refine lv_aload_n hx hb dL_law_1211 rfl (lv_at hl 3 rfl) ?_
  refine lv_iload_n hx hb dL_law_1212 rfl (lv_at hl 0 rfl) ?_
  refine lv_iconst (v := 1) hx hb dL_law_1213 (by decide) ?_
  refine lv_iadd hx hb dL_law_1214 ?_
  refine ksld X hX hbl hbA hV0 (v := xs 1) (vp_in_iff.mpr (by decide)) (congrArg xs (by decide)) dL_law_1215 ?_
  refine lv_aload_n hx hb dL_law_1216 rfl (lv_at hl 3 rfl) ?_
  refine lv_iload_n hx hb dL_law_1217 rfl (lv_at hl 0 rfl) ?_
  refine lv_iconst (v := 2) hx hb dL_law_1218 (by decide) ?_
  refine lv_iadd hx hb dL_law_1219 ?_
  refine ksld X hX hbl hbA hV0 (v := xs 2) (vp_in_iff.mpr (by decide)) (congrArg xs (by decide)) dL_law_1220 ?_
  refine kgoiE (krunV (rest := []) X hV0 [0, 1, 2] (c_X11_there l E _ (ad 0) (ad 38) (ad 39) (.ref (ad 1)) (.ref (ad 3)) (.ref (ad 8)) (.ref (ad 13)) (.ref (ad 21)) (.ref (ad 22)) (.ref (ad 27)) (.ref (ad 30)) (.ref (ad 40)) (.ref (ad 41)) (.int 0) (fun _ => 0) (xs 1) (xs 2) r x_o_lots_tens hfx) mw_1212 kb_X11_there (ci := 11) rfl rfl (by decide) rfl rfl hl.1 rfl (Nat.le_of_ble_eq_true rfl) dL_law_1221 (by decide)) X hV0 [0, 1, 2] [3, 4] rfl rfl rfl (by decide) (fun u1221 H locs hV1 => ?_)
  have hV1 : kV E A s.heap H locs [((ad 0), .inr (11, [.ref (ad 1), .ref (ad 3), .ref (ad 8), .ref (ad 13), .ref (ad 21), .ref (ad 22), .ref (ad 27), .ref (ad 30), .ref (ad 38)])), ((ad 38), .inr (1, [.ref (ad 39), .ref (ad 40), .ref (ad 41), .int 0])), (ad 39, .inl (E.2 0, 40, .inl x_o_lots_tens)), ((ad 42), .inr (12, [.ref (ad 43), .int 0, .int 0, .int 0, .int 0, .int 0, .int 0, .ref (ad 44), .ref (ad 45), .ref (ad 46), .ref (ad 47), .ref (ad 48), .ref (ad 49), .ref (ad 50), .ref (ad 51), .ref (ad 52), .ref (ad 53), .ref (ad 54), .int 0, .int 0, .int 0, .int 0, .int 0, .int 0, .int 0, .int 0, .int 0, .ref (ad 55), .int 0, .int 0, .int 0, .int 0, .int 0, .int 0, .int 0, .int 0, .int 0, .int 0, .int 0, .int 0, .int 0, .ref (ad 56), .ref (ad 57), .ref (ad 58), .ref (ad 59), .ref (ad 60), .ref (ad 61), .ref (ad 62), .int 0, .int 0, .ref (ad 63), .ref (ad 64), .ref (ad 65), .ref (ad 66), .ref (ad 67), .ref (ad 68), .ref (ad 69), .ref (ad 70), .ref (ad 71), .ref (ad 72), .int 0, .int 0, .int 0, .ref (ad 73), .ref (ad 74), .ref (ad 75), .ref (ad 76)])), ((ad 75), .inl (E.2 0, 40, .inl (fun _ => 0)))] := hV1.sub [2, 3, 4, 0, 1] rfl rfl
  clear hV0
  refine lv_aload_n hx hb dL_law_1224 rfl (lv_at hl 1 rfl) ?_
  refine lv_aload_n hx hb dL_law_1225 rfl (lv_at hl 3 rfl) ?_
  refine lv_iload_n hx hb dL_law_1226 rfl (lv_at hl 0 rfl) ?_
  refine lv_iconst (v := 1) hx hb dL_law_1227 (by decide) ?_
  refine lv_iadd hx hb dL_law_1228 ?_
  refine ksld X hX hbl hbA hV1 (v := xs 1) (vp_in_iff.mpr (by decide)) (congrArg xs (by decide)) dL_law_1229 ?_
  refine lv_aload_n hx hb dL_law_1230 rfl (lv_at hl 3 rfl) ?_
  refine lv_iload_n hx hb dL_law_1231 rfl (lv_at hl 0 rfl) ?_
  refine lv_iconst (v := 2) hx hb dL_law_1232 (by decide) ?_
  refine lv_iadd hx hb dL_law_1233 ?_
  refine ksld X hX hbl hbA hV1 (v := xs 2) (vp_in_iff.mpr (by decide)) (congrArg xs (by decide)) dL_law_1234 ?_
  refine kgoiE (krunV (rest := [.int r]) X hV1 [3, 4] (c_X12_there l E _ (ad 42) (ad 75) (.ref (ad 43)) (.int 0) (.int 0) (.int 0) (.int 0) (.int 0) (.int 0) (.ref (ad 44)) (.ref (ad 45)) (.ref (ad 46)) (.ref (ad 47)) (.ref (ad 48)) (.ref (ad 49)) (.ref (ad 50)) (.ref (ad 51)) (.ref (ad 52)) (.ref (ad 53)) (.ref (ad 54)) (.int 0) (.int 0) (.int 0) (.int 0) (.int 0) (.int 0) (.int 0) (.int 0) (.int 0) (.ref (ad 55)) (.int 0) (.int 0) (.int 0) (.int 0) (.int 0) (.int 0) (.int 0) (.int 0) (.int 0) (.int 0) (.int 0) (.int 0) (.int 0) (.ref (ad 56)) (.ref (ad 57)) (.ref (ad 58)) (.ref (ad 59)) (.ref (ad 60)) (.ref (ad 61)) (.ref (ad 62)) (.int 0) (.int 0) (.ref (ad 63)) (.ref (ad 64)) (.ref (ad 65)) (.ref (ad 66)) (.ref (ad 67)) (.ref (ad 68)) (.ref (ad 69)) (.ref (ad 70)) (.ref (ad 71)) (.ref (ad 72)) (.int 0) (.int 0) (.int 0) (.ref (ad 73)) (.ref (ad 74)) (.ref (ad 76)) (fun _ => 0) (xs 1) (xs 2) r m_o_ten hfm) mw_1217 kb_X12_there (ci := 12) rfl rfl (by decide) rfl rfl hl.1 rfl (Nat.le_of_ble_eq_true rfl) dL_law_1235 (by decide)) X hV1 [3, 4] [0, 1, 2] rfl rfl rfl (by decide) (fun u1235 H locs hV2 => ?_)
  have hV2 : kV E A s.heap H locs [((ad 0), .inr (11, [.ref (ad 1), .ref (ad 3), .ref (ad 8), .ref (ad 13), .ref (ad 21), .ref (ad 22), .ref (ad 27), .ref (ad 30), .ref (ad 38)])), ((ad 38), .inr (1, [.ref (ad 39), .ref (ad 40), .ref (ad 41), .int 0])), (ad 39, .inl (E.2 0, 40, .inl x_o_lots_tens)), ((ad 42), .inr (12, [.ref (ad 43), .int 0, .int 0, .int 0, .int 0, .int 0, .int 0, .ref (ad 44), .ref (ad 45), .ref (ad 46), .ref (ad 47), .ref (ad 48), .ref (ad 49), .ref (ad 50), .ref (ad 51), .ref (ad 52), .ref (ad 53), .ref (ad 54), .int 0, .int 0, .int 0, .int 0, .int 0, .int 0, .int 0, .int 0, .int 0, .ref (ad 55), .int 0, .int 0, .int 0, .int 0, .int 0, .int 0, .int 0, .int 0, .int 0, .int 0, .int 0, .int 0, .int 0, .ref (ad 56), .ref (ad 57), .ref (ad 58), .ref (ad 59), .ref (ad 60), .ref (ad 61), .ref (ad 62), .int 0, .int 0, .ref (ad 63), .ref (ad 64), .ref (ad 65), .ref (ad 66), .ref (ad 67), .ref (ad 68), .ref (ad 69), .ref (ad 70), .ref (ad 71), .ref (ad 72), .int 0, .int 0, .int 0, .ref (ad 73), .ref (ad 74), .ref (ad 75), .ref (ad 76)])), (ad 75, .inl (E.2 0, 40, .inl m_o_ten))] := hV2.sub [0, 1, 2, 3, 4] rfl rfl
  clear hV1
  refine lv_icmp_eq (tgt := 1479) hx hb dL_law_1238 (by decide) (fun _ => ?_) (fun c3 => absurd rfl c3)
  refine W.widen (k := 1000) (n := 100000) (by decide) (by decide) ?_
  exact T _ _ _ hV2.2.2 hl
set_option maxHeartbeats 4000000 in
set_option maxRecDepth 100000 in
theorem lc_27 {p : Program} {l : Launch} {e : Env} {s : State} {m : MethodId} {below : List Frame} {meth : Method} {c : Code} {E : kE} {A : Nat → Prop} {b : Nat} {xs : Nat → Int32} {Q : State → Prop} {H : Heap} {locs : List Loc} {ls : Array Slot} {ad : Nat → Nat} (X : kC p s m c code 4 RL #[Value.ref b] E A) (hX : va_X b 6 xs s s.heap) (hbl : b < s.heap.size) (hbA : ¬ A b) (hV : kV E A s.heap H locs (lW E ad)) (hl : lv_has ls 4 [(3, .int 0), (2, .ref (ad 42)), (1, .ref (ad 0)), (0, .ref b)]) (r : Int32) (x_o_lots_unseen : Int32) (x_o_lots_best : Nat → Int32) (x_o_lots_chosen : Nat → Int32) (m_o_leastFrom : Nat → Int32) (hfx : f_X11_pen 0 (fun _ => 0) (fun _ => 0) (fun _ => 0) (xs 1) (xs 2) (xs 3) = some (r, x_o_lots_unseen, x_o_lots_best, x_o_lots_chosen)) (hfm : f_X12_pen (fun _ => 0) (fun _ => 0) (xs 1) (xs 2) (xs 3) = some (r, m_o_leastFrom)) (T : ∀ (H : Heap) (locs : List Loc) (ls : Array Slot), va_S A s.heap H locs → lv_has ls 4 [(3, .int 0), (2, .ref (ad 42)), (1, .ref (ad 0)), (0, .ref b)] → W p l e room_1 s m #[Value.ref b] below meth c H locs 1000 100000 Q (F0 m 1479 ls [])) : W p l e room_1 s m #[Value.ref b] below meth c H locs 900 90000 Q (F0 m 1243 ls []) := by
  have hx := X.1
  have hb := X.2.1
  have hV0 : kV E A s.heap H locs [((ad 0), .inr (11, [.ref (ad 1), .ref (ad 3), .ref (ad 8), .ref (ad 13), .ref (ad 21), .ref (ad 22), .ref (ad 27), .ref (ad 30), .ref (ad 38)])), ((ad 38), .inr (1, [.ref (ad 39), .ref (ad 40), .ref (ad 41), .int 0])), ((ad 41), .inl (E.2 0, 287, .inl (fun _ => 0))), ((ad 40), .inl (E.2 0, 6, .inl (fun _ => 0))), ((ad 39), .inl (E.2 0, 40, .inl (fun _ => 0))), ((ad 42), .inr (12, [.ref (ad 43), .int 0, .int 0, .int 0, .int 0, .int 0, .int 0, .ref (ad 44), .ref (ad 45), .ref (ad 46), .ref (ad 47), .ref (ad 48), .ref (ad 49), .ref (ad 50), .ref (ad 51), .ref (ad 52), .ref (ad 53), .ref (ad 54), .int 0, .int 0, .int 0, .int 0, .int 0, .int 0, .int 0, .int 0, .int 0, .ref (ad 55), .int 0, .int 0, .int 0, .int 0, .int 0, .int 0, .int 0, .int 0, .int 0, .int 0, .int 0, .int 0, .int 0, .ref (ad 56), .ref (ad 57), .ref (ad 58), .ref (ad 59), .ref (ad 60), .ref (ad 61), .ref (ad 62), .int 0, .int 0, .ref (ad 63), .ref (ad 64), .ref (ad 65), .ref (ad 66), .ref (ad 67), .ref (ad 68), .ref (ad 69), .ref (ad 70), .ref (ad 71), .ref (ad 72), .int 0, .int 0, .int 0, .ref (ad 73), .ref (ad 74), .ref (ad 75), .ref (ad 76)])), ((ad 76), .inl (E.2 0, 371, .inl (fun _ => 0))), ((ad 75), .inl (E.2 0, 40, .inl (fun _ => 0)))] := hV.sub [0, 38, 41, 40, 39, 42, 76, 75] rfl rfl
  clear hV
  refine lv_aload_n hx hb dL_law_1243 rfl (lv_at hl 2 rfl) ?_
  refine lv_aload_n hx hb dL_law_1244 rfl (lv_at hl 3 rfl) ?_
  refine lv_iload_n hx hb dL_law_1245 rfl (lv_at hl 0 rfl) ?_
  refine lv_iconst (v := 1) hx hb dL_law_1246 (by decide) ?_
  refine lv_iadd hx hb dL_law_1247 ?_
  refine ksld X hX hbl hbA hV0 (v := xs 1) (vp_in_iff.mpr (by decide)) (congrArg xs (by decide)) dL_law_1248 ?_
  refine lv_aload_n hx hb dL_law_1249 rfl (lv_at hl 3 rfl) ?_
  refine lv_iload_n hx hb dL_law_1250 rfl (lv_at hl 0 rfl) ?_
  refine lv_iconst (v := 2) hx hb dL_law_1251 (by decide) ?_
  refine lv_iadd hx hb dL_law_1252 ?_
  refine ksld X hX hbl hbA hV0 (v := xs 2) (vp_in_iff.mpr (by decide)) (congrArg xs (by decide)) dL_law_1253 ?_
  refine lv_aload_n hx hb dL_law_1254 rfl (lv_at hl 3 rfl) ?_
  refine lv_iload_n hx hb dL_law_1255 rfl (lv_at hl 0 rfl) ?_
  refine lv_iconst (v := 3) hx hb dL_law_1256 (by decide) ?_
  refine lv_iadd hx hb dL_law_1257 ?_
  refine ksld X hX hbl hbA hV0 (v := xs 3) (vp_in_iff.mpr (by decide)) (congrArg xs (by decide)) dL_law_1258 ?_
  refine kgoiE (krunV (rest := []) X hV0 [0, 1, 2, 3, 4] (c_X11_pen l E _ (ad 0) (ad 38) (ad 41) (ad 40) (ad 39) (.ref (ad 1)) (.ref (ad 3)) (.ref (ad 8)) (.ref (ad 13)) (.ref (ad 21)) (.ref (ad 22)) (.ref (ad 27)) (.ref (ad 30)) 0 (fun _ => 0) (fun _ => 0) (fun _ => 0) (xs 1) (xs 2) (xs 3) r x_o_lots_unseen x_o_lots_best x_o_lots_chosen hfx) mw_1223 kb_X11_pen (ci := 11) rfl rfl (by decide) rfl rfl hl.1 rfl (Nat.le_of_ble_eq_true rfl) dL_law_1259 (by decide)) X hV0 [0, 1, 2, 3, 4] [5, 6, 7] rfl rfl rfl (by decide) (fun u1259 H locs hV1 => ?_)
  have hV1 : kV E A s.heap H locs [((ad 0), .inr (11, [.ref (ad 1), .ref (ad 3), .ref (ad 8), .ref (ad 13), .ref (ad 21), .ref (ad 22), .ref (ad 27), .ref (ad 30), .ref (ad 38)])), ((ad 38), .inr (1, [.ref (ad 39), .ref (ad 40), .ref (ad 41), .int x_o_lots_unseen])), (ad 41, .inl (E.2 0, 287, .inl x_o_lots_best)), (ad 40, .inl (E.2 0, 6, .inl x_o_lots_chosen)), ((ad 39), .inl (E.2 0, 40, .inl (fun _ => 0))), ((ad 42), .inr (12, [.ref (ad 43), .int 0, .int 0, .int 0, .int 0, .int 0, .int 0, .ref (ad 44), .ref (ad 45), .ref (ad 46), .ref (ad 47), .ref (ad 48), .ref (ad 49), .ref (ad 50), .ref (ad 51), .ref (ad 52), .ref (ad 53), .ref (ad 54), .int 0, .int 0, .int 0, .int 0, .int 0, .int 0, .int 0, .int 0, .int 0, .ref (ad 55), .int 0, .int 0, .int 0, .int 0, .int 0, .int 0, .int 0, .int 0, .int 0, .int 0, .int 0, .int 0, .int 0, .ref (ad 56), .ref (ad 57), .ref (ad 58), .ref (ad 59), .ref (ad 60), .ref (ad 61), .ref (ad 62), .int 0, .int 0, .ref (ad 63), .ref (ad 64), .ref (ad 65), .ref (ad 66), .ref (ad 67), .ref (ad 68), .ref (ad 69), .ref (ad 70), .ref (ad 71), .ref (ad 72), .int 0, .int 0, .int 0, .ref (ad 73), .ref (ad 74), .ref (ad 75), .ref (ad 76)])), ((ad 76), .inl (E.2 0, 371, .inl (fun _ => 0))), ((ad 75), .inl (E.2 0, 40, .inl (fun _ => 0)))] := hV1.sub [3, 4, 5, 6, 7, 0, 1, 2] rfl rfl
  clear hV0
  refine lv_aload_n hx hb dL_law_1262 rfl (lv_at hl 1 rfl) ?_
  refine lv_aload_n hx hb dL_law_1263 rfl (lv_at hl 3 rfl) ?_
  refine lv_iload_n hx hb dL_law_1264 rfl (lv_at hl 0 rfl) ?_
  refine lv_iconst (v := 1) hx hb dL_law_1265 (by decide) ?_
  refine lv_iadd hx hb dL_law_1266 ?_
  refine ksld X hX hbl hbA hV1 (v := xs 1) (vp_in_iff.mpr (by decide)) (congrArg xs (by decide)) dL_law_1267 ?_
  refine lv_aload_n hx hb dL_law_1268 rfl (lv_at hl 3 rfl) ?_
  refine lv_iload_n hx hb dL_law_1269 rfl (lv_at hl 0 rfl) ?_
  refine lv_iconst (v := 2) hx hb dL_law_1270 (by decide) ?_
  refine lv_iadd hx hb dL_law_1271 ?_
  refine ksld X hX hbl hbA hV1 (v := xs 2) (vp_in_iff.mpr (by decide)) (congrArg xs (by decide)) dL_law_1272 ?_
  refine lv_aload_n hx hb dL_law_1273 rfl (lv_at hl 3 rfl) ?_
  refine lv_iload_n hx hb dL_law_1274 rfl (lv_at hl 0 rfl) ?_
  refine lv_iconst (v := 3) hx hb dL_law_1275 (by decide) ?_
  refine lv_iadd hx hb dL_law_1276 ?_
  refine ksld X hX hbl hbA hV1 (v := xs 3) (vp_in_iff.mpr (by decide)) (congrArg xs (by decide)) dL_law_1277 ?_
  refine kgoiE (krunV (rest := [.int r]) X hV1 [5, 6, 7] (c_X12_pen l E _ (ad 42) (ad 76) (ad 75) (.ref (ad 43)) (.int 0) (.int 0) (.int 0) (.int 0) (.int 0) (.int 0) (.ref (ad 44)) (.ref (ad 45)) (.ref (ad 46)) (.ref (ad 47)) (.ref (ad 48)) (.ref (ad 49)) (.ref (ad 50)) (.ref (ad 51)) (.ref (ad 52)) (.ref (ad 53)) (.ref (ad 54)) (.int 0) (.int 0) (.int 0) (.int 0) (.int 0) (.int 0) (.int 0) (.int 0) (.int 0) (.ref (ad 55)) (.int 0) (.int 0) (.int 0) (.int 0) (.int 0) (.int 0) (.int 0) (.int 0) (.int 0) (.int 0) (.int 0) (.int 0) (.int 0) (.ref (ad 56)) (.ref (ad 57)) (.ref (ad 58)) (.ref (ad 59)) (.ref (ad 60)) (.ref (ad 61)) (.ref (ad 62)) (.int 0) (.int 0) (.ref (ad 63)) (.ref (ad 64)) (.ref (ad 65)) (.ref (ad 66)) (.ref (ad 67)) (.ref (ad 68)) (.ref (ad 69)) (.ref (ad 70)) (.ref (ad 71)) (.ref (ad 72)) (.int 0) (.int 0) (.int 0) (.ref (ad 73)) (.ref (ad 74)) (fun _ => 0) (fun _ => 0) (xs 1) (xs 2) (xs 3) r m_o_leastFrom hfm) mw_1246 kb_X12_pen (ci := 12) rfl rfl (by decide) rfl rfl hl.1 rfl (Nat.le_of_ble_eq_true rfl) dL_law_1278 (by decide)) X hV1 [5, 6, 7] [0, 1, 2, 3, 4] rfl rfl rfl (by decide) (fun u1278 H locs hV2 => ?_)
  have hV2 : kV E A s.heap H locs [((ad 0), .inr (11, [.ref (ad 1), .ref (ad 3), .ref (ad 8), .ref (ad 13), .ref (ad 21), .ref (ad 22), .ref (ad 27), .ref (ad 30), .ref (ad 38)])), ((ad 38), .inr (1, [.ref (ad 39), .ref (ad 40), .ref (ad 41), .int x_o_lots_unseen])), (ad 41, .inl (E.2 0, 287, .inl x_o_lots_best)), (ad 40, .inl (E.2 0, 6, .inl x_o_lots_chosen)), ((ad 39), .inl (E.2 0, 40, .inl (fun _ => 0))), ((ad 42), .inr (12, [.ref (ad 43), .int 0, .int 0, .int 0, .int 0, .int 0, .int 0, .ref (ad 44), .ref (ad 45), .ref (ad 46), .ref (ad 47), .ref (ad 48), .ref (ad 49), .ref (ad 50), .ref (ad 51), .ref (ad 52), .ref (ad 53), .ref (ad 54), .int 0, .int 0, .int 0, .int 0, .int 0, .int 0, .int 0, .int 0, .int 0, .ref (ad 55), .int 0, .int 0, .int 0, .int 0, .int 0, .int 0, .int 0, .int 0, .int 0, .int 0, .int 0, .int 0, .int 0, .ref (ad 56), .ref (ad 57), .ref (ad 58), .ref (ad 59), .ref (ad 60), .ref (ad 61), .ref (ad 62), .int 0, .int 0, .ref (ad 63), .ref (ad 64), .ref (ad 65), .ref (ad 66), .ref (ad 67), .ref (ad 68), .ref (ad 69), .ref (ad 70), .ref (ad 71), .ref (ad 72), .int 0, .int 0, .int 0, .ref (ad 73), .ref (ad 74), .ref (ad 75), .ref (ad 76)])), (ad 76, .inl (E.2 0, 371, .inl m_o_leastFrom)), ((ad 75), .inl (E.2 0, 40, .inl (fun _ => 0)))] := hV2.sub [0, 1, 2, 3, 4, 5, 6, 7] rfl rfl
  clear hV1
  refine lv_icmp_eq (tgt := 1479) hx hb dL_law_1281 (by decide) (fun _ => ?_) (fun c3 => absurd rfl c3)
  refine W.widen (k := 1000) (n := 100000) (by decide) (by decide) ?_
  exact T _ _ _ hV2.2.2 hl
set_option maxHeartbeats 4000000 in
set_option maxRecDepth 100000 in
theorem lc_28 {p : Program} {l : Launch} {e : Env} {s : State} {m : MethodId} {below : List Frame} {meth : Method} {c : Code} {E : kE} {A : Nat → Prop} {b : Nat} {xs : Nat → Int32} {Q : State → Prop} {H : Heap} {locs : List Loc} {ls : Array Slot} {ad : Nat → Nat} (X : kC p s m c code 4 RL #[Value.ref b] E A) (hX : va_X b 6 xs s s.heap) (hbl : b < s.heap.size) (hbA : ¬ A b) (hV : kV E A s.heap H locs (lW E ad)) (hl : lv_has ls 4 [(3, .int 0), (2, .ref (ad 42)), (1, .ref (ad 0)), (0, .ref b)]) (r : Int64) (hfx : f_X11_odds (xs 1) (xs 2) (xs 3) (xs 4) (xs 5) = some (r)) (hfm : f_X12_odds (xs 1) (xs 2) (xs 3) (xs 4) (xs 5) = some (r)) (T : ∀ (H : Heap) (locs : List Loc) (ls : Array Slot), va_S A s.heap H locs → lv_has ls 4 [(3, .int 0), (2, .ref (ad 42)), (1, .ref (ad 0)), (0, .ref b)] → W p l e room_1 s m #[Value.ref b] below meth c H locs 1000 100000 Q (F0 m 1479 ls [])) : W p l e room_1 s m #[Value.ref b] below meth c H locs 900 90000 Q (F0 m 1286 ls []) := by
  have hx := X.1
  have hb := X.2.1
  have hV0 : kV E A s.heap H locs [((ad 0), .inr (11, [.ref (ad 1), .ref (ad 3), .ref (ad 8), .ref (ad 13), .ref (ad 21), .ref (ad 22), .ref (ad 27), .ref (ad 30), .ref (ad 38)])), ((ad 42), .inr (12, [.ref (ad 43), .int 0, .int 0, .int 0, .int 0, .int 0, .int 0, .ref (ad 44), .ref (ad 45), .ref (ad 46), .ref (ad 47), .ref (ad 48), .ref (ad 49), .ref (ad 50), .ref (ad 51), .ref (ad 52), .ref (ad 53), .ref (ad 54), .int 0, .int 0, .int 0, .int 0, .int 0, .int 0, .int 0, .int 0, .int 0, .ref (ad 55), .int 0, .int 0, .int 0, .int 0, .int 0, .int 0, .int 0, .int 0, .int 0, .int 0, .int 0, .int 0, .int 0, .ref (ad 56), .ref (ad 57), .ref (ad 58), .ref (ad 59), .ref (ad 60), .ref (ad 61), .ref (ad 62), .int 0, .int 0, .ref (ad 63), .ref (ad 64), .ref (ad 65), .ref (ad 66), .ref (ad 67), .ref (ad 68), .ref (ad 69), .ref (ad 70), .ref (ad 71), .ref (ad 72), .int 0, .int 0, .int 0, .ref (ad 73), .ref (ad 74), .ref (ad 75), .ref (ad 76)]))] := hV.sub [0, 42] rfl rfl
  clear hV
  refine lv_aload_n hx hb dL_law_1286 rfl (lv_at hl 2 rfl) ?_
  refine lv_aload_n hx hb dL_law_1287 rfl (lv_at hl 3 rfl) ?_
  refine lv_iload_n hx hb dL_law_1288 rfl (lv_at hl 0 rfl) ?_
  refine lv_iconst (v := 1) hx hb dL_law_1289 (by decide) ?_
  refine lv_iadd hx hb dL_law_1290 ?_
  refine ksld X hX hbl hbA hV0 (v := xs 1) (vp_in_iff.mpr (by decide)) (congrArg xs (by decide)) dL_law_1291 ?_
  refine lv_aload_n hx hb dL_law_1292 rfl (lv_at hl 3 rfl) ?_
  refine lv_iload_n hx hb dL_law_1293 rfl (lv_at hl 0 rfl) ?_
  refine lv_iconst (v := 2) hx hb dL_law_1294 (by decide) ?_
  refine lv_iadd hx hb dL_law_1295 ?_
  refine ksld X hX hbl hbA hV0 (v := xs 2) (vp_in_iff.mpr (by decide)) (congrArg xs (by decide)) dL_law_1296 ?_
  refine lv_aload_n hx hb dL_law_1297 rfl (lv_at hl 3 rfl) ?_
  refine lv_iload_n hx hb dL_law_1298 rfl (lv_at hl 0 rfl) ?_
  refine lv_iconst (v := 3) hx hb dL_law_1299 (by decide) ?_
  refine lv_iadd hx hb dL_law_1300 ?_
  refine ksld X hX hbl hbA hV0 (v := xs 3) (vp_in_iff.mpr (by decide)) (congrArg xs (by decide)) dL_law_1301 ?_
  refine lv_aload_n hx hb dL_law_1302 rfl (lv_at hl 3 rfl) ?_
  refine lv_iload_n hx hb dL_law_1303 rfl (lv_at hl 0 rfl) ?_
  refine lv_iconst (v := 4) hx hb dL_law_1304 (by decide) ?_
  refine lv_iadd hx hb dL_law_1305 ?_
  refine ksld X hX hbl hbA hV0 (v := xs 4) (vp_in_iff.mpr (by decide)) (congrArg xs (by decide)) dL_law_1306 ?_
  refine lv_aload_n hx hb dL_law_1307 rfl (lv_at hl 3 rfl) ?_
  refine lv_iload_n hx hb dL_law_1308 rfl (lv_at hl 0 rfl) ?_
  refine lv_iconst (v := 5) hx hb dL_law_1309 (by decide) ?_
  refine lv_iadd hx hb dL_law_1310 ?_
  refine ksld X hX hbl hbA hV0 (v := xs 5) (vp_in_iff.mpr (by decide)) (congrArg xs (by decide)) dL_law_1311 ?_
  refine kgolE (krunV (rest := []) X hV0 [0] (c_X11_odds l E _ (ad 0) (.ref (ad 1)) (.ref (ad 3)) (.ref (ad 8)) (.ref (ad 13)) (.ref (ad 21)) (.ref (ad 22)) (.ref (ad 27)) (.ref (ad 30)) (.ref (ad 38)) (xs 1) (xs 2) (xs 3) (xs 4) (xs 5) r hfx) mw_1255 kb_X11_odds (ci := 11) rfl rfl (by decide) rfl rfl hl.1 rfl (Nat.le_of_ble_eq_true rfl) dL_law_1312 (by decide)) X hV0 [0] [1] rfl rfl rfl (by decide) (fun u1312 H locs hV1 => ?_)
  have hV1 : kV E A s.heap H locs [((ad 0), .inr (11, [.ref (ad 1), .ref (ad 3), .ref (ad 8), .ref (ad 13), .ref (ad 21), .ref (ad 22), .ref (ad 27), .ref (ad 30), .ref (ad 38)])), ((ad 42), .inr (12, [.ref (ad 43), .int 0, .int 0, .int 0, .int 0, .int 0, .int 0, .ref (ad 44), .ref (ad 45), .ref (ad 46), .ref (ad 47), .ref (ad 48), .ref (ad 49), .ref (ad 50), .ref (ad 51), .ref (ad 52), .ref (ad 53), .ref (ad 54), .int 0, .int 0, .int 0, .int 0, .int 0, .int 0, .int 0, .int 0, .int 0, .ref (ad 55), .int 0, .int 0, .int 0, .int 0, .int 0, .int 0, .int 0, .int 0, .int 0, .int 0, .int 0, .int 0, .int 0, .ref (ad 56), .ref (ad 57), .ref (ad 58), .ref (ad 59), .ref (ad 60), .ref (ad 61), .ref (ad 62), .int 0, .int 0, .ref (ad 63), .ref (ad 64), .ref (ad 65), .ref (ad 66), .ref (ad 67), .ref (ad 68), .ref (ad 69), .ref (ad 70), .ref (ad 71), .ref (ad 72), .int 0, .int 0, .int 0, .ref (ad 73), .ref (ad 74), .ref (ad 75), .ref (ad 76)]))] := hV1.sub [1, 0] rfl rfl
  clear hV0
  refine lv_aload_n hx hb dL_law_1315 rfl (lv_at hl 1 rfl) ?_
  refine lv_aload_n hx hb dL_law_1316 rfl (lv_at hl 3 rfl) ?_
  refine lv_iload_n hx hb dL_law_1317 rfl (lv_at hl 0 rfl) ?_
  refine lv_iconst (v := 1) hx hb dL_law_1318 (by decide) ?_
  refine lv_iadd hx hb dL_law_1319 ?_
  refine ksld X hX hbl hbA hV1 (v := xs 1) (vp_in_iff.mpr (by decide)) (congrArg xs (by decide)) dL_law_1320 ?_
  refine lv_aload_n hx hb dL_law_1321 rfl (lv_at hl 3 rfl) ?_
  refine lv_iload_n hx hb dL_law_1322 rfl (lv_at hl 0 rfl) ?_
  refine lv_iconst (v := 2) hx hb dL_law_1323 (by decide) ?_
  refine lv_iadd hx hb dL_law_1324 ?_
  refine ksld X hX hbl hbA hV1 (v := xs 2) (vp_in_iff.mpr (by decide)) (congrArg xs (by decide)) dL_law_1325 ?_
  refine lv_aload_n hx hb dL_law_1326 rfl (lv_at hl 3 rfl) ?_
  refine lv_iload_n hx hb dL_law_1327 rfl (lv_at hl 0 rfl) ?_
  refine lv_iconst (v := 3) hx hb dL_law_1328 (by decide) ?_
  refine lv_iadd hx hb dL_law_1329 ?_
  refine ksld X hX hbl hbA hV1 (v := xs 3) (vp_in_iff.mpr (by decide)) (congrArg xs (by decide)) dL_law_1330 ?_
  refine lv_aload_n hx hb dL_law_1331 rfl (lv_at hl 3 rfl) ?_
  refine lv_iload_n hx hb dL_law_1332 rfl (lv_at hl 0 rfl) ?_
  refine lv_iconst (v := 4) hx hb dL_law_1333 (by decide) ?_
  refine lv_iadd hx hb dL_law_1334 ?_
  refine ksld X hX hbl hbA hV1 (v := xs 4) (vp_in_iff.mpr (by decide)) (congrArg xs (by decide)) dL_law_1335 ?_
  refine lv_aload_n hx hb dL_law_1336 rfl (lv_at hl 3 rfl) ?_
  refine lv_iload_n hx hb dL_law_1337 rfl (lv_at hl 0 rfl) ?_
  refine lv_iconst (v := 5) hx hb dL_law_1338 (by decide) ?_
  refine lv_iadd hx hb dL_law_1339 ?_
  refine ksld X hX hbl hbA hV1 (v := xs 5) (vp_in_iff.mpr (by decide)) (congrArg xs (by decide)) dL_law_1340 ?_
  refine kgolE (krunV (rest := [.long r]) X hV1 [1] (c_X12_odds l E _ (ad 42) (.ref (ad 43)) (.int 0) (.int 0) (.int 0) (.int 0) (.int 0) (.int 0) (.ref (ad 44)) (.ref (ad 45)) (.ref (ad 46)) (.ref (ad 47)) (.ref (ad 48)) (.ref (ad 49)) (.ref (ad 50)) (.ref (ad 51)) (.ref (ad 52)) (.ref (ad 53)) (.ref (ad 54)) (.int 0) (.int 0) (.int 0) (.int 0) (.int 0) (.int 0) (.int 0) (.int 0) (.int 0) (.ref (ad 55)) (.int 0) (.int 0) (.int 0) (.int 0) (.int 0) (.int 0) (.int 0) (.int 0) (.int 0) (.int 0) (.int 0) (.int 0) (.int 0) (.ref (ad 56)) (.ref (ad 57)) (.ref (ad 58)) (.ref (ad 59)) (.ref (ad 60)) (.ref (ad 61)) (.ref (ad 62)) (.int 0) (.int 0) (.ref (ad 63)) (.ref (ad 64)) (.ref (ad 65)) (.ref (ad 66)) (.ref (ad 67)) (.ref (ad 68)) (.ref (ad 69)) (.ref (ad 70)) (.ref (ad 71)) (.ref (ad 72)) (.int 0) (.int 0) (.int 0) (.ref (ad 73)) (.ref (ad 74)) (.ref (ad 75)) (.ref (ad 76)) (xs 1) (xs 2) (xs 3) (xs 4) (xs 5) r hfm) mw_1276 kb_X12_odds (ci := 12) rfl rfl (by decide) rfl rfl hl.1 rfl (Nat.le_of_ble_eq_true rfl) dL_law_1341 (by decide)) X hV1 [1] [0] rfl rfl rfl (by decide) (fun u1341 H locs hV2 => ?_)
  have hV2 : kV E A s.heap H locs [((ad 0), .inr (11, [.ref (ad 1), .ref (ad 3), .ref (ad 8), .ref (ad 13), .ref (ad 21), .ref (ad 22), .ref (ad 27), .ref (ad 30), .ref (ad 38)])), ((ad 42), .inr (12, [.ref (ad 43), .int 0, .int 0, .int 0, .int 0, .int 0, .int 0, .ref (ad 44), .ref (ad 45), .ref (ad 46), .ref (ad 47), .ref (ad 48), .ref (ad 49), .ref (ad 50), .ref (ad 51), .ref (ad 52), .ref (ad 53), .ref (ad 54), .int 0, .int 0, .int 0, .int 0, .int 0, .int 0, .int 0, .int 0, .int 0, .ref (ad 55), .int 0, .int 0, .int 0, .int 0, .int 0, .int 0, .int 0, .int 0, .int 0, .int 0, .int 0, .int 0, .int 0, .ref (ad 56), .ref (ad 57), .ref (ad 58), .ref (ad 59), .ref (ad 60), .ref (ad 61), .ref (ad 62), .int 0, .int 0, .ref (ad 63), .ref (ad 64), .ref (ad 65), .ref (ad 66), .ref (ad 67), .ref (ad 68), .ref (ad 69), .ref (ad 70), .ref (ad 71), .ref (ad 72), .int 0, .int 0, .int 0, .ref (ad 73), .ref (ad 74), .ref (ad 75), .ref (ad 76)]))] := hV2.sub [0, 1] rfl rfl
  clear hV1
  refine W.lcmp hx hb dL_law_1344 ?_
  refine lv_if_eq (tgt := 1479) hx hb dL_law_1345 (by decide) (fun _ => ?_) (fun c3 => absurd (lgc_self _) c3)
  refine W.widen (k := 1000) (n := 100000) (by decide) (by decide) ?_
  exact T _ _ _ hV2.2.2 hl
set_option maxHeartbeats 4000000 in
set_option maxRecDepth 100000 in
theorem lc_29 {p : Program} {l : Launch} {e : Env} {s : State} {m : MethodId} {below : List Frame} {meth : Method} {c : Code} {E : kE} {A : Nat → Prop} {b : Nat} {xs : Nat → Int32} {Q : State → Prop} {H : Heap} {locs : List Loc} {ls : Array Slot} {ad : Nat → Nat} (X : kC p s m c code 4 RL #[Value.ref b] E A) (hX : va_X b 6 xs s s.heap) (hbl : b < s.heap.size) (hbA : ¬ A b) (hV : kV E A s.heap H locs (lW E ad)) (hl : lv_has ls 4 [(3, .int 0), (2, .ref (ad 42)), (1, .ref (ad 0)), (0, .ref b)]) (r : Int32) (hfx : f_X11_more (xs 1) (xs 2) (xs 3) (xs 4) (xs 5) = some (r)) (hfm : f_X12_more (xs 1) (xs 2) (xs 3) (xs 4) (xs 5) = some (r)) (T : ∀ (H : Heap) (locs : List Loc) (ls : Array Slot), va_S A s.heap H locs → lv_has ls 4 [(3, .int 0), (2, .ref (ad 42)), (1, .ref (ad 0)), (0, .ref b)] → W p l e room_1 s m #[Value.ref b] below meth c H locs 1000 100000 Q (F0 m 1479 ls [])) : W p l e room_1 s m #[Value.ref b] below meth c H locs 900 90000 Q (F0 m 1350 ls []) := by
  have hx := X.1
  have hb := X.2.1
  have hV0 : kV E A s.heap H locs [((ad 0), .inr (11, [.ref (ad 1), .ref (ad 3), .ref (ad 8), .ref (ad 13), .ref (ad 21), .ref (ad 22), .ref (ad 27), .ref (ad 30), .ref (ad 38)])), ((ad 42), .inr (12, [.ref (ad 43), .int 0, .int 0, .int 0, .int 0, .int 0, .int 0, .ref (ad 44), .ref (ad 45), .ref (ad 46), .ref (ad 47), .ref (ad 48), .ref (ad 49), .ref (ad 50), .ref (ad 51), .ref (ad 52), .ref (ad 53), .ref (ad 54), .int 0, .int 0, .int 0, .int 0, .int 0, .int 0, .int 0, .int 0, .int 0, .ref (ad 55), .int 0, .int 0, .int 0, .int 0, .int 0, .int 0, .int 0, .int 0, .int 0, .int 0, .int 0, .int 0, .int 0, .ref (ad 56), .ref (ad 57), .ref (ad 58), .ref (ad 59), .ref (ad 60), .ref (ad 61), .ref (ad 62), .int 0, .int 0, .ref (ad 63), .ref (ad 64), .ref (ad 65), .ref (ad 66), .ref (ad 67), .ref (ad 68), .ref (ad 69), .ref (ad 70), .ref (ad 71), .ref (ad 72), .int 0, .int 0, .int 0, .ref (ad 73), .ref (ad 74), .ref (ad 75), .ref (ad 76)]))] := hV.sub [0, 42] rfl rfl
  clear hV
  refine lv_aload_n hx hb dL_law_1350 rfl (lv_at hl 2 rfl) ?_
  refine lv_aload_n hx hb dL_law_1351 rfl (lv_at hl 3 rfl) ?_
  refine lv_iload_n hx hb dL_law_1352 rfl (lv_at hl 0 rfl) ?_
  refine lv_iconst (v := 1) hx hb dL_law_1353 (by decide) ?_
  refine lv_iadd hx hb dL_law_1354 ?_
  refine ksld X hX hbl hbA hV0 (v := xs 1) (vp_in_iff.mpr (by decide)) (congrArg xs (by decide)) dL_law_1355 ?_
  refine lv_aload_n hx hb dL_law_1356 rfl (lv_at hl 3 rfl) ?_
  refine lv_iload_n hx hb dL_law_1357 rfl (lv_at hl 0 rfl) ?_
  refine lv_iconst (v := 2) hx hb dL_law_1358 (by decide) ?_
  refine lv_iadd hx hb dL_law_1359 ?_
  refine ksld X hX hbl hbA hV0 (v := xs 2) (vp_in_iff.mpr (by decide)) (congrArg xs (by decide)) dL_law_1360 ?_
  refine lv_aload_n hx hb dL_law_1361 rfl (lv_at hl 3 rfl) ?_
  refine lv_iload_n hx hb dL_law_1362 rfl (lv_at hl 0 rfl) ?_
  refine lv_iconst (v := 3) hx hb dL_law_1363 (by decide) ?_
  refine lv_iadd hx hb dL_law_1364 ?_
  refine ksld X hX hbl hbA hV0 (v := xs 3) (vp_in_iff.mpr (by decide)) (congrArg xs (by decide)) dL_law_1365 ?_
  refine lv_aload_n hx hb dL_law_1366 rfl (lv_at hl 3 rfl) ?_
  refine lv_iload_n hx hb dL_law_1367 rfl (lv_at hl 0 rfl) ?_
  refine lv_iconst (v := 4) hx hb dL_law_1368 (by decide) ?_
  refine lv_iadd hx hb dL_law_1369 ?_
  refine ksld X hX hbl hbA hV0 (v := xs 4) (vp_in_iff.mpr (by decide)) (congrArg xs (by decide)) dL_law_1370 ?_
  refine lv_aload_n hx hb dL_law_1371 rfl (lv_at hl 3 rfl) ?_
  refine lv_iload_n hx hb dL_law_1372 rfl (lv_at hl 0 rfl) ?_
  refine lv_iconst (v := 5) hx hb dL_law_1373 (by decide) ?_
  refine lv_iadd hx hb dL_law_1374 ?_
  refine ksld X hX hbl hbA hV0 (v := xs 5) (vp_in_iff.mpr (by decide)) (congrArg xs (by decide)) dL_law_1375 ?_
  refine kgoiE (krunV (rest := []) X hV0 [0] (c_X11_more l E _ (ad 0) (.ref (ad 1)) (.ref (ad 3)) (.ref (ad 8)) (.ref (ad 13)) (.ref (ad 21)) (.ref (ad 22)) (.ref (ad 27)) (.ref (ad 30)) (.ref (ad 38)) (xs 1) (xs 2) (xs 3) (xs 4) (xs 5) r hfx) mw_1295 kb_X11_more (ci := 11) rfl rfl (by decide) rfl rfl hl.1 rfl (Nat.le_of_ble_eq_true rfl) dL_law_1376 (by decide)) X hV0 [0] [1] rfl rfl rfl (by decide) (fun u1376 H locs hV1 => ?_)
  have hV1 : kV E A s.heap H locs [((ad 0), .inr (11, [.ref (ad 1), .ref (ad 3), .ref (ad 8), .ref (ad 13), .ref (ad 21), .ref (ad 22), .ref (ad 27), .ref (ad 30), .ref (ad 38)])), ((ad 42), .inr (12, [.ref (ad 43), .int 0, .int 0, .int 0, .int 0, .int 0, .int 0, .ref (ad 44), .ref (ad 45), .ref (ad 46), .ref (ad 47), .ref (ad 48), .ref (ad 49), .ref (ad 50), .ref (ad 51), .ref (ad 52), .ref (ad 53), .ref (ad 54), .int 0, .int 0, .int 0, .int 0, .int 0, .int 0, .int 0, .int 0, .int 0, .ref (ad 55), .int 0, .int 0, .int 0, .int 0, .int 0, .int 0, .int 0, .int 0, .int 0, .int 0, .int 0, .int 0, .int 0, .ref (ad 56), .ref (ad 57), .ref (ad 58), .ref (ad 59), .ref (ad 60), .ref (ad 61), .ref (ad 62), .int 0, .int 0, .ref (ad 63), .ref (ad 64), .ref (ad 65), .ref (ad 66), .ref (ad 67), .ref (ad 68), .ref (ad 69), .ref (ad 70), .ref (ad 71), .ref (ad 72), .int 0, .int 0, .int 0, .ref (ad 73), .ref (ad 74), .ref (ad 75), .ref (ad 76)]))] := hV1.sub [1, 0] rfl rfl
  clear hV0
  refine lv_aload_n hx hb dL_law_1379 rfl (lv_at hl 1 rfl) ?_
  refine lv_aload_n hx hb dL_law_1380 rfl (lv_at hl 3 rfl) ?_
  refine lv_iload_n hx hb dL_law_1381 rfl (lv_at hl 0 rfl) ?_
  refine lv_iconst (v := 1) hx hb dL_law_1382 (by decide) ?_
  refine lv_iadd hx hb dL_law_1383 ?_
  refine ksld X hX hbl hbA hV1 (v := xs 1) (vp_in_iff.mpr (by decide)) (congrArg xs (by decide)) dL_law_1384 ?_
  refine lv_aload_n hx hb dL_law_1385 rfl (lv_at hl 3 rfl) ?_
  refine lv_iload_n hx hb dL_law_1386 rfl (lv_at hl 0 rfl) ?_
  refine lv_iconst (v := 2) hx hb dL_law_1387 (by decide) ?_
  refine lv_iadd hx hb dL_law_1388 ?_
  refine ksld X hX hbl hbA hV1 (v := xs 2) (vp_in_iff.mpr (by decide)) (congrArg xs (by decide)) dL_law_1389 ?_
  refine lv_aload_n hx hb dL_law_1390 rfl (lv_at hl 3 rfl) ?_
  refine lv_iload_n hx hb dL_law_1391 rfl (lv_at hl 0 rfl) ?_
  refine lv_iconst (v := 3) hx hb dL_law_1392 (by decide) ?_
  refine lv_iadd hx hb dL_law_1393 ?_
  refine ksld X hX hbl hbA hV1 (v := xs 3) (vp_in_iff.mpr (by decide)) (congrArg xs (by decide)) dL_law_1394 ?_
  refine lv_aload_n hx hb dL_law_1395 rfl (lv_at hl 3 rfl) ?_
  refine lv_iload_n hx hb dL_law_1396 rfl (lv_at hl 0 rfl) ?_
  refine lv_iconst (v := 4) hx hb dL_law_1397 (by decide) ?_
  refine lv_iadd hx hb dL_law_1398 ?_
  refine ksld X hX hbl hbA hV1 (v := xs 4) (vp_in_iff.mpr (by decide)) (congrArg xs (by decide)) dL_law_1399 ?_
  refine lv_aload_n hx hb dL_law_1400 rfl (lv_at hl 3 rfl) ?_
  refine lv_iload_n hx hb dL_law_1401 rfl (lv_at hl 0 rfl) ?_
  refine lv_iconst (v := 5) hx hb dL_law_1402 (by decide) ?_
  refine lv_iadd hx hb dL_law_1403 ?_
  refine ksld X hX hbl hbA hV1 (v := xs 5) (vp_in_iff.mpr (by decide)) (congrArg xs (by decide)) dL_law_1404 ?_
  refine kgoiE (krunV (rest := [.int r]) X hV1 [1] (c_X12_more l E _ (ad 42) (.ref (ad 43)) (.int 0) (.int 0) (.int 0) (.int 0) (.int 0) (.int 0) (.ref (ad 44)) (.ref (ad 45)) (.ref (ad 46)) (.ref (ad 47)) (.ref (ad 48)) (.ref (ad 49)) (.ref (ad 50)) (.ref (ad 51)) (.ref (ad 52)) (.ref (ad 53)) (.ref (ad 54)) (.int 0) (.int 0) (.int 0) (.int 0) (.int 0) (.int 0) (.int 0) (.int 0) (.int 0) (.ref (ad 55)) (.int 0) (.int 0) (.int 0) (.int 0) (.int 0) (.int 0) (.int 0) (.int 0) (.int 0) (.int 0) (.int 0) (.int 0) (.int 0) (.ref (ad 56)) (.ref (ad 57)) (.ref (ad 58)) (.ref (ad 59)) (.ref (ad 60)) (.ref (ad 61)) (.ref (ad 62)) (.int 0) (.int 0) (.ref (ad 63)) (.ref (ad 64)) (.ref (ad 65)) (.ref (ad 66)) (.ref (ad 67)) (.ref (ad 68)) (.ref (ad 69)) (.ref (ad 70)) (.ref (ad 71)) (.ref (ad 72)) (.int 0) (.int 0) (.int 0) (.ref (ad 73)) (.ref (ad 74)) (.ref (ad 75)) (.ref (ad 76)) (xs 1) (xs 2) (xs 3) (xs 4) (xs 5) r hfm) mw_1300 kb_X12_more (ci := 12) rfl rfl (by decide) rfl rfl hl.1 rfl (Nat.le_of_ble_eq_true rfl) dL_law_1405 (by decide)) X hV1 [1] [0] rfl rfl rfl (by decide) (fun u1405 H locs hV2 => ?_)
  have hV2 : kV E A s.heap H locs [((ad 0), .inr (11, [.ref (ad 1), .ref (ad 3), .ref (ad 8), .ref (ad 13), .ref (ad 21), .ref (ad 22), .ref (ad 27), .ref (ad 30), .ref (ad 38)])), ((ad 42), .inr (12, [.ref (ad 43), .int 0, .int 0, .int 0, .int 0, .int 0, .int 0, .ref (ad 44), .ref (ad 45), .ref (ad 46), .ref (ad 47), .ref (ad 48), .ref (ad 49), .ref (ad 50), .ref (ad 51), .ref (ad 52), .ref (ad 53), .ref (ad 54), .int 0, .int 0, .int 0, .int 0, .int 0, .int 0, .int 0, .int 0, .int 0, .ref (ad 55), .int 0, .int 0, .int 0, .int 0, .int 0, .int 0, .int 0, .int 0, .int 0, .int 0, .int 0, .int 0, .int 0, .ref (ad 56), .ref (ad 57), .ref (ad 58), .ref (ad 59), .ref (ad 60), .ref (ad 61), .ref (ad 62), .int 0, .int 0, .ref (ad 63), .ref (ad 64), .ref (ad 65), .ref (ad 66), .ref (ad 67), .ref (ad 68), .ref (ad 69), .ref (ad 70), .ref (ad 71), .ref (ad 72), .int 0, .int 0, .int 0, .ref (ad 73), .ref (ad 74), .ref (ad 75), .ref (ad 76)]))] := hV2.sub [0, 1] rfl rfl
  clear hV1
  refine lv_icmp_eq (tgt := 1479) hx hb dL_law_1408 (by decide) (fun _ => ?_) (fun c3 => absurd rfl c3)
  refine W.widen (k := 1000) (n := 100000) (by decide) (by decide) ?_
  exact T _ _ _ hV2.2.2 hl
set_option maxHeartbeats 4000000 in
set_option maxRecDepth 100000 in
theorem lc_30 {p : Program} {l : Launch} {e : Env} {s : State} {m : MethodId} {below : List Frame} {meth : Method} {c : Code} {E : kE} {A : Nat → Prop} {b : Nat} {xs : Nat → Int32} {Q : State → Prop} {H : Heap} {locs : List Loc} {ls : Array Slot} {ad : Nat → Nat} (X : kC p s m c code 4 RL #[Value.ref b] E A) (hX : va_X b 6 xs s s.heap) (hbl : b < s.heap.size) (hbA : ¬ A b) (hV : kV E A s.heap H locs (lW E ad)) (hl : lv_has ls 4 [(3, .int 0), (2, .ref (ad 42)), (1, .ref (ad 0)), (0, .ref b)]) (r : Int32) (x_o_page_readers : Int32) (x_o_page_day : Int32) (x_o_tape_length : Int32) (x_o_page_heights : Nat → Int32) (x_o_page_highest : Nat → Int32) (x_o_page_marked : Nat → Int32) (x_o_page_shapes : Nat → Int32) (x_o_page_reckoner_letters : Nat → Int32) (m_o_taped : Int32) (m_o_atA : Int32) (m_o_atB : Int32) (m_o_atD : Int32) (m_o_atF : Int32) (m_o_atG : Int32) (m_o_atH : Int32) (m_o_atL : Int32) (m_o_atM : Int32) (m_o_atN : Int32) (m_o_atS : Int32) (m_o_atT : Int32) (m_o_atU : Int32) (m_o_atX : Int32) (m_o_paperHigh : Int32) (m_o_paperShape : Int32) (m_o_first : Nat → Int32) (m_o_greatest : Nat → Int32) (m_o_highAt : Nat → Int32) (m_o_last : Nat → Int32) (m_o_marked : Nat → Int32) (m_o_shapeAt : Nat → Int32) (hfx : f_X11_check 0 (-1) 0 0 (fun _ => none) (fun _ => 0) (fun _ => 0) (fun _ => 0) (fun _ => 0) (fun _ => none) (fun _ => 0) (xs 1) (xs 2) (xs 3) = some (r, x_o_page_readers, x_o_page_day, x_o_tape_length, x_o_page_heights, x_o_page_highest, x_o_page_marked, x_o_page_shapes, x_o_page_reckoner_letters)) (hfm : f_X12_check 0 0 0 0 0 0 0 0 0 0 0 0 0 0 0 0 0 (fun _ => 0) (fun _ => 0) (fun _ => 0) (fun _ => 0) (fun _ => 0) (fun _ => 0) (fun _ => 0) (xs 1) (xs 2) (xs 3) = some (r, m_o_taped, m_o_atA, m_o_atB, m_o_atD, m_o_atF, m_o_atG, m_o_atH, m_o_atL, m_o_atM, m_o_atN, m_o_atS, m_o_atT, m_o_atU, m_o_atX, m_o_paperHigh, m_o_paperShape, m_o_first, m_o_greatest, m_o_highAt, m_o_last, m_o_marked, m_o_shapeAt)) (T : ∀ (H : Heap) (locs : List Loc) (ls : Array Slot), va_S A s.heap H locs → lv_has ls 4 [(3, .int 0), (2, .ref (ad 42)), (1, .ref (ad 0)), (0, .ref b)] → W p l e room_1 s m #[Value.ref b] below meth c H locs 1000 100000 Q (F0 m 1479 ls [])) : W p l e room_1 s m #[Value.ref b] below meth c H locs 900 90000 Q (F0 m 1413 ls []) := by
  have hx := X.1
  have hb := X.2.1
  have hV0 : kV E A s.heap H locs [((ad 0), .inr (11, [.ref (ad 1), .ref (ad 3), .ref (ad 8), .ref (ad 13), .ref (ad 21), .ref (ad 22), .ref (ad 27), .ref (ad 30), .ref (ad 38)])), ((ad 13), .inr (4, [.ref (ad 14), .ref (ad 15), .ref (ad 16), .ref (ad 17), .ref (ad 18), .int 0, .int (-1)])), ((ad 8), .inr (7, [.ref (ad 9), .ref (ad 10), .int 0, .int 0])), ((ad 1), .inr (9, [.ref (ad 2), .int 0])), ((ad 21), .inl (E.2 4, 4, .inr (.inr (.inr (.inr (fun _ => none)))))), ((ad 14), .inl (E.2 0, 1440, .inl (fun _ => 0))), ((ad 16), .inl (E.2 0, 1440, .inl (fun _ => 0))), ((ad 17), .inl (E.2 0, 1440, .inl (fun _ => 0))), ((ad 18), .inr (5, [.ref (ad 19), .ref (ad 20)])), ((ad 15), .inl (E.2 0, 1440, .inl (fun _ => 0))), ((ad 9), .inl (E.2 3, 10, .inr (.inr (.inr (.inr (fun _ => none)))))), ((ad 19), .inl (E.2 0, 128, .inl (fun _ => 0))), ((ad 42), .inr (12, [.ref (ad 43), .int 0, .int 0, .int 0, .int 0, .int 0, .int 0, .ref (ad 44), .ref (ad 45), .ref (ad 46), .ref (ad 47), .ref (ad 48), .ref (ad 49), .ref (ad 50), .ref (ad 51), .ref (ad 52), .ref (ad 53), .ref (ad 54), .int 0, .int 0, .int 0, .int 0, .int 0, .int 0, .int 0, .int 0, .int 0, .ref (ad 55), .int 0, .int 0, .int 0, .int 0, .int 0, .int 0, .int 0, .int 0, .int 0, .int 0, .int 0, .int 0, .int 0, .ref (ad 56), .ref (ad 57), .ref (ad 58), .ref (ad 59), .ref (ad 60), .ref (ad 61), .ref (ad 62), .int 0, .int 0, .ref (ad 63), .ref (ad 64), .ref (ad 65), .ref (ad 66), .ref (ad 67), .ref (ad 68), .ref (ad 69), .ref (ad 70), .ref (ad 71), .ref (ad 72), .int 0, .int 0, .int 0, .ref (ad 73), .ref (ad 74), .ref (ad 75), .ref (ad 76)])), ((ad 65), .inl (E.2 0, 1440, .inl (fun _ => 0))), ((ad 67), .inl (E.2 0, 1440, .inl (fun _ => 0))), ((ad 63), .inl (E.2 0, 1440, .inl (fun _ => 0))), ((ad 66), .inl (E.2 0, 1440, .inl (fun _ => 0))), ((ad 44), .inl (E.2 0, 20, .inl (fun _ => 0))), ((ad 68), .inl (E.2 0, 2, .inl (fun _ => 0))), ((ad 64), .inl (E.2 0, 1440, .inl (fun _ => 0)))] := hV.sub [0, 13, 8, 1, 21, 14, 16, 17, 18, 15, 9, 19, 42, 65, 67, 63, 66, 44, 68, 64] rfl rfl
  clear hV
  refine lv_aload_n hx hb dL_law_1413 rfl (lv_at hl 2 rfl) ?_
  refine lv_aload_n hx hb dL_law_1414 rfl (lv_at hl 3 rfl) ?_
  refine lv_iload_n hx hb dL_law_1415 rfl (lv_at hl 0 rfl) ?_
  refine lv_iconst (v := 1) hx hb dL_law_1416 (by decide) ?_
  refine lv_iadd hx hb dL_law_1417 ?_
  refine ksld X hX hbl hbA hV0 (v := xs 1) (vp_in_iff.mpr (by decide)) (congrArg xs (by decide)) dL_law_1418 ?_
  refine lv_aload_n hx hb dL_law_1419 rfl (lv_at hl 3 rfl) ?_
  refine lv_iload_n hx hb dL_law_1420 rfl (lv_at hl 0 rfl) ?_
  refine lv_iconst (v := 2) hx hb dL_law_1421 (by decide) ?_
  refine lv_iadd hx hb dL_law_1422 ?_
  refine ksld X hX hbl hbA hV0 (v := xs 2) (vp_in_iff.mpr (by decide)) (congrArg xs (by decide)) dL_law_1423 ?_
  refine lv_aload_n hx hb dL_law_1424 rfl (lv_at hl 3 rfl) ?_
  refine lv_iload_n hx hb dL_law_1425 rfl (lv_at hl 0 rfl) ?_
  refine lv_iconst (v := 3) hx hb dL_law_1426 (by decide) ?_
  refine lv_iadd hx hb dL_law_1427 ?_
  refine ksld X hX hbl hbA hV0 (v := xs 3) (vp_in_iff.mpr (by decide)) (congrArg xs (by decide)) dL_law_1428 ?_
  refine kgoiE (krunV (rest := []) X hV0 [0, 1, 2, 3, 4, 5, 6, 7, 8, 9, 10, 11] (c_X11_check l E _ (ad 0) (ad 13) (ad 8) (ad 1) (ad 21) (ad 14) (ad 16) (ad 17) (ad 18) (ad 15) (ad 9) (ad 19) (.ref (ad 3)) (.ref (ad 22)) (.ref (ad 27)) (.ref (ad 30)) (.ref (ad 38)) (.ref (ad 10)) (.int 0) (.ref (ad 2)) (.ref (ad 20)) 0 (-1) 0 0 (fun _ => none) (fun _ => 0) (fun _ => 0) (fun _ => 0) (fun _ => 0) (fun _ => none) (fun _ => 0) (xs 1) (xs 2) (xs 3) r x_o_page_readers x_o_page_day x_o_tape_length x_o_page_heights x_o_page_highest x_o_page_marked x_o_page_shapes x_o_page_reckoner_letters hfx) mw_1304 kb_X11_check (ci := 11) rfl rfl (by decide) rfl rfl hl.1 rfl (Nat.le_of_ble_eq_true rfl) dL_law_1429 (by decide)) X hV0 [0, 1, 2, 3, 4, 5, 6, 7, 8, 9, 10, 11] [12, 13, 14, 15, 16, 17, 18, 19] rfl rfl rfl (by decide) (fun u1429 H locs hV1 => ?_)
  have hV1 : kV E A s.heap H locs [((ad 0), .inr (11, [.ref (ad 1), .ref (ad 3), .ref (ad 8), .ref (ad 13), .ref (ad 21), .ref (ad 22), .ref (ad 27), .ref (ad 30), .ref (ad 38)])), ((ad 13), .inr (4, [.ref (ad 14), .ref (ad 15), .ref (ad 16), .ref (ad 17), .ref (ad 18), .int x_o_page_readers, .int x_o_page_day])), ((ad 8), .inr (7, [.ref (ad 9), .ref (ad 10), .int 0, .int 0])), ((ad 1), .inr (9, [.ref (ad 2), .int x_o_tape_length])), ((ad 21), .inl (E.2 4, 4, .inr (.inr (.inr (.inr (fun _ => none)))))), (ad 14, .inl (E.2 0, 1440, .inl x_o_page_heights)), (ad 16, .inl (E.2 0, 1440, .inl x_o_page_highest)), (ad 17, .inl (E.2 0, 1440, .inl x_o_page_marked)), ((ad 18), .inr (5, [.ref (ad 19), .ref (ad 20)])), (ad 15, .inl (E.2 0, 1440, .inl x_o_page_shapes)), ((ad 9), .inl (E.2 3, 10, .inr (.inr (.inr (.inr (fun _ => none)))))), (ad 19, .inl (E.2 0, 128, .inl x_o_page_reckoner_letters)), ((ad 42), .inr (12, [.ref (ad 43), .int 0, .int 0, .int 0, .int 0, .int 0, .int 0, .ref (ad 44), .ref (ad 45), .ref (ad 46), .ref (ad 47), .ref (ad 48), .ref (ad 49), .ref (ad 50), .ref (ad 51), .ref (ad 52), .ref (ad 53), .ref (ad 54), .int 0, .int 0, .int 0, .int 0, .int 0, .int 0, .int 0, .int 0, .int 0, .ref (ad 55), .int 0, .int 0, .int 0, .int 0, .int 0, .int 0, .int 0, .int 0, .int 0, .int 0, .int 0, .int 0, .int 0, .ref (ad 56), .ref (ad 57), .ref (ad 58), .ref (ad 59), .ref (ad 60), .ref (ad 61), .ref (ad 62), .int 0, .int 0, .ref (ad 63), .ref (ad 64), .ref (ad 65), .ref (ad 66), .ref (ad 67), .ref (ad 68), .ref (ad 69), .ref (ad 70), .ref (ad 71), .ref (ad 72), .int 0, .int 0, .int 0, .ref (ad 73), .ref (ad 74), .ref (ad 75), .ref (ad 76)])), ((ad 65), .inl (E.2 0, 1440, .inl (fun _ => 0))), ((ad 67), .inl (E.2 0, 1440, .inl (fun _ => 0))), ((ad 63), .inl (E.2 0, 1440, .inl (fun _ => 0))), ((ad 66), .inl (E.2 0, 1440, .inl (fun _ => 0))), ((ad 44), .inl (E.2 0, 20, .inl (fun _ => 0))), ((ad 68), .inl (E.2 0, 2, .inl (fun _ => 0))), ((ad 64), .inl (E.2 0, 1440, .inl (fun _ => 0)))] := hV1.sub [8, 9, 10, 11, 12, 13, 14, 15, 16, 17, 18, 19, 0, 1, 2, 3, 4, 5, 6, 7] rfl rfl
  clear hV0
  refine lv_aload_n hx hb dL_law_1432 rfl (lv_at hl 1 rfl) ?_
  refine lv_aload_n hx hb dL_law_1433 rfl (lv_at hl 3 rfl) ?_
  refine lv_iload_n hx hb dL_law_1434 rfl (lv_at hl 0 rfl) ?_
  refine lv_iconst (v := 1) hx hb dL_law_1435 (by decide) ?_
  refine lv_iadd hx hb dL_law_1436 ?_
  refine ksld X hX hbl hbA hV1 (v := xs 1) (vp_in_iff.mpr (by decide)) (congrArg xs (by decide)) dL_law_1437 ?_
  refine lv_aload_n hx hb dL_law_1438 rfl (lv_at hl 3 rfl) ?_
  refine lv_iload_n hx hb dL_law_1439 rfl (lv_at hl 0 rfl) ?_
  refine lv_iconst (v := 2) hx hb dL_law_1440 (by decide) ?_
  refine lv_iadd hx hb dL_law_1441 ?_
  refine ksld X hX hbl hbA hV1 (v := xs 2) (vp_in_iff.mpr (by decide)) (congrArg xs (by decide)) dL_law_1442 ?_
  refine lv_aload_n hx hb dL_law_1443 rfl (lv_at hl 3 rfl) ?_
  refine lv_iload_n hx hb dL_law_1444 rfl (lv_at hl 0 rfl) ?_
  refine lv_iconst (v := 3) hx hb dL_law_1445 (by decide) ?_
  refine lv_iadd hx hb dL_law_1446 ?_
  refine ksld X hX hbl hbA hV1 (v := xs 3) (vp_in_iff.mpr (by decide)) (congrArg xs (by decide)) dL_law_1447 ?_
  refine kgoiE (krunV (rest := [.int r]) X hV1 [12, 13, 14, 15, 16, 17, 18, 19] (c_X12_check l E _ (ad 42) (ad 65) (ad 67) (ad 63) (ad 66) (ad 44) (ad 68) (ad 64) (.ref (ad 43)) (.int 0) (.int 0) (.int 0) (.int 0) (.ref (ad 45)) (.ref (ad 46)) (.ref (ad 47)) (.ref (ad 48)) (.ref (ad 49)) (.ref (ad 50)) (.ref (ad 51)) (.ref (ad 52)) (.ref (ad 53)) (.ref (ad 54)) (.int 0) (.int 0) (.int 0) (.int 0) (.int 0) (.int 0) (.int 0) (.int 0) (.int 0) (.ref (ad 55)) (.ref (ad 56)) (.ref (ad 57)) (.ref (ad 58)) (.ref (ad 59)) (.ref (ad 60)) (.ref (ad 61)) (.ref (ad 62)) (.ref (ad 69)) (.ref (ad 70)) (.ref (ad 71)) (.ref (ad 72)) (.int 0) (.int 0) (.int 0) (.ref (ad 73)) (.ref (ad 74)) (.ref (ad 75)) (.ref (ad 76)) 0 0 0 0 0 0 0 0 0 0 0 0 0 0 0 0 0 (fun _ => 0) (fun _ => 0) (fun _ => 0) (fun _ => 0) (fun _ => 0) (fun _ => 0) (fun _ => 0) (xs 1) (xs 2) (xs 3) r m_o_taped m_o_atA m_o_atB m_o_atD m_o_atF m_o_atG m_o_atH m_o_atL m_o_atM m_o_atN m_o_atS m_o_atT m_o_atU m_o_atX m_o_paperHigh m_o_paperShape m_o_first m_o_greatest m_o_highAt m_o_last m_o_marked m_o_shapeAt hfm) mw_1316 kb_X12_check (ci := 12) rfl rfl (by decide) rfl rfl hl.1 rfl (Nat.le_of_ble_eq_true rfl) dL_law_1448 (by decide)) X hV1 [12, 13, 14, 15, 16, 17, 18, 19] [0, 1, 2, 3, 4, 5, 6, 7, 8, 9, 10, 11] rfl rfl rfl (by decide) (fun u1448 H locs hV2 => ?_)
  have hV2 : kV E A s.heap H locs [((ad 0), .inr (11, [.ref (ad 1), .ref (ad 3), .ref (ad 8), .ref (ad 13), .ref (ad 21), .ref (ad 22), .ref (ad 27), .ref (ad 30), .ref (ad 38)])), ((ad 13), .inr (4, [.ref (ad 14), .ref (ad 15), .ref (ad 16), .ref (ad 17), .ref (ad 18), .int x_o_page_readers, .int x_o_page_day])), ((ad 8), .inr (7, [.ref (ad 9), .ref (ad 10), .int 0, .int 0])), ((ad 1), .inr (9, [.ref (ad 2), .int x_o_tape_length])), ((ad 21), .inl (E.2 4, 4, .inr (.inr (.inr (.inr (fun _ => none)))))), (ad 14, .inl (E.2 0, 1440, .inl x_o_page_heights)), (ad 16, .inl (E.2 0, 1440, .inl x_o_page_highest)), (ad 17, .inl (E.2 0, 1440, .inl x_o_page_marked)), ((ad 18), .inr (5, [.ref (ad 19), .ref (ad 20)])), (ad 15, .inl (E.2 0, 1440, .inl x_o_page_shapes)), ((ad 9), .inl (E.2 3, 10, .inr (.inr (.inr (.inr (fun _ => none)))))), (ad 19, .inl (E.2 0, 128, .inl x_o_page_reckoner_letters)), ((ad 42), .inr (12, [.ref (ad 43), .int m_o_taped, .int 0, .int 0, .int 0, .int 0, .int 0, .ref (ad 44), .ref (ad 45), .ref (ad 46), .ref (ad 47), .ref (ad 48), .ref (ad 49), .ref (ad 50), .ref (ad 51), .ref (ad 52), .ref (ad 53), .ref (ad 54), .int 0, .int 0, .int 0, .int 0, .int 0, .int 0, .int 0, .int 0, .int 0, .ref (ad 55), .int m_o_atA, .int m_o_atB, .int m_o_atD, .int m_o_atF, .int m_o_atG, .int m_o_atH, .int m_o_atL, .int m_o_atM, .int m_o_atN, .int m_o_atS, .int m_o_atT, .int m_o_atU, .int m_o_atX, .ref (ad 56), .ref (ad 57), .ref (ad 58), .ref (ad 59), .ref (ad 60), .ref (ad 61), .ref (ad 62), .int m_o_paperHigh, .int m_o_paperShape, .ref (ad 63), .ref (ad 64), .ref (ad 65), .ref (ad 66), .ref (ad 67), .ref (ad 68), .ref (ad 69), .ref (ad 70), .ref (ad 71), .ref (ad 72), .int 0, .int 0, .int 0, .ref (ad 73), .ref (ad 74), .ref (ad 75), .ref (ad 76)])), (ad 65, .inl (E.2 0, 1440, .inl m_o_first)), (ad 67, .inl (E.2 0, 1440, .inl m_o_greatest)), (ad 63, .inl (E.2 0, 1440, .inl m_o_highAt)), (ad 66, .inl (E.2 0, 1440, .inl m_o_last)), ((ad 44), .inl (E.2 0, 20, .inl (fun _ => 0))), (ad 68, .inl (E.2 0, 2, .inl m_o_marked)), (ad 64, .inl (E.2 0, 1440, .inl m_o_shapeAt))] := hV2.sub [0, 1, 2, 3, 4, 5, 6, 7, 8, 9, 10, 11, 12, 13, 14, 15, 16, 17, 18, 19] rfl rfl
  clear hV1
  refine lv_icmp_eq (tgt := 1479) hx hb dL_law_1451 (by decide) (fun _ => ?_) (fun c3 => absurd rfl c3)
  refine W.widen (k := 1000) (n := 100000) (by decide) (by decide) ?_
  exact T _ _ _ hV2.2.2 hl
set_option maxHeartbeats 4000000 in
set_option maxRecDepth 100000 in
theorem lc_31 {p : Program} {l : Launch} {e : Env} {s : State} {m : MethodId} {below : List Frame} {meth : Method} {c : Code} {E : kE} {A : Nat → Prop} {b : Nat} {xs : Nat → Int32} {Q : State → Prop} {H : Heap} {locs : List Loc} {ls : Array Slot} {ad : Nat → Nat} (X : kC p s m c code 4 RL #[Value.ref b] E A) (hX : va_X b 6 xs s s.heap) (hbl : b < s.heap.size) (hbA : ¬ A b) (hV : kV E A s.heap H locs (lW E ad)) (hl : lv_has ls 4 [(3, .int 0), (2, .ref (ad 42)), (1, .ref (ad 0)), (0, .ref b)]) (r : Int32) (hfx : f_X11_count 0 0 0 0 0 0 (fun _ => none) (fun _ => none) (fun _ => none) (xs 1) = some (r)) (hfm : f_X12_count 0 0 0 0 0 0 (fun _ => 0) (xs 1) = some (r)) (T : ∀ (H : Heap) (locs : List Loc) (ls : Array Slot), va_S A s.heap H locs → lv_has ls 4 [(3, .int 0), (2, .ref (ad 42)), (1, .ref (ad 0)), (0, .ref b)] → W p l e room_1 s m #[Value.ref b] below meth c H locs 1000 100000 Q (F0 m 1479 ls [])) : W p l e room_1 s m #[Value.ref b] below meth c H locs 900 90000 Q (F0 m 1456 ls []) := by
  have hx := X.1
  have hb := X.2.1
  have hV0 : kV E A s.heap H locs [((ad 0), .inr (11, [.ref (ad 1), .ref (ad 3), .ref (ad 8), .ref (ad 13), .ref (ad 21), .ref (ad 22), .ref (ad 27), .ref (ad 30), .ref (ad 38)])), ((ad 27), .inr (0, [.ref (ad 28), .ref (ad 29), .int 0, .int 0, .int (-1), .int (-1)])), ((ad 30), .inr (2, [.ref (ad 31), .ref (ad 32), .ref (ad 33), .ref (ad 34), .ref (ad 37), .int 0])), ((ad 22), .inr (3, [.ref (ad 23), .ref (ad 24), .ref (ad 25), .ref (ad 26), .int 0])), ((ad 8), .inr (7, [.ref (ad 9), .ref (ad 10), .int 0, .int 0])), ((ad 1), .inr (9, [.ref (ad 2), .int 0])), ((ad 21), .inl (E.2 4, 4, .inr (.inr (.inr (.inr (fun _ => none)))))), ((ad 37), .inl (E.2 4, 6, .inr (.inr (.inr (.inr (fun _ => none)))))), ((ad 9), .inl (E.2 3, 10, .inr (.inr (.inr (.inr (fun _ => none)))))), ((ad 42), .inr (12, [.ref (ad 43), .int 0, .int 0, .int 0, .int 0, .int 0, .int 0, .ref (ad 44), .ref (ad 45), .ref (ad 46), .ref (ad 47), .ref (ad 48), .ref (ad 49), .ref (ad 50), .ref (ad 51), .ref (ad 52), .ref (ad 53), .ref (ad 54), .int 0, .int 0, .int 0, .int 0, .int 0, .int 0, .int 0, .int 0, .int 0, .ref (ad 55), .int 0, .int 0, .int 0, .int 0, .int 0, .int 0, .int 0, .int 0, .int 0, .int 0, .int 0, .int 0, .int 0, .ref (ad 56), .ref (ad 57), .ref (ad 58), .ref (ad 59), .ref (ad 60), .ref (ad 61), .ref (ad 62), .int 0, .int 0, .ref (ad 63), .ref (ad 64), .ref (ad 65), .ref (ad 66), .ref (ad 67), .ref (ad 68), .ref (ad 69), .ref (ad 70), .ref (ad 71), .ref (ad 72), .int 0, .int 0, .int 0, .ref (ad 73), .ref (ad 74), .ref (ad 75), .ref (ad 76)])), ((ad 44), .inl (E.2 0, 20, .inl (fun _ => 0)))] := hV.sub [0, 27, 30, 22, 8, 1, 21, 37, 9, 42, 44] rfl rfl
  clear hV
  refine lv_aload_n hx hb dL_law_1456 rfl (lv_at hl 2 rfl) ?_
  refine lv_aload_n hx hb dL_law_1457 rfl (lv_at hl 3 rfl) ?_
  refine lv_iload_n hx hb dL_law_1458 rfl (lv_at hl 0 rfl) ?_
  refine lv_iconst (v := 1) hx hb dL_law_1459 (by decide) ?_
  refine lv_iadd hx hb dL_law_1460 ?_
  refine ksld X hX hbl hbA hV0 (v := xs 1) (vp_in_iff.mpr (by decide)) (congrArg xs (by decide)) dL_law_1461 ?_
  refine kgoiE (krunV (rest := []) X hV0 [0, 1, 2, 3, 4, 5, 6, 7, 8] (c_X11_count l E _ (ad 0) (ad 27) (ad 30) (ad 22) (ad 8) (ad 1) (ad 21) (ad 37) (ad 9) (.ref (ad 3)) (.ref (ad 13)) (.ref (ad 38)) (.ref (ad 28)) (.ref (ad 29)) (.int 0) (.int (-1)) (.int (-1)) (.ref (ad 31)) (.ref (ad 32)) (.ref (ad 33)) (.ref (ad 34)) (.ref (ad 23)) (.ref (ad 24)) (.ref (ad 25)) (.ref (ad 26)) (.ref (ad 10)) (.ref (ad 2)) 0 0 0 0 0 0 (fun _ => none) (fun _ => none) (fun _ => none) (xs 1) r hfx) mw_1324 kb_X11_count (ci := 11) rfl rfl (by decide) rfl rfl hl.1 rfl (Nat.le_of_ble_eq_true rfl) dL_law_1462 (by decide)) X hV0 [0, 1, 2, 3, 4, 5, 6, 7, 8] [9, 10] rfl rfl rfl (by decide) (fun u1462 H locs hV1 => ?_)
  have hV1 : kV E A s.heap H locs [((ad 0), .inr (11, [.ref (ad 1), .ref (ad 3), .ref (ad 8), .ref (ad 13), .ref (ad 21), .ref (ad 22), .ref (ad 27), .ref (ad 30), .ref (ad 38)])), ((ad 27), .inr (0, [.ref (ad 28), .ref (ad 29), .int 0, .int 0, .int (-1), .int (-1)])), ((ad 30), .inr (2, [.ref (ad 31), .ref (ad 32), .ref (ad 33), .ref (ad 34), .ref (ad 37), .int 0])), ((ad 22), .inr (3, [.ref (ad 23), .ref (ad 24), .ref (ad 25), .ref (ad 26), .int 0])), ((ad 8), .inr (7, [.ref (ad 9), .ref (ad 10), .int 0, .int 0])), ((ad 1), .inr (9, [.ref (ad 2), .int 0])), ((ad 21), .inl (E.2 4, 4, .inr (.inr (.inr (.inr (fun _ => none)))))), ((ad 37), .inl (E.2 4, 6, .inr (.inr (.inr (.inr (fun _ => none)))))), ((ad 9), .inl (E.2 3, 10, .inr (.inr (.inr (.inr (fun _ => none)))))), ((ad 42), .inr (12, [.ref (ad 43), .int 0, .int 0, .int 0, .int 0, .int 0, .int 0, .ref (ad 44), .ref (ad 45), .ref (ad 46), .ref (ad 47), .ref (ad 48), .ref (ad 49), .ref (ad 50), .ref (ad 51), .ref (ad 52), .ref (ad 53), .ref (ad 54), .int 0, .int 0, .int 0, .int 0, .int 0, .int 0, .int 0, .int 0, .int 0, .ref (ad 55), .int 0, .int 0, .int 0, .int 0, .int 0, .int 0, .int 0, .int 0, .int 0, .int 0, .int 0, .int 0, .int 0, .ref (ad 56), .ref (ad 57), .ref (ad 58), .ref (ad 59), .ref (ad 60), .ref (ad 61), .ref (ad 62), .int 0, .int 0, .ref (ad 63), .ref (ad 64), .ref (ad 65), .ref (ad 66), .ref (ad 67), .ref (ad 68), .ref (ad 69), .ref (ad 70), .ref (ad 71), .ref (ad 72), .int 0, .int 0, .int 0, .ref (ad 73), .ref (ad 74), .ref (ad 75), .ref (ad 76)])), ((ad 44), .inl (E.2 0, 20, .inl (fun _ => 0)))] := hV1.sub [2, 3, 4, 5, 6, 7, 8, 9, 10, 0, 1] rfl rfl
  clear hV0
  refine lv_aload_n hx hb dL_law_1465 rfl (lv_at hl 1 rfl) ?_
  refine lv_aload_n hx hb dL_law_1466 rfl (lv_at hl 3 rfl) ?_
  refine lv_iload_n hx hb dL_law_1467 rfl (lv_at hl 0 rfl) ?_
  refine lv_iconst (v := 1) hx hb dL_law_1468 (by decide) ?_
  refine lv_iadd hx hb dL_law_1469 ?_
  refine ksld X hX hbl hbA hV1 (v := xs 1) (vp_in_iff.mpr (by decide)) (congrArg xs (by decide)) dL_law_1470 ?_
  refine kgoiE (krunV (rest := [.int r]) X hV1 [9, 10] (c_X12_count l E _ (ad 42) (ad 44) (.ref (ad 43)) (.ref (ad 45)) (.ref (ad 46)) (.ref (ad 47)) (.ref (ad 48)) (.ref (ad 49)) (.ref (ad 50)) (.ref (ad 51)) (.ref (ad 52)) (.ref (ad 53)) (.ref (ad 54)) (.int 0) (.int 0) (.int 0) (.int 0) (.int 0) (.int 0) (.int 0) (.int 0) (.int 0) (.ref (ad 55)) (.int 0) (.int 0) (.int 0) (.int 0) (.int 0) (.int 0) (.int 0) (.int 0) (.int 0) (.int 0) (.int 0) (.int 0) (.int 0) (.ref (ad 56)) (.ref (ad 57)) (.ref (ad 58)) (.ref (ad 59)) (.ref (ad 60)) (.ref (ad 61)) (.ref (ad 62)) (.int 0) (.int 0) (.ref (ad 63)) (.ref (ad 64)) (.ref (ad 65)) (.ref (ad 66)) (.ref (ad 67)) (.ref (ad 68)) (.ref (ad 69)) (.ref (ad 70)) (.ref (ad 71)) (.ref (ad 72)) (.int 0) (.int 0) (.int 0) (.ref (ad 73)) (.ref (ad 74)) (.ref (ad 75)) (.ref (ad 76)) 0 0 0 0 0 0 (fun _ => 0) (xs 1) r hfm) mw_1336 kb_X12_count (ci := 12) rfl rfl (by decide) rfl rfl hl.1 rfl (Nat.le_of_ble_eq_true rfl) dL_law_1471 (by decide)) X hV1 [9, 10] [0, 1, 2, 3, 4, 5, 6, 7, 8] rfl rfl rfl (by decide) (fun u1471 H locs hV2 => ?_)
  have hV2 : kV E A s.heap H locs [((ad 0), .inr (11, [.ref (ad 1), .ref (ad 3), .ref (ad 8), .ref (ad 13), .ref (ad 21), .ref (ad 22), .ref (ad 27), .ref (ad 30), .ref (ad 38)])), ((ad 27), .inr (0, [.ref (ad 28), .ref (ad 29), .int 0, .int 0, .int (-1), .int (-1)])), ((ad 30), .inr (2, [.ref (ad 31), .ref (ad 32), .ref (ad 33), .ref (ad 34), .ref (ad 37), .int 0])), ((ad 22), .inr (3, [.ref (ad 23), .ref (ad 24), .ref (ad 25), .ref (ad 26), .int 0])), ((ad 8), .inr (7, [.ref (ad 9), .ref (ad 10), .int 0, .int 0])), ((ad 1), .inr (9, [.ref (ad 2), .int 0])), ((ad 21), .inl (E.2 4, 4, .inr (.inr (.inr (.inr (fun _ => none)))))), ((ad 37), .inl (E.2 4, 6, .inr (.inr (.inr (.inr (fun _ => none)))))), ((ad 9), .inl (E.2 3, 10, .inr (.inr (.inr (.inr (fun _ => none)))))), ((ad 42), .inr (12, [.ref (ad 43), .int 0, .int 0, .int 0, .int 0, .int 0, .int 0, .ref (ad 44), .ref (ad 45), .ref (ad 46), .ref (ad 47), .ref (ad 48), .ref (ad 49), .ref (ad 50), .ref (ad 51), .ref (ad 52), .ref (ad 53), .ref (ad 54), .int 0, .int 0, .int 0, .int 0, .int 0, .int 0, .int 0, .int 0, .int 0, .ref (ad 55), .int 0, .int 0, .int 0, .int 0, .int 0, .int 0, .int 0, .int 0, .int 0, .int 0, .int 0, .int 0, .int 0, .ref (ad 56), .ref (ad 57), .ref (ad 58), .ref (ad 59), .ref (ad 60), .ref (ad 61), .ref (ad 62), .int 0, .int 0, .ref (ad 63), .ref (ad 64), .ref (ad 65), .ref (ad 66), .ref (ad 67), .ref (ad 68), .ref (ad 69), .ref (ad 70), .ref (ad 71), .ref (ad 72), .int 0, .int 0, .int 0, .ref (ad 73), .ref (ad 74), .ref (ad 75), .ref (ad 76)])), ((ad 44), .inl (E.2 0, 20, .inl (fun _ => 0)))] := hV2.sub [0, 1, 2, 3, 4, 5, 6, 7, 8, 9, 10] rfl rfl
  clear hV1
  refine lv_icmp_eq (tgt := 1479) hx hb dL_law_1474 (by decide) (fun _ => ?_) (fun c3 => absurd rfl c3)
  refine W.widen (k := 1000) (n := 100000) (by decide) (by decide) ?_
  exact T _ _ _ hV2.2.2 hl
