set_option maxHeartbeats 4000000 in
set_option maxRecDepth 100000 in
theorem lc_0 {p : Program} {l : Launch} {e : Env} {s : State} {m : MethodId} {below : List Frame} {meth : Method} {c : Code} {E : kE} {A : Nat → Prop} {b : Nat} {xs : Nat → Int32} {Q : State → Prop} {H : Heap} {locs : List Loc} {ls : Array Slot} {ad : Nat → Nat} (X : kC p s m c code 4 RL #[Value.ref b] E A) (hX : va_X b 6 xs s s.heap) (hbl : b < s.heap.size) (hbA : ¬ A b) (hV : kV E A s.heap H locs (lW E ad)) (hl : lv_has ls 4 [(3, .int 0), (2, .ref (ad 42)), (1, .ref (ad 0)), (0, .ref b)]) (r : Int32) (x_o_page_day : Int32) (x_o_sky_many : Int32) (m_o_sources : Int32) (m_o_byStar : Nat → Int32) (m_o_minuteOf : Nat → Int32) (m_o_shape : Nat → Int32) (m_o_weekdays : Nat → Int32) (m_o_wide : Nat → Int32) (hfx : f_X11_source (-1) 0 (if xs 1 = 0 then 0 else 1) (xs 2) (xs 3) (xs 4) (xs 5) = some (r, x_o_page_day, x_o_sky_many)) (hfm : f_X12_source 0 (fun _ => 0) (fun _ => 0) (fun _ => 0) (fun _ => 0) (fun _ => 0) (if xs 1 = 0 then 0 else 1) (xs 2) (xs 3) (xs 4) (xs 5) = some (r, m_o_sources, m_o_byStar, m_o_minuteOf, m_o_shape, m_o_weekdays, m_o_wide)) (T : ∀ (H : Heap) (locs : List Loc) (ls : Array Slot), va_S A s.heap H locs → lv_has ls 4 [(3, .int 0), (2, .ref (ad 42)), (1, .ref (ad 0)), (0, .ref b)] → W p l e room_1 s m #[Value.ref b] below meth c H locs 1000 100000 Q (F0 m 1479 ls [])) : W p l e room_1 s m #[Value.ref b] below meth c H locs 900 90000 Q (F0 m 176 ls []) := by
  have hx := X.1
  have hb := X.2.1
  have hV0 : kV E A s.heap H locs [((ad 0), .inr (11, [.ref (ad 1), .ref (ad 3), .ref (ad 8), .ref (ad 13), .ref (ad 21), .ref (ad 22), .ref (ad 27), .ref (ad 30), .ref (ad 38)])), ((ad 13), .inr (4, [.ref (ad 14), .ref (ad 15), .ref (ad 16), .ref (ad 17), .ref (ad 18), .int 0, .int (-1)])), ((ad 8), .inr (7, [.ref (ad 9), .ref (ad 10), .int 0, .int 0])), ((ad 9), .inl (E.2 3, 10, .inr (.inr (.inr (.inr (fun _ => none)))))), ((ad 42), .inr (12, [.ref (ad 43), .int 0, .int 0, .int 0, .int 0, .int 0, .int 0, .ref (ad 44), .ref (ad 45), .ref (ad 46), .ref (ad 47), .ref (ad 48), .ref (ad 49), .ref (ad 50), .ref (ad 51), .ref (ad 52), .ref (ad 53), .ref (ad 54), .int 0, .int 0, .int 0, .int 0, .int 0, .int 0, .int 0, .int 0, .int 0, .ref (ad 55), .int 0, .int 0, .int 0, .int 0, .int 0, .int 0, .int 0, .int 0, .int 0, .int 0, .int 0, .int 0, .int 0, .ref (ad 56), .ref (ad 57), .ref (ad 58), .ref (ad 59), .ref (ad 60), .ref (ad 61), .ref (ad 62), .int 0, .int 0, .ref (ad 63), .ref (ad 64), .ref (ad 65), .ref (ad 66), .ref (ad 67), .ref (ad 68), .ref (ad 69), .ref (ad 70), .ref (ad 71), .ref (ad 72), .int 0, .int 0, .int 0, .ref (ad 73), .ref (ad 74), .ref (ad 75), .ref (ad 76)])), ((ad 58), .inl (E.2 2, 10, .inl (fun _ => 0))), ((ad 59), .inl (E.2 0, 10, .inl (fun _ => 0))), ((ad 61), .inl (E.2 0, 10, .inl (fun _ => 0))), ((ad 62), .inl (E.2 0, 10, .inl (fun _ => 0))), ((ad 60), .inl (E.2 0, 10, .inl (fun _ => 0)))] := hV.sub [0, 13, 8, 9, 42, 58, 59, 61, 62, 60] rfl rfl
  clear hV
  refine lv_aload_n hx hb dL_law_176 rfl (lv_at hl 2 rfl) ?_
  refine lv_aload_n hx hb dL_law_177 rfl (lv_at hl 3 rfl) ?_
  refine lv_iload_n hx hb dL_law_178 rfl (lv_at hl 0 rfl) ?_
  refine lv_iconst (v := 1) hx hb dL_law_179 (by decide) ?_
  refine lv_iadd hx hb dL_law_180 ?_
  refine ksld X hX hbl hbA hV0 (v := xs 1) (vp_in_iff.mpr (by decide)) (congrArg xs (by decide)) dL_law_181 ?_
  refine lv_if_eq (tgt := 189) hx hb dL_law_182 (by decide) (fun cz => ?_) (fun cz => ?_)
  · skip
    refine lv_iconst (v := 0) hx hb dL_law_189 (by decide) ?_
    refine lv_aload_n hx hb dL_law_190 rfl (lv_at hl 3 rfl) ?_
    refine lv_iload_n hx hb dL_law_191 rfl (lv_at hl 0 rfl) ?_
    refine lv_iconst (v := 2) hx hb dL_law_192 (by decide) ?_
    refine lv_iadd hx hb dL_law_193 ?_
    refine ksld X hX hbl hbA hV0 (v := xs 2) (vp_in_iff.mpr (by decide)) (congrArg xs (by decide)) dL_law_194 ?_
    refine lv_aload_n hx hb dL_law_195 rfl (lv_at hl 3 rfl) ?_
    refine lv_iload_n hx hb dL_law_196 rfl (lv_at hl 0 rfl) ?_
    refine lv_iconst (v := 3) hx hb dL_law_197 (by decide) ?_
    refine lv_iadd hx hb dL_law_198 ?_
    refine ksld X hX hbl hbA hV0 (v := xs 3) (vp_in_iff.mpr (by decide)) (congrArg xs (by decide)) dL_law_199 ?_
    refine lv_aload_n hx hb dL_law_200 rfl (lv_at hl 3 rfl) ?_
    refine lv_iload_n hx hb dL_law_201 rfl (lv_at hl 0 rfl) ?_
    refine lv_iconst (v := 4) hx hb dL_law_202 (by decide) ?_
    refine lv_iadd hx hb dL_law_203 ?_
    refine ksld X hX hbl hbA hV0 (v := xs 4) (vp_in_iff.mpr (by decide)) (congrArg xs (by decide)) dL_law_204 ?_
    refine lv_aload_n hx hb dL_law_205 rfl (lv_at hl 3 rfl) ?_
    refine lv_iload_n hx hb dL_law_206 rfl (lv_at hl 0 rfl) ?_
    refine lv_iconst (v := 5) hx hb dL_law_207 (by decide) ?_
    refine lv_iadd hx hb dL_law_208 ?_
    refine ksld X hX hbl hbA hV0 (v := xs 5) (vp_in_iff.mpr (by decide)) (congrArg xs (by decide)) dL_law_209 ?_
    refine kgoiE (krunV (rest := []) X hV0 [0, 1, 2, 3] (c_X11_source l E _ (ad 0) (ad 13) (ad 8) (ad 9) (.ref (ad 1)) (.ref (ad 3)) (.ref (ad 21)) (.ref (ad 22)) (.ref (ad 27)) (.ref (ad 30)) (.ref (ad 38)) (.ref (ad 14)) (.ref (ad 15)) (.ref (ad 16)) (.ref (ad 17)) (.ref (ad 18)) (.int 0) (.ref (ad 10)) (.int 0) (-1) 0 (fun _ => none) 0 (xs 2) (xs 3) (xs 4) (xs 5) r x_o_page_day x_o_sky_many (by rw [if_pos cz] at hfx; exact hfx)) mw_176 kb_X11_source (ci := 11) rfl rfl (by decide) rfl rfl hl.1 rfl (Nat.le_of_ble_eq_true rfl) dL_law_210 (by decide)) X hV0 [0, 1, 2, 3] [4, 5, 6, 7, 8, 9] rfl rfl rfl (by decide) (fun u210 H locs hV1 => ?_)
    have hV1 : kV E A s.heap H locs [((ad 0), .inr (11, [.ref (ad 1), .ref (ad 3), .ref (ad 8), .ref (ad 13), .ref (ad 21), .ref (ad 22), .ref (ad 27), .ref (ad 30), .ref (ad 38)])), ((ad 13), .inr (4, [.ref (ad 14), .ref (ad 15), .ref (ad 16), .ref (ad 17), .ref (ad 18), .int 0, .int x_o_page_day])), ((ad 8), .inr (7, [.ref (ad 9), .ref (ad 10), .int x_o_sky_many, .int 0])), (ad 9, .inl (E.2 3, 10, .inr (.inr (.inr (.inr u210))))), ((ad 42), .inr (12, [.ref (ad 43), .int 0, .int 0, .int 0, .int 0, .int 0, .int 0, .ref (ad 44), .ref (ad 45), .ref (ad 46), .ref (ad 47), .ref (ad 48), .ref (ad 49), .ref (ad 50), .ref (ad 51), .ref (ad 52), .ref (ad 53), .ref (ad 54), .int 0, .int 0, .int 0, .int 0, .int 0, .int 0, .int 0, .int 0, .int 0, .ref (ad 55), .int 0, .int 0, .int 0, .int 0, .int 0, .int 0, .int 0, .int 0, .int 0, .int 0, .int 0, .int 0, .int 0, .ref (ad 56), .ref (ad 57), .ref (ad 58), .ref (ad 59), .ref (ad 60), .ref (ad 61), .ref (ad 62), .int 0, .int 0, .ref (ad 63), .ref (ad 64), .ref (ad 65), .ref (ad 66), .ref (ad 67), .ref (ad 68), .ref (ad 69), .ref (ad 70), .ref (ad 71), .ref (ad 72), .int 0, .int 0, .int 0, .ref (ad 73), .ref (ad 74), .ref (ad 75), .ref (ad 76)])), ((ad 58), .inl (E.2 2, 10, .inl (fun _ => 0))), ((ad 59), .inl (E.2 0, 10, .inl (fun _ => 0))), ((ad 61), .inl (E.2 0, 10, .inl (fun _ => 0))), ((ad 62), .inl (E.2 0, 10, .inl (fun _ => 0))), ((ad 60), .inl (E.2 0, 10, .inl (fun _ => 0)))] := hV1.sub [6, 7, 8, 9, 0, 1, 2, 3, 4, 5] rfl rfl
    clear hV0
    refine lv_aload_n hx hb dL_law_213 rfl (lv_at hl 1 rfl) ?_
    refine lv_aload_n hx hb dL_law_214 rfl (lv_at hl 3 rfl) ?_
    refine lv_iload_n hx hb dL_law_215 rfl (lv_at hl 0 rfl) ?_
    refine lv_iconst (v := 1) hx hb dL_law_216 (by decide) ?_
    refine lv_iadd hx hb dL_law_217 ?_
    refine ksld X hX hbl hbA hV1 (v := xs 1) (vp_in_iff.mpr (by decide)) (congrArg xs (by decide)) dL_law_218 ?_
    refine lv_if_eq (tgt := 226) hx hb dL_law_219 (by decide) (fun c2 => ?_) (fun c2 => absurd cz c2)
    refine lv_iconst (v := 0) hx hb dL_law_226 (by decide) ?_
    refine lv_aload_n hx hb dL_law_227 rfl (lv_at hl 3 rfl) ?_
    refine lv_iload_n hx hb dL_law_228 rfl (lv_at hl 0 rfl) ?_
    refine lv_iconst (v := 2) hx hb dL_law_229 (by decide) ?_
    refine lv_iadd hx hb dL_law_230 ?_
    refine ksld X hX hbl hbA hV1 (v := xs 2) (vp_in_iff.mpr (by decide)) (congrArg xs (by decide)) dL_law_231 ?_
    refine lv_aload_n hx hb dL_law_232 rfl (lv_at hl 3 rfl) ?_
    refine lv_iload_n hx hb dL_law_233 rfl (lv_at hl 0 rfl) ?_
    refine lv_iconst (v := 3) hx hb dL_law_234 (by decide) ?_
    refine lv_iadd hx hb dL_law_235 ?_
    refine ksld X hX hbl hbA hV1 (v := xs 3) (vp_in_iff.mpr (by decide)) (congrArg xs (by decide)) dL_law_236 ?_
    refine lv_aload_n hx hb dL_law_237 rfl (lv_at hl 3 rfl) ?_
    refine lv_iload_n hx hb dL_law_238 rfl (lv_at hl 0 rfl) ?_
    refine lv_iconst (v := 4) hx hb dL_law_239 (by decide) ?_
    refine lv_iadd hx hb dL_law_240 ?_
    refine ksld X hX hbl hbA hV1 (v := xs 4) (vp_in_iff.mpr (by decide)) (congrArg xs (by decide)) dL_law_241 ?_
    refine lv_aload_n hx hb dL_law_242 rfl (lv_at hl 3 rfl) ?_
    refine lv_iload_n hx hb dL_law_243 rfl (lv_at hl 0 rfl) ?_
    refine lv_iconst (v := 5) hx hb dL_law_244 (by decide) ?_
    refine lv_iadd hx hb dL_law_245 ?_
    refine ksld X hX hbl hbA hV1 (v := xs 5) (vp_in_iff.mpr (by decide)) (congrArg xs (by decide)) dL_law_246 ?_
    refine kgoiE (krunV (rest := [.int r]) X hV1 [4, 5, 6, 7, 8, 9] (c_X12_source l E _ (ad 42) (ad 58) (ad 59) (ad 61) (ad 62) (ad 60) (.ref (ad 43)) (.int 0) (.int 0) (.int 0) (.int 0) (.int 0) (.ref (ad 44)) (.ref (ad 45)) (.ref (ad 46)) (.ref (ad 47)) (.ref (ad 48)) (.ref (ad 49)) (.ref (ad 50)) (.ref (ad 51)) (.ref (ad 52)) (.ref (ad 53)) (.ref (ad 54)) (.int 0) (.int 0) (.int 0) (.int 0) (.int 0) (.int 0) (.int 0) (.int 0) (.int 0) (.ref (ad 55)) (.int 0) (.int 0) (.int 0) (.int 0) (.int 0) (.int 0) (.int 0) (.int 0) (.int 0) (.int 0) (.int 0) (.int 0) (.int 0) (.ref (ad 56)) (.ref (ad 57)) (.int 0) (.int 0) (.ref (ad 63)) (.ref (ad 64)) (.ref (ad 65)) (.ref (ad 66)) (.ref (ad 67)) (.ref (ad 68)) (.ref (ad 69)) (.ref (ad 70)) (.ref (ad 71)) (.ref (ad 72)) (.int 0) (.int 0) (.int 0) (.ref (ad 73)) (.ref (ad 74)) (.ref (ad 75)) (.ref (ad 76)) 0 (fun _ => 0) (fun _ => 0) (fun _ => 0) (fun _ => 0) (fun _ => 0) 0 (xs 2) (xs 3) (xs 4) (xs 5) r m_o_sources m_o_byStar m_o_minuteOf m_o_shape m_o_weekdays m_o_wide (by rw [if_pos cz] at hfm; exact hfm)) mw_212 kb_X12_source (ci := 12) rfl rfl (by decide) rfl rfl hl.1 rfl (Nat.le_of_ble_eq_true rfl) dL_law_247 (by decide)) X hV1 [4, 5, 6, 7, 8, 9] [0, 1, 2, 3] rfl rfl rfl (by decide) (fun u247 H locs hV3 => ?_)
    have hV3 : kV E A s.heap H locs [((ad 0), .inr (11, [.ref (ad 1), .ref (ad 3), .ref (ad 8), .ref (ad 13), .ref (ad 21), .ref (ad 22), .ref (ad 27), .ref (ad 30), .ref (ad 38)])), ((ad 13), .inr (4, [.ref (ad 14), .ref (ad 15), .ref (ad 16), .ref (ad 17), .ref (ad 18), .int 0, .int x_o_page_day])), ((ad 8), .inr (7, [.ref (ad 9), .ref (ad 10), .int x_o_sky_many, .int 0])), (ad 9, .inl (E.2 3, 10, .inr (.inr (.inr (.inr u210))))), ((ad 42), .inr (12, [.ref (ad 43), .int 0, .int m_o_sources, .int 0, .int 0, .int 0, .int 0, .ref (ad 44), .ref (ad 45), .ref (ad 46), .ref (ad 47), .ref (ad 48), .ref (ad 49), .ref (ad 50), .ref (ad 51), .ref (ad 52), .ref (ad 53), .ref (ad 54), .int 0, .int 0, .int 0, .int 0, .int 0, .int 0, .int 0, .int 0, .int 0, .ref (ad 55), .int 0, .int 0, .int 0, .int 0, .int 0, .int 0, .int 0, .int 0, .int 0, .int 0, .int 0, .int 0, .int 0, .ref (ad 56), .ref (ad 57), .ref (ad 58), .ref (ad 59), .ref (ad 60), .ref (ad 61), .ref (ad 62), .int 0, .int 0, .ref (ad 63), .ref (ad 64), .ref (ad 65), .ref (ad 66), .ref (ad 67), .ref (ad 68), .ref (ad 69), .ref (ad 70), .ref (ad 71), .ref (ad 72), .int 0, .int 0, .int 0, .ref (ad 73), .ref (ad 74), .ref (ad 75), .ref (ad 76)])), (ad 58, .inl (E.2 2, 10, .inl m_o_byStar)), (ad 59, .inl (E.2 0, 10, .inl m_o_minuteOf)), (ad 61, .inl (E.2 0, 10, .inl m_o_shape)), (ad 62, .inl (E.2 0, 10, .inl m_o_weekdays)), (ad 60, .inl (E.2 0, 10, .inl m_o_wide))] := hV3.sub [0, 1, 2, 3, 4, 5, 6, 7, 8, 9] rfl rfl
    clear hV1
    refine lv_icmp_eq (tgt := 1479) hx hb dL_law_250 (by decide) (fun _ => ?_) (fun c4 => absurd rfl c4)
    refine W.widen (k := 1000) (n := 100000) (by decide) (by decide) ?_
    exact T _ _ _ hV3.2.2 hl
  · skip
    refine lv_iconst (v := 1) hx hb dL_law_185 (by decide) ?_
    refine lv_goto (tgt := 190) hx hb dL_law_186 (by decide) ?_
    refine lv_aload_n hx hb dL_law_190 rfl (lv_at hl 3 rfl) ?_
    refine lv_iload_n hx hb dL_law_191 rfl (lv_at hl 0 rfl) ?_
    refine lv_iconst (v := 2) hx hb dL_law_192 (by decide) ?_
    refine lv_iadd hx hb dL_law_193 ?_
    refine ksld X hX hbl hbA hV0 (v := xs 2) (vp_in_iff.mpr (by decide)) (congrArg xs (by decide)) dL_law_194 ?_
    refine lv_aload_n hx hb dL_law_195 rfl (lv_at hl 3 rfl) ?_
    refine lv_iload_n hx hb dL_law_196 rfl (lv_at hl 0 rfl) ?_
    refine lv_iconst (v := 3) hx hb dL_law_197 (by decide) ?_
    refine lv_iadd hx hb dL_law_198 ?_
    refine ksld X hX hbl hbA hV0 (v := xs 3) (vp_in_iff.mpr (by decide)) (congrArg xs (by decide)) dL_law_199 ?_
    refine lv_aload_n hx hb dL_law_200 rfl (lv_at hl 3 rfl) ?_
    refine lv_iload_n hx hb dL_law_201 rfl (lv_at hl 0 rfl) ?_
    refine lv_iconst (v := 4) hx hb dL_law_202 (by decide) ?_
    refine lv_iadd hx hb dL_law_203 ?_
    refine ksld X hX hbl hbA hV0 (v := xs 4) (vp_in_iff.mpr (by decide)) (congrArg xs (by decide)) dL_law_204 ?_
    refine lv_aload_n hx hb dL_law_205 rfl (lv_at hl 3 rfl) ?_
    refine lv_iload_n hx hb dL_law_206 rfl (lv_at hl 0 rfl) ?_
    refine lv_iconst (v := 5) hx hb dL_law_207 (by decide) ?_
    refine lv_iadd hx hb dL_law_208 ?_
    refine ksld X hX hbl hbA hV0 (v := xs 5) (vp_in_iff.mpr (by decide)) (congrArg xs (by decide)) dL_law_209 ?_
    refine kgoiE (krunV (rest := []) X hV0 [0, 1, 2, 3] (c_X11_source l E _ (ad 0) (ad 13) (ad 8) (ad 9) (.ref (ad 1)) (.ref (ad 3)) (.ref (ad 21)) (.ref (ad 22)) (.ref (ad 27)) (.ref (ad 30)) (.ref (ad 38)) (.ref (ad 14)) (.ref (ad 15)) (.ref (ad 16)) (.ref (ad 17)) (.ref (ad 18)) (.int 0) (.ref (ad 10)) (.int 0) (-1) 0 (fun _ => none) 1 (xs 2) (xs 3) (xs 4) (xs 5) r x_o_page_day x_o_sky_many (by rw [if_neg cz] at hfx; exact hfx)) mw_176 kb_X11_source (ci := 11) rfl rfl (by decide) rfl rfl hl.1 rfl (Nat.le_of_ble_eq_true rfl) dL_law_210 (by decide)) X hV0 [0, 1, 2, 3] [4, 5, 6, 7, 8, 9] rfl rfl rfl (by decide) (fun u210 H locs hV5 => ?_)
    have hV5 : kV E A s.heap H locs [((ad 0), .inr (11, [.ref (ad 1), .ref (ad 3), .ref (ad 8), .ref (ad 13), .ref (ad 21), .ref (ad 22), .ref (ad 27), .ref (ad 30), .ref (ad 38)])), ((ad 13), .inr (4, [.ref (ad 14), .ref (ad 15), .ref (ad 16), .ref (ad 17), .ref (ad 18), .int 0, .int x_o_page_day])), ((ad 8), .inr (7, [.ref (ad 9), .ref (ad 10), .int x_o_sky_many, .int 0])), (ad 9, .inl (E.2 3, 10, .inr (.inr (.inr (.inr u210))))), ((ad 42), .inr (12, [.ref (ad 43), .int 0, .int 0, .int 0, .int 0, .int 0, .int 0, .ref (ad 44), .ref (ad 45), .ref (ad 46), .ref (ad 47), .ref (ad 48), .ref (ad 49), .ref (ad 50), .ref (ad 51), .ref (ad 52), .ref (ad 53), .ref (ad 54), .int 0, .int 0, .int 0, .int 0, .int 0, .int 0, .int 0, .int 0, .int 0, .ref (ad 55), .int 0, .int 0, .int 0, .int 0, .int 0, .int 0, .int 0, .int 0, .int 0, .int 0, .int 0, .int 0, .int 0, .ref (ad 56), .ref (ad 57), .ref (ad 58), .ref (ad 59), .ref (ad 60), .ref (ad 61), .ref (ad 62), .int 0, .int 0, .ref (ad 63), .ref (ad 64), .ref (ad 65), .ref (ad 66), .ref (ad 67), .ref (ad 68), .ref (ad 69), .ref (ad 70), .ref (ad 71), .ref (ad 72), .int 0, .int 0, .int 0, .ref (ad 73), .ref (ad 74), .ref (ad 75), .ref (ad 76)])), ((ad 58), .inl (E.2 2, 10, .inl (fun _ => 0))), ((ad 59), .inl (E.2 0, 10, .inl (fun _ => 0))), ((ad 61), .inl (E.2 0, 10, .inl (fun _ => 0))), ((ad 62), .inl (E.2 0, 10, .inl (fun _ => 0))), ((ad 60), .inl (E.2 0, 10, .inl (fun _ => 0)))] := hV5.sub [6, 7, 8, 9, 0, 1, 2, 3, 4, 5] rfl rfl
    clear hV0
    refine lv_aload_n hx hb dL_law_213 rfl (lv_at hl 1 rfl) ?_
    refine lv_aload_n hx hb dL_law_214 rfl (lv_at hl 3 rfl) ?_
    refine lv_iload_n hx hb dL_law_215 rfl (lv_at hl 0 rfl) ?_
    refine lv_iconst (v := 1) hx hb dL_law_216 (by decide) ?_
    refine lv_iadd hx hb dL_law_217 ?_
    refine ksld X hX hbl hbA hV5 (v := xs 1) (vp_in_iff.mpr (by decide)) (congrArg xs (by decide)) dL_law_218 ?_
    refine lv_if_eq (tgt := 226) hx hb dL_law_219 (by decide) (fun c6 => absurd c6 cz) (fun c6 => ?_)
    refine lv_iconst (v := 1) hx hb dL_law_222 (by decide) ?_
    refine lv_goto (tgt := 227) hx hb dL_law_223 (by decide) ?_
    refine lv_aload_n hx hb dL_law_227 rfl (lv_at hl 3 rfl) ?_
    refine lv_iload_n hx hb dL_law_228 rfl (lv_at hl 0 rfl) ?_
    refine lv_iconst (v := 2) hx hb dL_law_229 (by decide) ?_
    refine lv_iadd hx hb dL_law_230 ?_
    refine ksld X hX hbl hbA hV5 (v := xs 2) (vp_in_iff.mpr (by decide)) (congrArg xs (by decide)) dL_law_231 ?_
    refine lv_aload_n hx hb dL_law_232 rfl (lv_at hl 3 rfl) ?_
    refine lv_iload_n hx hb dL_law_233 rfl (lv_at hl 0 rfl) ?_
    refine lv_iconst (v := 3) hx hb dL_law_234 (by decide) ?_
    refine lv_iadd hx hb dL_law_235 ?_
    refine ksld X hX hbl hbA hV5 (v := xs 3) (vp_in_iff.mpr (by decide)) (congrArg xs (by decide)) dL_law_236 ?_
    refine lv_aload_n hx hb dL_law_237 rfl (lv_at hl 3 rfl) ?_
    refine lv_iload_n hx hb dL_law_238 rfl (lv_at hl 0 rfl) ?_
    refine lv_iconst (v := 4) hx hb dL_law_239 (by decide) ?_
    refine lv_iadd hx hb dL_law_240 ?_
    refine ksld X hX hbl hbA hV5 (v := xs 4) (vp_in_iff.mpr (by decide)) (congrArg xs (by decide)) dL_law_241 ?_
    refine lv_aload_n hx hb dL_law_242 rfl (lv_at hl 3 rfl) ?_
    refine lv_iload_n hx hb dL_law_243 rfl (lv_at hl 0 rfl) ?_
    refine lv_iconst (v := 5) hx hb dL_law_244 (by decide) ?_
    refine lv_iadd hx hb dL_law_245 ?_
    refine ksld X hX hbl hbA hV5 (v := xs 5) (vp_in_iff.mpr (by decide)) (congrArg xs (by decide)) dL_law_246 ?_
    refine kgoiE (krunV (rest := [.int r]) X hV5 [4, 5, 6, 7, 8, 9] (c_X12_source l E _ (ad 42) (ad 58) (ad 59) (ad 61) (ad 62) (ad 60) (.ref (ad 43)) (.int 0) (.int 0) (.int 0) (.int 0) (.int 0) (.ref (ad 44)) (.ref (ad 45)) (.ref (ad 46)) (.ref (ad 47)) (.ref (ad 48)) (.ref (ad 49)) (.ref (ad 50)) (.ref (ad 51)) (.ref (ad 52)) (.ref (ad 53)) (.ref (ad 54)) (.int 0) (.int 0) (.int 0) (.int 0) (.int 0) (.int 0) (.int 0) (.int 0) (.int 0) (.ref (ad 55)) (.int 0) (.int 0) (.int 0) (.int 0) (.int 0) (.int 0) (.int 0) (.int 0) (.int 0) (.int 0) (.int 0) (.int 0) (.int 0) (.ref (ad 56)) (.ref (ad 57)) (.int 0) (.int 0) (.ref (ad 63)) (.ref (ad 64)) (.ref (ad 65)) (.ref (ad 66)) (.ref (ad 67)) (.ref (ad 68)) (.ref (ad 69)) (.ref (ad 70)) (.ref (ad 71)) (.ref (ad 72)) (.int 0) (.int 0) (.int 0) (.ref (ad 73)) (.ref (ad 74)) (.ref (ad 75)) (.ref (ad 76)) 0 (fun _ => 0) (fun _ => 0) (fun _ => 0) (fun _ => 0) (fun _ => 0) 1 (xs 2) (xs 3) (xs 4) (xs 5) r m_o_sources m_o_byStar m_o_minuteOf m_o_shape m_o_weekdays m_o_wide (by rw [if_neg cz] at hfm; exact hfm)) mw_212 kb_X12_source (ci := 12) rfl rfl (by decide) rfl rfl hl.1 rfl (Nat.le_of_ble_eq_true rfl) dL_law_247 (by decide)) X hV5 [4, 5, 6, 7, 8, 9] [0, 1, 2, 3] rfl rfl rfl (by decide) (fun u247 H locs hV7 => ?_)
    have hV7 : kV E A s.heap H locs [((ad 0), .inr (11, [.ref (ad 1), .ref (ad 3), .ref (ad 8), .ref (ad 13), .ref (ad 21), .ref (ad 22), .ref (ad 27), .ref (ad 30), .ref (ad 38)])), ((ad 13), .inr (4, [.ref (ad 14), .ref (ad 15), .ref (ad 16), .ref (ad 17), .ref (ad 18), .int 0, .int x_o_page_day])), ((ad 8), .inr (7, [.ref (ad 9), .ref (ad 10), .int x_o_sky_many, .int 0])), (ad 9, .inl (E.2 3, 10, .inr (.inr (.inr (.inr u210))))), ((ad 42), .inr (12, [.ref (ad 43), .int 0, .int m_o_sources, .int 0, .int 0, .int 0, .int 0, .ref (ad 44), .ref (ad 45), .ref (ad 46), .ref (ad 47), .ref (ad 48), .ref (ad 49), .ref (ad 50), .ref (ad 51), .ref (ad 52), .ref (ad 53), .ref (ad 54), .int 0, .int 0, .int 0, .int 0, .int 0, .int 0, .int 0, .int 0, .int 0, .ref (ad 55), .int 0, .int 0, .int 0, .int 0, .int 0, .int 0, .int 0, .int 0, .int 0, .int 0, .int 0, .int 0, .int 0, .ref (ad 56), .ref (ad 57), .ref (ad 58), .ref (ad 59), .ref (ad 60), .ref (ad 61), .ref (ad 62), .int 0, .int 0, .ref (ad 63), .ref (ad 64), .ref (ad 65), .ref (ad 66), .ref (ad 67), .ref (ad 68), .ref (ad 69), .ref (ad 70), .ref (ad 71), .ref (ad 72), .int 0, .int 0, .int 0, .ref (ad 73), .ref (ad 74), .ref (ad 75), .ref (ad 76)])), (ad 58, .inl (E.2 2, 10, .inl m_o_byStar)), (ad 59, .inl (E.2 0, 10, .inl m_o_minuteOf)), (ad 61, .inl (E.2 0, 10, .inl m_o_shape)), (ad 62, .inl (E.2 0, 10, .inl m_o_weekdays)), (ad 60, .inl (E.2 0, 10, .inl m_o_wide))] := hV7.sub [0, 1, 2, 3, 4, 5, 6, 7, 8, 9] rfl rfl
    clear hV5
    refine lv_icmp_eq (tgt := 1479) hx hb dL_law_250 (by decide) (fun _ => ?_) (fun c8 => absurd rfl c8)
    refine W.widen (k := 1000) (n := 100000) (by decide) (by decide) ?_
    exact T _ _ _ hV7.2.2 hl
set_option maxHeartbeats 4000000 in
set_option maxRecDepth 100000 in
theorem lc_1 {p : Program} {l : Launch} {e : Env} {s : State} {m : MethodId} {below : List Frame} {meth : Method} {c : Code} {E : kE} {A : Nat → Prop} {b : Nat} {xs : Nat → Int32} {Q : State → Prop} {H : Heap} {locs : List Loc} {ls : Array Slot} {ad : Nat → Nat} (X : kC p s m c code 4 RL #[Value.ref b] E A) (hX : va_X b 6 xs s s.heap) (hbl : b < s.heap.size) (hbA : ¬ A b) (hV : kV E A s.heap H locs (lW E ad)) (hl : lv_has ls 4 [(3, .int 0), (2, .ref (ad 42)), (1, .ref (ad 0)), (0, .ref b)]) (r : Int32) (x_o_page_day : Int32) (x_o_sky_seed : Int32) (m_o_seed : Int32) (hfx : f_X11_seed (-1) 0 (xs 1) = some (r, x_o_page_day, x_o_sky_seed)) (hfm : f_X12_seed 0 (xs 1) = some (r, m_o_seed)) (T : ∀ (H : Heap) (locs : List Loc) (ls : Array Slot), va_S A s.heap H locs → lv_has ls 4 [(3, .int 0), (2, .ref (ad 42)), (1, .ref (ad 0)), (0, .ref b)] → W p l e room_1 s m #[Value.ref b] below meth c H locs 1000 100000 Q (F0 m 1479 ls [])) : W p l e room_1 s m #[Value.ref b] below meth c H locs 900 90000 Q (F0 m 255 ls []) := by
  have hx := X.1
  have hb := X.2.1
  have hV0 : kV E A s.heap H locs [((ad 0), .inr (11, [.ref (ad 1), .ref (ad 3), .ref (ad 8), .ref (ad 13), .ref (ad 21), .ref (ad 22), .ref (ad 27), .ref (ad 30), .ref (ad 38)])), ((ad 13), .inr (4, [.ref (ad 14), .ref (ad 15), .ref (ad 16), .ref (ad 17), .ref (ad 18), .int 0, .int (-1)])), ((ad 8), .inr (7, [.ref (ad 9), .ref (ad 10), .int 0, .int 0])), ((ad 42), .inr (12, [.ref (ad 43), .int 0, .int 0, .int 0, .int 0, .int 0, .int 0, .ref (ad 44), .ref (ad 45), .ref (ad 46), .ref (ad 47), .ref (ad 48), .ref (ad 49), .ref (ad 50), .ref (ad 51), .ref (ad 52), .ref (ad 53), .ref (ad 54), .int 0, .int 0, .int 0, .int 0, .int 0, .int 0, .int 0, .int 0, .int 0, .ref (ad 55), .int 0, .int 0, .int 0, .int 0, .int 0, .int 0, .int 0, .int 0, .int 0, .int 0, .int 0, .int 0, .int 0, .ref (ad 56), .ref (ad 57), .ref (ad 58), .ref (ad 59), .ref (ad 60), .ref (ad 61), .ref (ad 62), .int 0, .int 0, .ref (ad 63), .ref (ad 64), .ref (ad 65), .ref (ad 66), .ref (ad 67), .ref (ad 68), .ref (ad 69), .ref (ad 70), .ref (ad 71), .ref (ad 72), .int 0, .int 0, .int 0, .ref (ad 73), .ref (ad 74), .ref (ad 75), .ref (ad 76)]))] := hV.sub [0, 13, 8, 42] rfl rfl
  clear hV
  refine lv_aload_n hx hb dL_law_255 rfl (lv_at hl 2 rfl) ?_
  refine lv_aload_n hx hb dL_law_256 rfl (lv_at hl 3 rfl) ?_
  refine lv_iload_n hx hb dL_law_257 rfl (lv_at hl 0 rfl) ?_
  refine lv_iconst (v := 1) hx hb dL_law_258 (by decide) ?_
  refine lv_iadd hx hb dL_law_259 ?_
  refine ksld X hX hbl hbA hV0 (v := xs 1) (vp_in_iff.mpr (by decide)) (congrArg xs (by decide)) dL_law_260 ?_
  refine kgoiE (krunV (rest := []) X hV0 [0, 1, 2] (c_X11_seed l E _ (ad 0) (ad 13) (ad 8) (.ref (ad 1)) (.ref (ad 3)) (.ref (ad 21)) (.ref (ad 22)) (.ref (ad 27)) (.ref (ad 30)) (.ref (ad 38)) (.ref (ad 14)) (.ref (ad 15)) (.ref (ad 16)) (.ref (ad 17)) (.ref (ad 18)) (.int 0) (.ref (ad 9)) (.ref (ad 10)) (.int 0) (-1) 0 (xs 1) r x_o_page_day x_o_sky_seed hfx) mw_227 kb_X11_seed (ci := 11) rfl rfl (by decide) rfl rfl hl.1 rfl (Nat.le_of_ble_eq_true rfl) dL_law_261 (by decide)) X hV0 [0, 1, 2] [3] rfl rfl rfl (by decide) (fun u261 H locs hV1 => ?_)
  have hV1 : kV E A s.heap H locs [((ad 0), .inr (11, [.ref (ad 1), .ref (ad 3), .ref (ad 8), .ref (ad 13), .ref (ad 21), .ref (ad 22), .ref (ad 27), .ref (ad 30), .ref (ad 38)])), ((ad 13), .inr (4, [.ref (ad 14), .ref (ad 15), .ref (ad 16), .ref (ad 17), .ref (ad 18), .int 0, .int x_o_page_day])), ((ad 8), .inr (7, [.ref (ad 9), .ref (ad 10), .int 0, .int x_o_sky_seed])), ((ad 42), .inr (12, [.ref (ad 43), .int 0, .int 0, .int 0, .int 0, .int 0, .int 0, .ref (ad 44), .ref (ad 45), .ref (ad 46), .ref (ad 47), .ref (ad 48), .ref (ad 49), .ref (ad 50), .ref (ad 51), .ref (ad 52), .ref (ad 53), .ref (ad 54), .int 0, .int 0, .int 0, .int 0, .int 0, .int 0, .int 0, .int 0, .int 0, .ref (ad 55), .int 0, .int 0, .int 0, .int 0, .int 0, .int 0, .int 0, .int 0, .int 0, .int 0, .int 0, .int 0, .int 0, .ref (ad 56), .ref (ad 57), .ref (ad 58), .ref (ad 59), .ref (ad 60), .ref (ad 61), .ref (ad 62), .int 0, .int 0, .ref (ad 63), .ref (ad 64), .ref (ad 65), .ref (ad 66), .ref (ad 67), .ref (ad 68), .ref (ad 69), .ref (ad 70), .ref (ad 71), .ref (ad 72), .int 0, .int 0, .int 0, .ref (ad 73), .ref (ad 74), .ref (ad 75), .ref (ad 76)]))] := hV1.sub [1, 2, 3, 0] rfl rfl
  clear hV0
  refine lv_aload_n hx hb dL_law_264 rfl (lv_at hl 1 rfl) ?_
  refine lv_aload_n hx hb dL_law_265 rfl (lv_at hl 3 rfl) ?_
  refine lv_iload_n hx hb dL_law_266 rfl (lv_at hl 0 rfl) ?_
  refine lv_iconst (v := 1) hx hb dL_law_267 (by decide) ?_
  refine lv_iadd hx hb dL_law_268 ?_
  refine ksld X hX hbl hbA hV1 (v := xs 1) (vp_in_iff.mpr (by decide)) (congrArg xs (by decide)) dL_law_269 ?_
  refine kgoiE (krunV (rest := [.int r]) X hV1 [3] (c_X12_seed l E _ (ad 42) (.ref (ad 43)) (.int 0) (.int 0) (.int 0) (.int 0) (.int 0) (.ref (ad 44)) (.ref (ad 45)) (.ref (ad 46)) (.ref (ad 47)) (.ref (ad 48)) (.ref (ad 49)) (.ref (ad 50)) (.ref (ad 51)) (.ref (ad 52)) (.ref (ad 53)) (.ref (ad 54)) (.int 0) (.int 0) (.int 0) (.int 0) (.int 0) (.int 0) (.int 0) (.int 0) (.int 0) (.ref (ad 55)) (.int 0) (.int 0) (.int 0) (.int 0) (.int 0) (.int 0) (.int 0) (.int 0) (.int 0) (.int 0) (.int 0) (.int 0) (.int 0) (.ref (ad 56)) (.ref (ad 57)) (.ref (ad 58)) (.ref (ad 59)) (.ref (ad 60)) (.ref (ad 61)) (.ref (ad 62)) (.int 0) (.int 0) (.ref (ad 63)) (.ref (ad 64)) (.ref (ad 65)) (.ref (ad 66)) (.ref (ad 67)) (.ref (ad 68)) (.ref (ad 69)) (.ref (ad 70)) (.ref (ad 71)) (.ref (ad 72)) (.int 0) (.int 0) (.int 0) (.ref (ad 73)) (.ref (ad 74)) (.ref (ad 75)) (.ref (ad 76)) 0 (xs 1) r m_o_seed hfm) mw_232 kb_X12_seed (ci := 12) rfl rfl (by decide) rfl rfl hl.1 rfl (Nat.le_of_ble_eq_true rfl) dL_law_270 (by decide)) X hV1 [3] [0, 1, 2] rfl rfl rfl (by decide) (fun u270 H locs hV2 => ?_)
  have hV2 : kV E A s.heap H locs [((ad 0), .inr (11, [.ref (ad 1), .ref (ad 3), .ref (ad 8), .ref (ad 13), .ref (ad 21), .ref (ad 22), .ref (ad 27), .ref (ad 30), .ref (ad 38)])), ((ad 13), .inr (4, [.ref (ad 14), .ref (ad 15), .ref (ad 16), .ref (ad 17), .ref (ad 18), .int 0, .int x_o_page_day])), ((ad 8), .inr (7, [.ref (ad 9), .ref (ad 10), .int 0, .int x_o_sky_seed])), ((ad 42), .inr (12, [.ref (ad 43), .int 0, .int 0, .int m_o_seed, .int 0, .int 0, .int 0, .ref (ad 44), .ref (ad 45), .ref (ad 46), .ref (ad 47), .ref (ad 48), .ref (ad 49), .ref (ad 50), .ref (ad 51), .ref (ad 52), .ref (ad 53), .ref (ad 54), .int 0, .int 0, .int 0, .int 0, .int 0, .int 0, .int 0, .int 0, .int 0, .ref (ad 55), .int 0, .int 0, .int 0, .int 0, .int 0, .int 0, .int 0, .int 0, .int 0, .int 0, .int 0, .int 0, .int 0, .ref (ad 56), .ref (ad 57), .ref (ad 58), .ref (ad 59), .ref (ad 60), .ref (ad 61), .ref (ad 62), .int 0, .int 0, .ref (ad 63), .ref (ad 64), .ref (ad 65), .ref (ad 66), .ref (ad 67), .ref (ad 68), .ref (ad 69), .ref (ad 70), .ref (ad 71), .ref (ad 72), .int 0, .int 0, .int 0, .ref (ad 73), .ref (ad 74), .ref (ad 75), .ref (ad 76)]))] := hV2.sub [0, 1, 2, 3] rfl rfl
  clear hV1
  refine lv_icmp_eq (tgt := 1479) hx hb dL_law_273 (by decide) (fun _ => ?_) (fun c3 => absurd rfl c3)
  refine W.widen (k := 1000) (n := 100000) (by decide) (by decide) ?_
  exact T _ _ _ hV2.2.2 hl
set_option maxHeartbeats 4000000 in
set_option maxRecDepth 100000 in
theorem lc_2 {p : Program} {l : Launch} {e : Env} {s : State} {m : MethodId} {below : List Frame} {meth : Method} {c : Code} {E : kE} {A : Nat → Prop} {b : Nat} {xs : Nat → Int32} {Q : State → Prop} {H : Heap} {locs : List Loc} {ls : Array Slot} {ad : Nat → Nat} (X : kC p s m c code 4 RL #[Value.ref b] E A) (hX : va_X b 6 xs s s.heap) (hbl : b < s.heap.size) (hbA : ¬ A b) (hV : kV E A s.heap H locs (lW E ad)) (hl : lv_has ls 4 [(3, .int 0), (2, .ref (ad 42)), (1, .ref (ad 0)), (0, .ref b)]) (r : Int32) (x_o_tape_length : Int32) (x_o_tape_bytes : Nat → Int32) (m_o_taped : Int32) (m_o_tape : Nat → Int32) (hfx : f_X11_feed 0 (fun _ => 0) (xs 1) (xs 2) (xs 3) (xs 4) (xs 5) = some (r, x_o_tape_length, x_o_tape_bytes)) (hfm : f_X12_feed 0 (fun _ => 0) (xs 1) (xs 2) (xs 3) (xs 4) (xs 5) = some (r, m_o_taped, m_o_tape)) (T : ∀ (H : Heap) (locs : List Loc) (ls : Array Slot), va_S A s.heap H locs → lv_has ls 4 [(3, .int 0), (2, .ref (ad 42)), (1, .ref (ad 0)), (0, .ref b)] → W p l e room_1 s m #[Value.ref b] below meth c H locs 1000 100000 Q (F0 m 1479 ls [])) : W p l e room_1 s m #[Value.ref b] below meth c H locs 900 90000 Q (F0 m 278 ls []) := by
  have hx := X.1
  have hb := X.2.1
  have hV0 : kV E A s.heap H locs [((ad 0), .inr (11, [.ref (ad 1), .ref (ad 3), .ref (ad 8), .ref (ad 13), .ref (ad 21), .ref (ad 22), .ref (ad 27), .ref (ad 30), .ref (ad 38)])), ((ad 1), .inr (9, [.ref (ad 2), .int 0])), ((ad 2), .inl (E.2 0, 200, .inl (fun _ => 0))), ((ad 42), .inr (12, [.ref (ad 43), .int 0, .int 0, .int 0, .int 0, .int 0, .int 0, .ref (ad 44), .ref (ad 45), .ref (ad 46), .ref (ad 47), .ref (ad 48), .ref (ad 49), .ref (ad 50), .ref (ad 51), .ref (ad 52), .ref (ad 53), .ref (ad 54), .int 0, .int 0, .int 0, .int 0, .int 0, .int 0, .int 0, .int 0, .int 0, .ref (ad 55), .int 0, .int 0, .int 0, .int 0, .int 0, .int 0, .int 0, .int 0, .int 0, .int 0, .int 0, .int 0, .int 0, .ref (ad 56), .ref (ad 57), .ref (ad 58), .ref (ad 59), .ref (ad 60), .ref (ad 61), .ref (ad 62), .int 0, .int 0, .ref (ad 63), .ref (ad 64), .ref (ad 65), .ref (ad 66), .ref (ad 67), .ref (ad 68), .ref (ad 69), .ref (ad 70), .ref (ad 71), .ref (ad 72), .int 0, .int 0, .int 0, .ref (ad 73), .ref (ad 74), .ref (ad 75), .ref (ad 76)])), ((ad 43), .inl (E.2 1, 200, .inl (fun _ => 0)))] := hV.sub [0, 1, 2, 42, 43] rfl rfl
  clear hV
  refine lv_aload_n hx hb dL_law_278 rfl (lv_at hl 2 rfl) ?_
  refine lv_aload_n hx hb dL_law_279 rfl (lv_at hl 3 rfl) ?_
  refine lv_iload_n hx hb dL_law_280 rfl (lv_at hl 0 rfl) ?_
  refine lv_iconst (v := 1) hx hb dL_law_281 (by decide) ?_
  refine lv_iadd hx hb dL_law_282 ?_
  refine ksld X hX hbl hbA hV0 (v := xs 1) (vp_in_iff.mpr (by decide)) (congrArg xs (by decide)) dL_law_283 ?_
  refine lv_aload_n hx hb dL_law_284 rfl (lv_at hl 3 rfl) ?_
  refine lv_iload_n hx hb dL_law_285 rfl (lv_at hl 0 rfl) ?_
  refine lv_iconst (v := 2) hx hb dL_law_286 (by decide) ?_
  refine lv_iadd hx hb dL_law_287 ?_
  refine ksld X hX hbl hbA hV0 (v := xs 2) (vp_in_iff.mpr (by decide)) (congrArg xs (by decide)) dL_law_288 ?_
  refine lv_aload_n hx hb dL_law_289 rfl (lv_at hl 3 rfl) ?_
  refine lv_iload_n hx hb dL_law_290 rfl (lv_at hl 0 rfl) ?_
  refine lv_iconst (v := 3) hx hb dL_law_291 (by decide) ?_
  refine lv_iadd hx hb dL_law_292 ?_
  refine ksld X hX hbl hbA hV0 (v := xs 3) (vp_in_iff.mpr (by decide)) (congrArg xs (by decide)) dL_law_293 ?_
  refine lv_aload_n hx hb dL_law_294 rfl (lv_at hl 3 rfl) ?_
  refine lv_iload_n hx hb dL_law_295 rfl (lv_at hl 0 rfl) ?_
  refine lv_iconst (v := 4) hx hb dL_law_296 (by decide) ?_
  refine lv_iadd hx hb dL_law_297 ?_
  refine ksld X hX hbl hbA hV0 (v := xs 4) (vp_in_iff.mpr (by decide)) (congrArg xs (by decide)) dL_law_298 ?_
  refine lv_aload_n hx hb dL_law_299 rfl (lv_at hl 3 rfl) ?_
  refine lv_iload_n hx hb dL_law_300 rfl (lv_at hl 0 rfl) ?_
  refine lv_iconst (v := 5) hx hb dL_law_301 (by decide) ?_
  refine lv_iadd hx hb dL_law_302 ?_
  refine ksld X hX hbl hbA hV0 (v := xs 5) (vp_in_iff.mpr (by decide)) (congrArg xs (by decide)) dL_law_303 ?_
  refine kgoiE (krunV (rest := []) X hV0 [0, 1, 2] (c_X11_feed l E _ (ad 0) (ad 1) (ad 2) (.ref (ad 3)) (.ref (ad 8)) (.ref (ad 13)) (.ref (ad 21)) (.ref (ad 22)) (.ref (ad 27)) (.ref (ad 30)) (.ref (ad 38)) 0 (fun _ => 0) (xs 1) (xs 2) (xs 3) (xs 4) (xs 5) r x_o_tape_length x_o_tape_bytes hfx) mw_238 kb_X11_feed (ci := 11) rfl rfl (by decide) rfl rfl hl.1 rfl (Nat.le_of_ble_eq_true rfl) dL_law_304 (by decide)) X hV0 [0, 1, 2] [3, 4] rfl rfl rfl (by decide) (fun u304 H locs hV1 => ?_)
  have hV1 : kV E A s.heap H locs [((ad 0), .inr (11, [.ref (ad 1), .ref (ad 3), .ref (ad 8), .ref (ad 13), .ref (ad 21), .ref (ad 22), .ref (ad 27), .ref (ad 30), .ref (ad 38)])), ((ad 1), .inr (9, [.ref (ad 2), .int x_o_tape_length])), (ad 2, .inl (E.2 0, 200, .inl x_o_tape_bytes)), ((ad 42), .inr (12, [.ref (ad 43), .int 0, .int 0, .int 0, .int 0, .int 0, .int 0, .ref (ad 44), .ref (ad 45), .ref (ad 46), .ref (ad 47), .ref (ad 48), .ref (ad 49), .ref (ad 50), .ref (ad 51), .ref (ad 52), .ref (ad 53), .ref (ad 54), .int 0, .int 0, .int 0, .int 0, .int 0, .int 0, .int 0, .int 0, .int 0, .ref (ad 55), .int 0, .int 0, .int 0, .int 0, .int 0, .int 0, .int 0, .int 0, .int 0, .int 0, .int 0, .int 0, .int 0, .ref (ad 56), .ref (ad 57), .ref (ad 58), .ref (ad 59), .ref (ad 60), .ref (ad 61), .ref (ad 62), .int 0, .int 0, .ref (ad 63), .ref (ad 64), .ref (ad 65), .ref (ad 66), .ref (ad 67), .ref (ad 68), .ref (ad 69), .ref (ad 70), .ref (ad 71), .ref (ad 72), .int 0, .int 0, .int 0, .ref (ad 73), .ref (ad 74), .ref (ad 75), .ref (ad 76)])), ((ad 43), .inl (E.2 1, 200, .inl (fun _ => 0)))] := hV1.sub [2, 3, 4, 0, 1] rfl rfl
  clear hV0
  refine lv_aload_n hx hb dL_law_307 rfl (lv_at hl 1 rfl) ?_
  refine lv_aload_n hx hb dL_law_308 rfl (lv_at hl 3 rfl) ?_
  refine lv_iload_n hx hb dL_law_309 rfl (lv_at hl 0 rfl) ?_
  refine lv_iconst (v := 1) hx hb dL_law_310 (by decide) ?_
  refine lv_iadd hx hb dL_law_311 ?_
  refine ksld X hX hbl hbA hV1 (v := xs 1) (vp_in_iff.mpr (by decide)) (congrArg xs (by decide)) dL_law_312 ?_
  refine lv_aload_n hx hb dL_law_313 rfl (lv_at hl 3 rfl) ?_
  refine lv_iload_n hx hb dL_law_314 rfl (lv_at hl 0 rfl) ?_
  refine lv_iconst (v := 2) hx hb dL_law_315 (by decide) ?_
  refine lv_iadd hx hb dL_law_316 ?_
  refine ksld X hX hbl hbA hV1 (v := xs 2) (vp_in_iff.mpr (by decide)) (congrArg xs (by decide)) dL_law_317 ?_
  refine lv_aload_n hx hb dL_law_318 rfl (lv_at hl 3 rfl) ?_
  refine lv_iload_n hx hb dL_law_319 rfl (lv_at hl 0 rfl) ?_
  refine lv_iconst (v := 3) hx hb dL_law_320 (by decide) ?_
  refine lv_iadd hx hb dL_law_321 ?_
  refine ksld X hX hbl hbA hV1 (v := xs 3) (vp_in_iff.mpr (by decide)) (congrArg xs (by decide)) dL_law_322 ?_
  refine lv_aload_n hx hb dL_law_323 rfl (lv_at hl 3 rfl) ?_
  refine lv_iload_n hx hb dL_law_324 rfl (lv_at hl 0 rfl) ?_
  refine lv_iconst (v := 4) hx hb dL_law_325 (by decide) ?_
  refine lv_iadd hx hb dL_law_326 ?_
  refine ksld X hX hbl hbA hV1 (v := xs 4) (vp_in_iff.mpr (by decide)) (congrArg xs (by decide)) dL_law_327 ?_
  refine lv_aload_n hx hb dL_law_328 rfl (lv_at hl 3 rfl) ?_
  refine lv_iload_n hx hb dL_law_329 rfl (lv_at hl 0 rfl) ?_
  refine lv_iconst (v := 5) hx hb dL_law_330 (by decide) ?_
  refine lv_iadd hx hb dL_law_331 ?_
  refine ksld X hX hbl hbA hV1 (v := xs 5) (vp_in_iff.mpr (by decide)) (congrArg xs (by decide)) dL_law_332 ?_
  refine kgoiE (krunV (rest := [.int r]) X hV1 [3, 4] (c_X12_feed l E _ (ad 42) (ad 43) (.int 0) (.int 0) (.int 0) (.int 0) (.int 0) (.ref (ad 44)) (.ref (ad 45)) (.ref (ad 46)) (.ref (ad 47)) (.ref (ad 48)) (.ref (ad 49)) (.ref (ad 50)) (.ref (ad 51)) (.ref (ad 52)) (.ref (ad 53)) (.ref (ad 54)) (.int 0) (.int 0) (.int 0) (.int 0) (.int 0) (.int 0) (.int 0) (.int 0) (.int 0) (.ref (ad 55)) (.int 0) (.int 0) (.int 0) (.int 0) (.int 0) (.int 0) (.int 0) (.int 0) (.int 0) (.int 0) (.int 0) (.int 0) (.int 0) (.ref (ad 56)) (.ref (ad 57)) (.ref (ad 58)) (.ref (ad 59)) (.ref (ad 60)) (.ref (ad 61)) (.ref (ad 62)) (.int 0) (.int 0) (.ref (ad 63)) (.ref (ad 64)) (.ref (ad 65)) (.ref (ad 66)) (.ref (ad 67)) (.ref (ad 68)) (.ref (ad 69)) (.ref (ad 70)) (.ref (ad 71)) (.ref (ad 72)) (.int 0) (.int 0) (.int 0) (.ref (ad 73)) (.ref (ad 74)) (.ref (ad 75)) (.ref (ad 76)) 0 (fun _ => 0) (xs 1) (xs 2) (xs 3) (xs 4) (xs 5) r m_o_taped m_o_tape hfm) mw_247 kb_X12_feed (ci := 12) rfl rfl (by decide) rfl rfl hl.1 rfl (Nat.le_of_ble_eq_true rfl) dL_law_333 (by decide)) X hV1 [3, 4] [0, 1, 2] rfl rfl rfl (by decide) (fun u333 H locs hV2 => ?_)
  have hV2 : kV E A s.heap H locs [((ad 0), .inr (11, [.ref (ad 1), .ref (ad 3), .ref (ad 8), .ref (ad 13), .ref (ad 21), .ref (ad 22), .ref (ad 27), .ref (ad 30), .ref (ad 38)])), ((ad 1), .inr (9, [.ref (ad 2), .int x_o_tape_length])), (ad 2, .inl (E.2 0, 200, .inl x_o_tape_bytes)), ((ad 42), .inr (12, [.ref (ad 43), .int m_o_taped, .int 0, .int 0, .int 0, .int 0, .int 0, .ref (ad 44), .ref (ad 45), .ref (ad 46), .ref (ad 47), .ref (ad 48), .ref (ad 49), .ref (ad 50), .ref (ad 51), .ref (ad 52), .ref (ad 53), .ref (ad 54), .int 0, .int 0, .int 0, .int 0, .int 0, .int 0, .int 0, .int 0, .int 0, .ref (ad 55), .int 0, .int 0, .int 0, .int 0, .int 0, .int 0, .int 0, .int 0, .int 0, .int 0, .int 0, .int 0, .int 0, .ref (ad 56), .ref (ad 57), .ref (ad 58), .ref (ad 59), .ref (ad 60), .ref (ad 61), .ref (ad 62), .int 0, .int 0, .ref (ad 63), .ref (ad 64), .ref (ad 65), .ref (ad 66), .ref (ad 67), .ref (ad 68), .ref (ad 69), .ref (ad 70), .ref (ad 71), .ref (ad 72), .int 0, .int 0, .int 0, .ref (ad 73), .ref (ad 74), .ref (ad 75), .ref (ad 76)])), (ad 43, .inl (E.2 1, 200, .inl m_o_tape))] := hV2.sub [0, 1, 2, 3, 4] rfl rfl
  clear hV1
  refine lv_icmp_eq (tgt := 1479) hx hb dL_law_336 (by decide) (fun _ => ?_) (fun c3 => absurd rfl c3)
  refine W.widen (k := 1000) (n := 100000) (by decide) (by decide) ?_
  exact T _ _ _ hV2.2.2 hl
set_option maxHeartbeats 4000000 in
set_option maxRecDepth 100000 in
theorem lc_3 {p : Program} {l : Launch} {e : Env} {s : State} {m : MethodId} {below : List Frame} {meth : Method} {c : Code} {E : kE} {A : Nat → Prop} {b : Nat} {xs : Nat → Int32} {Q : State → Prop} {H : Heap} {locs : List Loc} {ls : Array Slot} {ad : Nat → Nat} (X : kC p s m c code 4 RL #[Value.ref b] E A) (hX : va_X b 6 xs s s.heap) (hbl : b < s.heap.size) (hbA : ¬ A b) (hV : kV E A s.heap H locs (lW E ad)) (hl : lv_has ls 4 [(3, .int 0), (2, .ref (ad 42)), (1, .ref (ad 0)), (0, .ref b)]) (r : Int32) (hfx : f_X11_law 0 (fun _ => none) (xs 1) (xs 2) = some (r)) (hfm : f_X12_law 0 0 (xs 1) (xs 2) = some (r)) (T : ∀ (H : Heap) (locs : List Loc) (ls : Array Slot), va_S A s.heap H locs → lv_has ls 4 [(3, .int 0), (2, .ref (ad 42)), (1, .ref (ad 0)), (0, .ref b)] → W p l e room_1 s m #[Value.ref b] below meth c H locs 1000 100000 Q (F0 m 1479 ls [])) : W p l e room_1 s m #[Value.ref b] below meth c H locs 900 90000 Q (F0 m 341 ls []) := by
  have hx := X.1
  have hb := X.2.1
  have hV0 : kV E A s.heap H locs [((ad 0), .inr (11, [.ref (ad 1), .ref (ad 3), .ref (ad 8), .ref (ad 13), .ref (ad 21), .ref (ad 22), .ref (ad 27), .ref (ad 30), .ref (ad 38)])), ((ad 8), .inr (7, [.ref (ad 9), .ref (ad 10), .int 0, .int 0])), ((ad 9), .inl (E.2 3, 10, .inr (.inr (.inr (.inr (fun _ => none)))))), ((ad 42), .inr (12, [.ref (ad 43), .int 0, .int 0, .int 0, .int 0, .int 0, .int 0, .ref (ad 44), .ref (ad 45), .ref (ad 46), .ref (ad 47), .ref (ad 48), .ref (ad 49), .ref (ad 50), .ref (ad 51), .ref (ad 52), .ref (ad 53), .ref (ad 54), .int 0, .int 0, .int 0, .int 0, .int 0, .int 0, .int 0, .int 0, .int 0, .ref (ad 55), .int 0, .int 0, .int 0, .int 0, .int 0, .int 0, .int 0, .int 0, .int 0, .int 0, .int 0, .int 0, .int 0, .ref (ad 56), .ref (ad 57), .ref (ad 58), .ref (ad 59), .ref (ad 60), .ref (ad 61), .ref (ad 62), .int 0, .int 0, .ref (ad 63), .ref (ad 64), .ref (ad 65), .ref (ad 66), .ref (ad 67), .ref (ad 68), .ref (ad 69), .ref (ad 70), .ref (ad 71), .ref (ad 72), .int 0, .int 0, .int 0, .ref (ad 73), .ref (ad 74), .ref (ad 75), .ref (ad 76)]))] := hV.sub [0, 8, 9, 42] rfl rfl
  clear hV
  refine lv_aload_n hx hb dL_law_341 rfl (lv_at hl 2 rfl) ?_
  refine lv_aload_n hx hb dL_law_342 rfl (lv_at hl 3 rfl) ?_
  refine lv_iload_n hx hb dL_law_343 rfl (lv_at hl 0 rfl) ?_
  refine lv_iconst (v := 1) hx hb dL_law_344 (by decide) ?_
  refine lv_iadd hx hb dL_law_345 ?_
  refine ksld X hX hbl hbA hV0 (v := xs 1) (vp_in_iff.mpr (by decide)) (congrArg xs (by decide)) dL_law_346 ?_
  refine lv_aload_n hx hb dL_law_347 rfl (lv_at hl 3 rfl) ?_
  refine lv_iload_n hx hb dL_law_348 rfl (lv_at hl 0 rfl) ?_
  refine lv_iconst (v := 2) hx hb dL_law_349 (by decide) ?_
  refine lv_iadd hx hb dL_law_350 ?_
  refine ksld X hX hbl hbA hV0 (v := xs 2) (vp_in_iff.mpr (by decide)) (congrArg xs (by decide)) dL_law_351 ?_
  refine kgoiE (krunV (rest := []) X hV0 [0, 1, 2] (c_X11_law l E _ (ad 0) (ad 8) (ad 9) (.ref (ad 1)) (.ref (ad 3)) (.ref (ad 13)) (.ref (ad 21)) (.ref (ad 22)) (.ref (ad 27)) (.ref (ad 30)) (.ref (ad 38)) (.ref (ad 10)) (.int 0) 0 (fun _ => none) (xs 1) (xs 2) r hfx) mw_256 kb_X11_law (ci := 11) rfl rfl (by decide) rfl rfl hl.1 rfl (Nat.le_of_ble_eq_true rfl) dL_law_352 (by decide)) X hV0 [0, 1, 2] [3] rfl rfl rfl (by decide) (fun u352 H locs hV1 => ?_)
  have hV1 : kV E A s.heap H locs [((ad 0), .inr (11, [.ref (ad 1), .ref (ad 3), .ref (ad 8), .ref (ad 13), .ref (ad 21), .ref (ad 22), .ref (ad 27), .ref (ad 30), .ref (ad 38)])), ((ad 8), .inr (7, [.ref (ad 9), .ref (ad 10), .int 0, .int 0])), ((ad 9), .inl (E.2 3, 10, .inr (.inr (.inr (.inr (fun _ => none)))))), ((ad 42), .inr (12, [.ref (ad 43), .int 0, .int 0, .int 0, .int 0, .int 0, .int 0, .ref (ad 44), .ref (ad 45), .ref (ad 46), .ref (ad 47), .ref (ad 48), .ref (ad 49), .ref (ad 50), .ref (ad 51), .ref (ad 52), .ref (ad 53), .ref (ad 54), .int 0, .int 0, .int 0, .int 0, .int 0, .int 0, .int 0, .int 0, .int 0, .ref (ad 55), .int 0, .int 0, .int 0, .int 0, .int 0, .int 0, .int 0, .int 0, .int 0, .int 0, .int 0, .int 0, .int 0, .ref (ad 56), .ref (ad 57), .ref (ad 58), .ref (ad 59), .ref (ad 60), .ref (ad 61), .ref (ad 62), .int 0, .int 0, .ref (ad 63), .ref (ad 64), .ref (ad 65), .ref (ad 66), .ref (ad 67), .ref (ad 68), .ref (ad 69), .ref (ad 70), .ref (ad 71), .ref (ad 72), .int 0, .int 0, .int 0, .ref (ad 73), .ref (ad 74), .ref (ad 75), .ref (ad 76)]))] := hV1.sub [1, 2, 3, 0] rfl rfl
  clear hV0
  refine lv_aload_n hx hb dL_law_355 rfl (lv_at hl 1 rfl) ?_
  refine lv_aload_n hx hb dL_law_356 rfl (lv_at hl 3 rfl) ?_
  refine lv_iload_n hx hb dL_law_357 rfl (lv_at hl 0 rfl) ?_
  refine lv_iconst (v := 1) hx hb dL_law_358 (by decide) ?_
  refine lv_iadd hx hb dL_law_359 ?_
  refine ksld X hX hbl hbA hV1 (v := xs 1) (vp_in_iff.mpr (by decide)) (congrArg xs (by decide)) dL_law_360 ?_
  refine lv_aload_n hx hb dL_law_361 rfl (lv_at hl 3 rfl) ?_
  refine lv_iload_n hx hb dL_law_362 rfl (lv_at hl 0 rfl) ?_
  refine lv_iconst (v := 2) hx hb dL_law_363 (by decide) ?_
  refine lv_iadd hx hb dL_law_364 ?_
  refine ksld X hX hbl hbA hV1 (v := xs 2) (vp_in_iff.mpr (by decide)) (congrArg xs (by decide)) dL_law_365 ?_
  refine kgoiE (krunV (rest := [.int r]) X hV1 [3] (c_X12_law l E _ (ad 42) (.ref (ad 43)) (.int 0) (.int 0) (.int 0) (.int 0) (.ref (ad 44)) (.ref (ad 45)) (.ref (ad 46)) (.ref (ad 47)) (.ref (ad 48)) (.ref (ad 49)) (.ref (ad 50)) (.ref (ad 51)) (.ref (ad 52)) (.ref (ad 53)) (.ref (ad 54)) (.int 0) (.int 0) (.int 0) (.int 0) (.int 0) (.int 0) (.int 0) (.int 0) (.int 0) (.ref (ad 55)) (.int 0) (.int 0) (.int 0) (.int 0) (.int 0) (.int 0) (.int 0) (.int 0) (.int 0) (.int 0) (.int 0) (.int 0) (.int 0) (.ref (ad 56)) (.ref (ad 57)) (.ref (ad 58)) (.ref (ad 59)) (.ref (ad 60)) (.ref (ad 61)) (.ref (ad 62)) (.int 0) (.int 0) (.ref (ad 63)) (.ref (ad 64)) (.ref (ad 65)) (.ref (ad 66)) (.ref (ad 67)) (.ref (ad 68)) (.ref (ad 69)) (.ref (ad 70)) (.ref (ad 71)) (.ref (ad 72)) (.int 0) (.int 0) (.int 0) (.ref (ad 73)) (.ref (ad 74)) (.ref (ad 75)) (.ref (ad 76)) 0 0 (xs 1) (xs 2) r hfm) mw_457 kb_X12_law (ci := 12) rfl rfl (by decide) rfl rfl hl.1 rfl (Nat.le_of_ble_eq_true rfl) dL_law_366 (by decide)) X hV1 [3] [0, 1, 2] rfl rfl rfl (by decide) (fun u366 H locs hV2 => ?_)
  have hV2 : kV E A s.heap H locs [((ad 0), .inr (11, [.ref (ad 1), .ref (ad 3), .ref (ad 8), .ref (ad 13), .ref (ad 21), .ref (ad 22), .ref (ad 27), .ref (ad 30), .ref (ad 38)])), ((ad 8), .inr (7, [.ref (ad 9), .ref (ad 10), .int 0, .int 0])), ((ad 9), .inl (E.2 3, 10, .inr (.inr (.inr (.inr (fun _ => none)))))), ((ad 42), .inr (12, [.ref (ad 43), .int 0, .int 0, .int 0, .int 0, .int 0, .int 0, .ref (ad 44), .ref (ad 45), .ref (ad 46), .ref (ad 47), .ref (ad 48), .ref (ad 49), .ref (ad 50), .ref (ad 51), .ref (ad 52), .ref (ad 53), .ref (ad 54), .int 0, .int 0, .int 0, .int 0, .int 0, .int 0, .int 0, .int 0, .int 0, .ref (ad 55), .int 0, .int 0, .int 0, .int 0, .int 0, .int 0, .int 0, .int 0, .int 0, .int 0, .int 0, .int 0, .int 0, .ref (ad 56), .ref (ad 57), .ref (ad 58), .ref (ad 59), .ref (ad 60), .ref (ad 61), .ref (ad 62), .int 0, .int 0, .ref (ad 63), .ref (ad 64), .ref (ad 65), .ref (ad 66), .ref (ad 67), .ref (ad 68), .ref (ad 69), .ref (ad 70), .ref (ad 71), .ref (ad 72), .int 0, .int 0, .int 0, .ref (ad 73), .ref (ad 74), .ref (ad 75), .ref (ad 76)]))] := hV2.sub [0, 1, 2, 3] rfl rfl
  clear hV1
  refine lv_icmp_eq (tgt := 1479) hx hb dL_law_369 (by decide) (fun _ => ?_) (fun c3 => absurd rfl c3)
  refine W.widen (k := 1000) (n := 100000) (by decide) (by decide) ?_
  exact T _ _ _ hV2.2.2 hl
set_option maxHeartbeats 4000000 in
set_option maxRecDepth 100000 in
theorem lc_4 {p : Program} {l : Launch} {e : Env} {s : State} {m : MethodId} {below : List Frame} {meth : Method} {c : Code} {E : kE} {A : Nat → Prop} {b : Nat} {xs : Nat → Int32} {Q : State → Prop} {H : Heap} {locs : List Loc} {ls : Array Slot} {ad : Nat → Nat} (X : kC p s m c code 4 RL #[Value.ref b] E A) (hX : va_X b 6 xs s s.heap) (hbl : b < s.heap.size) (hbA : ¬ A b) (hV : kV E A s.heap H locs (lW E ad)) (hl : lv_has ls 4 [(3, .int 0), (2, .ref (ad 42)), (1, .ref (ad 0)), (0, .ref b)]) (r : Int32) (hfx : f_X11_way 0 (xs 1) (xs 2) = some (r)) (hfm : f_X12_way 0 (xs 1) (xs 2) = some (r)) (T : ∀ (H : Heap) (locs : List Loc) (ls : Array Slot), va_S A s.heap H locs → lv_has ls 4 [(3, .int 0), (2, .ref (ad 42)), (1, .ref (ad 0)), (0, .ref b)] → W p l e room_1 s m #[Value.ref b] below meth c H locs 1000 100000 Q (F0 m 1479 ls [])) : W p l e room_1 s m #[Value.ref b] below meth c H locs 900 90000 Q (F0 m 374 ls []) := by
  have hx := X.1
  have hb := X.2.1
  have hV0 : kV E A s.heap H locs [((ad 0), .inr (11, [.ref (ad 1), .ref (ad 3), .ref (ad 8), .ref (ad 13), .ref (ad 21), .ref (ad 22), .ref (ad 27), .ref (ad 30), .ref (ad 38)])), ((ad 1), .inr (9, [.ref (ad 2), .int 0])), ((ad 42), .inr (12, [.ref (ad 43), .int 0, .int 0, .int 0, .int 0, .int 0, .int 0, .ref (ad 44), .ref (ad 45), .ref (ad 46), .ref (ad 47), .ref (ad 48), .ref (ad 49), .ref (ad 50), .ref (ad 51), .ref (ad 52), .ref (ad 53), .ref (ad 54), .int 0, .int 0, .int 0, .int 0, .int 0, .int 0, .int 0, .int 0, .int 0, .ref (ad 55), .int 0, .int 0, .int 0, .int 0, .int 0, .int 0, .int 0, .int 0, .int 0, .int 0, .int 0, .int 0, .int 0, .ref (ad 56), .ref (ad 57), .ref (ad 58), .ref (ad 59), .ref (ad 60), .ref (ad 61), .ref (ad 62), .int 0, .int 0, .ref (ad 63), .ref (ad 64), .ref (ad 65), .ref (ad 66), .ref (ad 67), .ref (ad 68), .ref (ad 69), .ref (ad 70), .ref (ad 71), .ref (ad 72), .int 0, .int 0, .int 0, .ref (ad 73), .ref (ad 74), .ref (ad 75), .ref (ad 76)]))] := hV.sub [0, 1, 42] rfl rfl
  clear hV
  refine lv_aload_n hx hb dL_law_374 rfl (lv_at hl 2 rfl) ?_
  refine lv_aload_n hx hb dL_law_375 rfl (lv_at hl 3 rfl) ?_
  refine lv_iload_n hx hb dL_law_376 rfl (lv_at hl 0 rfl) ?_
  refine lv_iconst (v := 1) hx hb dL_law_377 (by decide) ?_
  refine lv_iadd hx hb dL_law_378 ?_
  refine ksld X hX hbl hbA hV0 (v := xs 1) (vp_in_iff.mpr (by decide)) (congrArg xs (by decide)) dL_law_379 ?_
  refine lv_aload_n hx hb dL_law_380 rfl (lv_at hl 3 rfl) ?_
  refine lv_iload_n hx hb dL_law_381 rfl (lv_at hl 0 rfl) ?_
  refine lv_iconst (v := 2) hx hb dL_law_382 (by decide) ?_
  refine lv_iadd hx hb dL_law_383 ?_
  refine ksld X hX hbl hbA hV0 (v := xs 2) (vp_in_iff.mpr (by decide)) (congrArg xs (by decide)) dL_law_384 ?_
  refine kgoiE (krunV (rest := []) X hV0 [0, 1] (c_X11_way l E _ (ad 0) (ad 1) (.ref (ad 3)) (.ref (ad 8)) (.ref (ad 13)) (.ref (ad 21)) (.ref (ad 22)) (.ref (ad 27)) (.ref (ad 30)) (.ref (ad 38)) (.ref (ad 2)) 0 (xs 1) (xs 2) r hfx) mw_580 kb_X11_way (ci := 11) rfl rfl (by decide) rfl rfl hl.1 rfl (Nat.le_of_ble_eq_true rfl) dL_law_385 (by decide)) X hV0 [0, 1] [2] rfl rfl rfl (by decide) (fun u385 H locs hV1 => ?_)
  have hV1 : kV E A s.heap H locs [((ad 0), .inr (11, [.ref (ad 1), .ref (ad 3), .ref (ad 8), .ref (ad 13), .ref (ad 21), .ref (ad 22), .ref (ad 27), .ref (ad 30), .ref (ad 38)])), ((ad 1), .inr (9, [.ref (ad 2), .int 0])), ((ad 42), .inr (12, [.ref (ad 43), .int 0, .int 0, .int 0, .int 0, .int 0, .int 0, .ref (ad 44), .ref (ad 45), .ref (ad 46), .ref (ad 47), .ref (ad 48), .ref (ad 49), .ref (ad 50), .ref (ad 51), .ref (ad 52), .ref (ad 53), .ref (ad 54), .int 0, .int 0, .int 0, .int 0, .int 0, .int 0, .int 0, .int 0, .int 0, .ref (ad 55), .int 0, .int 0, .int 0, .int 0, .int 0, .int 0, .int 0, .int 0, .int 0, .int 0, .int 0, .int 0, .int 0, .ref (ad 56), .ref (ad 57), .ref (ad 58), .ref (ad 59), .ref (ad 60), .ref (ad 61), .ref (ad 62), .int 0, .int 0, .ref (ad 63), .ref (ad 64), .ref (ad 65), .ref (ad 66), .ref (ad 67), .ref (ad 68), .ref (ad 69), .ref (ad 70), .ref (ad 71), .ref (ad 72), .int 0, .int 0, .int 0, .ref (ad 73), .ref (ad 74), .ref (ad 75), .ref (ad 76)]))] := hV1.sub [1, 2, 0] rfl rfl
  clear hV0
  refine lv_aload_n hx hb dL_law_388 rfl (lv_at hl 1 rfl) ?_
  refine lv_aload_n hx hb dL_law_389 rfl (lv_at hl 3 rfl) ?_
  refine lv_iload_n hx hb dL_law_390 rfl (lv_at hl 0 rfl) ?_
  refine lv_iconst (v := 1) hx hb dL_law_391 (by decide) ?_
  refine lv_iadd hx hb dL_law_392 ?_
  refine ksld X hX hbl hbA hV1 (v := xs 1) (vp_in_iff.mpr (by decide)) (congrArg xs (by decide)) dL_law_393 ?_
  refine lv_aload_n hx hb dL_law_394 rfl (lv_at hl 3 rfl) ?_
  refine lv_iload_n hx hb dL_law_395 rfl (lv_at hl 0 rfl) ?_
  refine lv_iconst (v := 2) hx hb dL_law_396 (by decide) ?_
  refine lv_iadd hx hb dL_law_397 ?_
  refine ksld X hX hbl hbA hV1 (v := xs 2) (vp_in_iff.mpr (by decide)) (congrArg xs (by decide)) dL_law_398 ?_
  refine kgoiE (krunV (rest := [.int r]) X hV1 [2] (c_X12_way l E _ (ad 42) (.ref (ad 43)) (.int 0) (.int 0) (.int 0) (.int 0) (.int 0) (.ref (ad 44)) (.ref (ad 45)) (.ref (ad 46)) (.ref (ad 47)) (.ref (ad 48)) (.ref (ad 49)) (.ref (ad 50)) (.ref (ad 51)) (.ref (ad 52)) (.ref (ad 53)) (.ref (ad 54)) (.int 0) (.int 0) (.int 0) (.int 0) (.int 0) (.int 0) (.int 0) (.int 0) (.int 0) (.ref (ad 55)) (.int 0) (.int 0) (.int 0) (.int 0) (.int 0) (.int 0) (.int 0) (.int 0) (.int 0) (.int 0) (.int 0) (.int 0) (.int 0) (.ref (ad 56)) (.ref (ad 57)) (.ref (ad 58)) (.ref (ad 59)) (.ref (ad 60)) (.ref (ad 61)) (.ref (ad 62)) (.int 0) (.int 0) (.ref (ad 63)) (.ref (ad 64)) (.ref (ad 65)) (.ref (ad 66)) (.ref (ad 67)) (.ref (ad 68)) (.ref (ad 69)) (.ref (ad 70)) (.ref (ad 71)) (.ref (ad 72)) (.int 0) (.int 0) (.int 0) (.ref (ad 73)) (.ref (ad 74)) (.ref (ad 75)) (.ref (ad 76)) 0 (xs 1) (xs 2) r hfm) mw_591 kb_X12_way (ci := 12) rfl rfl (by decide) rfl rfl hl.1 rfl (Nat.le_of_ble_eq_true rfl) dL_law_399 (by decide)) X hV1 [2] [0, 1] rfl rfl rfl (by decide) (fun u399 H locs hV2 => ?_)
  have hV2 : kV E A s.heap H locs [((ad 0), .inr (11, [.ref (ad 1), .ref (ad 3), .ref (ad 8), .ref (ad 13), .ref (ad 21), .ref (ad 22), .ref (ad 27), .ref (ad 30), .ref (ad 38)])), ((ad 1), .inr (9, [.ref (ad 2), .int 0])), ((ad 42), .inr (12, [.ref (ad 43), .int 0, .int 0, .int 0, .int 0, .int 0, .int 0, .ref (ad 44), .ref (ad 45), .ref (ad 46), .ref (ad 47), .ref (ad 48), .ref (ad 49), .ref (ad 50), .ref (ad 51), .ref (ad 52), .ref (ad 53), .ref (ad 54), .int 0, .int 0, .int 0, .int 0, .int 0, .int 0, .int 0, .int 0, .int 0, .ref (ad 55), .int 0, .int 0, .int 0, .int 0, .int 0, .int 0, .int 0, .int 0, .int 0, .int 0, .int 0, .int 0, .int 0, .ref (ad 56), .ref (ad 57), .ref (ad 58), .ref (ad 59), .ref (ad 60), .ref (ad 61), .ref (ad 62), .int 0, .int 0, .ref (ad 63), .ref (ad 64), .ref (ad 65), .ref (ad 66), .ref (ad 67), .ref (ad 68), .ref (ad 69), .ref (ad 70), .ref (ad 71), .ref (ad 72), .int 0, .int 0, .int 0, .ref (ad 73), .ref (ad 74), .ref (ad 75), .ref (ad 76)]))] := hV2.sub [0, 1, 2] rfl rfl
  clear hV1
  refine lv_icmp_eq (tgt := 1479) hx hb dL_law_402 (by decide) (fun _ => ?_) (fun c3 => absurd rfl c3)
  refine W.widen (k := 1000) (n := 100000) (by decide) (by decide) ?_
  exact T _ _ _ hV2.2.2 hl
set_option maxHeartbeats 4000000 in
set_option maxRecDepth 100000 in
theorem lc_5 {p : Program} {l : Launch} {e : Env} {s : State} {m : MethodId} {below : List Frame} {meth : Method} {c : Code} {E : kE} {A : Nat → Prop} {b : Nat} {xs : Nat → Int32} {Q : State → Prop} {H : Heap} {locs : List Loc} {ls : Array Slot} {ad : Nat → Nat} (X : kC p s m c code 4 RL #[Value.ref b] E A) (hX : va_X b 6 xs s s.heap) (hbl : b < s.heap.size) (hbA : ¬ A b) (hV : kV E A s.heap H locs (lW E ad)) (hl : lv_has ls 4 [(3, .int 0), (2, .ref (ad 42)), (1, .ref (ad 0)), (0, .ref b)]) (r : Int32) (hfx : f_X11_story 0 (xs 1) (xs 2) = some (r)) (hfm : f_X12_story 0 (xs 1) (xs 2) = some (r)) (T : ∀ (H : Heap) (locs : List Loc) (ls : Array Slot), va_S A s.heap H locs → lv_has ls 4 [(3, .int 0), (2, .ref (ad 42)), (1, .ref (ad 0)), (0, .ref b)] → W p l e room_1 s m #[Value.ref b] below meth c H locs 1000 100000 Q (F0 m 1479 ls [])) : W p l e room_1 s m #[Value.ref b] below meth c H locs 900 90000 Q (F0 m 407 ls []) := by
  have hx := X.1
  have hb := X.2.1
  have hV0 : kV E A s.heap H locs [((ad 0), .inr (11, [.ref (ad 1), .ref (ad 3), .ref (ad 8), .ref (ad 13), .ref (ad 21), .ref (ad 22), .ref (ad 27), .ref (ad 30), .ref (ad 38)])), ((ad 1), .inr (9, [.ref (ad 2), .int 0])), ((ad 42), .inr (12, [.ref (ad 43), .int 0, .int 0, .int 0, .int 0, .int 0, .int 0, .ref (ad 44), .ref (ad 45), .ref (ad 46), .ref (ad 47), .ref (ad 48), .ref (ad 49), .ref (ad 50), .ref (ad 51), .ref (ad 52), .ref (ad 53), .ref (ad 54), .int 0, .int 0, .int 0, .int 0, .int 0, .int 0, .int 0, .int 0, .int 0, .ref (ad 55), .int 0, .int 0, .int 0, .int 0, .int 0, .int 0, .int 0, .int 0, .int 0, .int 0, .int 0, .int 0, .int 0, .ref (ad 56), .ref (ad 57), .ref (ad 58), .ref (ad 59), .ref (ad 60), .ref (ad 61), .ref (ad 62), .int 0, .int 0, .ref (ad 63), .ref (ad 64), .ref (ad 65), .ref (ad 66), .ref (ad 67), .ref (ad 68), .ref (ad 69), .ref (ad 70), .ref (ad 71), .ref (ad 72), .int 0, .int 0, .int 0, .ref (ad 73), .ref (ad 74), .ref (ad 75), .ref (ad 76)]))] := hV.sub [0, 1, 42] rfl rfl
  clear hV
  refine lv_aload_n hx hb dL_law_407 rfl (lv_at hl 2 rfl) ?_
  refine lv_aload_n hx hb dL_law_408 rfl (lv_at hl 3 rfl) ?_
  refine lv_iload_n hx hb dL_law_409 rfl (lv_at hl 0 rfl) ?_
  refine lv_iconst (v := 1) hx hb dL_law_410 (by decide) ?_
  refine lv_iadd hx hb dL_law_411 ?_
  refine ksld X hX hbl hbA hV0 (v := xs 1) (vp_in_iff.mpr (by decide)) (congrArg xs (by decide)) dL_law_412 ?_
  refine lv_aload_n hx hb dL_law_413 rfl (lv_at hl 3 rfl) ?_
  refine lv_iload_n hx hb dL_law_414 rfl (lv_at hl 0 rfl) ?_
  refine lv_iconst (v := 2) hx hb dL_law_415 (by decide) ?_
  refine lv_iadd hx hb dL_law_416 ?_
  refine ksld X hX hbl hbA hV0 (v := xs 2) (vp_in_iff.mpr (by decide)) (congrArg xs (by decide)) dL_law_417 ?_
  refine kgoiE (krunV (rest := []) X hV0 [0, 1] (c_X11_story l E _ (ad 0) (ad 1) (.ref (ad 3)) (.ref (ad 8)) (.ref (ad 13)) (.ref (ad 21)) (.ref (ad 22)) (.ref (ad 27)) (.ref (ad 30)) (.ref (ad 38)) (.ref (ad 2)) 0 (xs 1) (xs 2) r hfx) mw_598 kb_X11_story (ci := 11) rfl rfl (by decide) rfl rfl hl.1 rfl (Nat.le_of_ble_eq_true rfl) dL_law_418 (by decide)) X hV0 [0, 1] [2] rfl rfl rfl (by decide) (fun u418 H locs hV1 => ?_)
  have hV1 : kV E A s.heap H locs [((ad 0), .inr (11, [.ref (ad 1), .ref (ad 3), .ref (ad 8), .ref (ad 13), .ref (ad 21), .ref (ad 22), .ref (ad 27), .ref (ad 30), .ref (ad 38)])), ((ad 1), .inr (9, [.ref (ad 2), .int 0])), ((ad 42), .inr (12, [.ref (ad 43), .int 0, .int 0, .int 0, .int 0, .int 0, .int 0, .ref (ad 44), .ref (ad 45), .ref (ad 46), .ref (ad 47), .ref (ad 48), .ref (ad 49), .ref (ad 50), .ref (ad 51), .ref (ad 52), .ref (ad 53), .ref (ad 54), .int 0, .int 0, .int 0, .int 0, .int 0, .int 0, .int 0, .int 0, .int 0, .ref (ad 55), .int 0, .int 0, .int 0, .int 0, .int 0, .int 0, .int 0, .int 0, .int 0, .int 0, .int 0, .int 0, .int 0, .ref (ad 56), .ref (ad 57), .ref (ad 58), .ref (ad 59), .ref (ad 60), .ref (ad 61), .ref (ad 62), .int 0, .int 0, .ref (ad 63), .ref (ad 64), .ref (ad 65), .ref (ad 66), .ref (ad 67), .ref (ad 68), .ref (ad 69), .ref (ad 70), .ref (ad 71), .ref (ad 72), .int 0, .int 0, .int 0, .ref (ad 73), .ref (ad 74), .ref (ad 75), .ref (ad 76)]))] := hV1.sub [1, 2, 0] rfl rfl
  clear hV0
  refine lv_aload_n hx hb dL_law_421 rfl (lv_at hl 1 rfl) ?_
  refine lv_aload_n hx hb dL_law_422 rfl (lv_at hl 3 rfl) ?_
  refine lv_iload_n hx hb dL_law_423 rfl (lv_at hl 0 rfl) ?_
  refine lv_iconst (v := 1) hx hb dL_law_424 (by decide) ?_
  refine lv_iadd hx hb dL_law_425 ?_
  refine ksld X hX hbl hbA hV1 (v := xs 1) (vp_in_iff.mpr (by decide)) (congrArg xs (by decide)) dL_law_426 ?_
  refine lv_aload_n hx hb dL_law_427 rfl (lv_at hl 3 rfl) ?_
  refine lv_iload_n hx hb dL_law_428 rfl (lv_at hl 0 rfl) ?_
  refine lv_iconst (v := 2) hx hb dL_law_429 (by decide) ?_
  refine lv_iadd hx hb dL_law_430 ?_
  refine ksld X hX hbl hbA hV1 (v := xs 2) (vp_in_iff.mpr (by decide)) (congrArg xs (by decide)) dL_law_431 ?_
  refine kgoiE (krunV (rest := [.int r]) X hV1 [2] (c_X12_story l E _ (ad 42) (.ref (ad 43)) (.int 0) (.int 0) (.int 0) (.int 0) (.int 0) (.ref (ad 44)) (.ref (ad 45)) (.ref (ad 46)) (.ref (ad 47)) (.ref (ad 48)) (.ref (ad 49)) (.ref (ad 50)) (.ref (ad 51)) (.ref (ad 52)) (.ref (ad 53)) (.ref (ad 54)) (.int 0) (.int 0) (.int 0) (.int 0) (.int 0) (.int 0) (.int 0) (.int 0) (.int 0) (.ref (ad 55)) (.int 0) (.int 0) (.int 0) (.int 0) (.int 0) (.int 0) (.int 0) (.int 0) (.int 0) (.int 0) (.int 0) (.int 0) (.int 0) (.ref (ad 56)) (.ref (ad 57)) (.ref (ad 58)) (.ref (ad 59)) (.ref (ad 60)) (.ref (ad 61)) (.ref (ad 62)) (.int 0) (.int 0) (.ref (ad 63)) (.ref (ad 64)) (.ref (ad 65)) (.ref (ad 66)) (.ref (ad 67)) (.ref (ad 68)) (.ref (ad 69)) (.ref (ad 70)) (.ref (ad 71)) (.ref (ad 72)) (.int 0) (.int 0) (.int 0) (.ref (ad 73)) (.ref (ad 74)) (.ref (ad 75)) (.ref (ad 76)) 0 (xs 1) (xs 2) r hfm) mw_610 kb_X12_story (ci := 12) rfl rfl (by decide) rfl rfl hl.1 rfl (Nat.le_of_ble_eq_true rfl) dL_law_432 (by decide)) X hV1 [2] [0, 1] rfl rfl rfl (by decide) (fun u432 H locs hV2 => ?_)
  have hV2 : kV E A s.heap H locs [((ad 0), .inr (11, [.ref (ad 1), .ref (ad 3), .ref (ad 8), .ref (ad 13), .ref (ad 21), .ref (ad 22), .ref (ad 27), .ref (ad 30), .ref (ad 38)])), ((ad 1), .inr (9, [.ref (ad 2), .int 0])), ((ad 42), .inr (12, [.ref (ad 43), .int 0, .int 0, .int 0, .int 0, .int 0, .int 0, .ref (ad 44), .ref (ad 45), .ref (ad 46), .ref (ad 47), .ref (ad 48), .ref (ad 49), .ref (ad 50), .ref (ad 51), .ref (ad 52), .ref (ad 53), .ref (ad 54), .int 0, .int 0, .int 0, .int 0, .int 0, .int 0, .int 0, .int 0, .int 0, .ref (ad 55), .int 0, .int 0, .int 0, .int 0, .int 0, .int 0, .int 0, .int 0, .int 0, .int 0, .int 0, .int 0, .int 0, .ref (ad 56), .ref (ad 57), .ref (ad 58), .ref (ad 59), .ref (ad 60), .ref (ad 61), .ref (ad 62), .int 0, .int 0, .ref (ad 63), .ref (ad 64), .ref (ad 65), .ref (ad 66), .ref (ad 67), .ref (ad 68), .ref (ad 69), .ref (ad 70), .ref (ad 71), .ref (ad 72), .int 0, .int 0, .int 0, .ref (ad 73), .ref (ad 74), .ref (ad 75), .ref (ad 76)]))] := hV2.sub [0, 1, 2] rfl rfl
  clear hV1
  refine lv_icmp_eq (tgt := 1479) hx hb dL_law_435 (by decide) (fun _ => ?_) (fun c3 => absurd rfl c3)
  refine W.widen (k := 1000) (n := 100000) (by decide) (by decide) ?_
  exact T _ _ _ hV2.2.2 hl
set_option maxHeartbeats 4000000 in
set_option maxRecDepth 100000 in
theorem lc_6 {p : Program} {l : Launch} {e : Env} {s : State} {m : MethodId} {below : List Frame} {meth : Method} {c : Code} {E : kE} {A : Nat → Prop} {b : Nat} {xs : Nat → Int32} {Q : State → Prop} {H : Heap} {locs : List Loc} {ls : Array Slot} {ad : Nat → Nat} (X : kC p s m c code 4 RL #[Value.ref b] E A) (hX : va_X b 6 xs s s.heap) (hbl : b < s.heap.size) (hbA : ¬ A b) (hV : kV E A s.heap H locs (lW E ad)) (hl : lv_has ls 4 [(3, .int 0), (2, .ref (ad 42)), (1, .ref (ad 0)), (0, .ref b)]) (r : Int32) (hfx : f_X11_star (xs 1) (xs 2) = some (r)) (hfm : f_X12_star (xs 1) (xs 2) = some (r)) (T : ∀ (H : Heap) (locs : List Loc) (ls : Array Slot), va_S A s.heap H locs → lv_has ls 4 [(3, .int 0), (2, .ref (ad 42)), (1, .ref (ad 0)), (0, .ref b)] → W p l e room_1 s m #[Value.ref b] below meth c H locs 1000 100000 Q (F0 m 1479 ls [])) : W p l e room_1 s m #[Value.ref b] below meth c H locs 900 90000 Q (F0 m 440 ls []) := by
  have hx := X.1
  have hb := X.2.1
  have hV0 : kV E A s.heap H locs [((ad 0), .inr (11, [.ref (ad 1), .ref (ad 3), .ref (ad 8), .ref (ad 13), .ref (ad 21), .ref (ad 22), .ref (ad 27), .ref (ad 30), .ref (ad 38)])), ((ad 42), .inr (12, [.ref (ad 43), .int 0, .int 0, .int 0, .int 0, .int 0, .int 0, .ref (ad 44), .ref (ad 45), .ref (ad 46), .ref (ad 47), .ref (ad 48), .ref (ad 49), .ref (ad 50), .ref (ad 51), .ref (ad 52), .ref (ad 53), .ref (ad 54), .int 0, .int 0, .int 0, .int 0, .int 0, .int 0, .int 0, .int 0, .int 0, .ref (ad 55), .int 0, .int 0, .int 0, .int 0, .int 0, .int 0, .int 0, .int 0, .int 0, .int 0, .int 0, .int 0, .int 0, .ref (ad 56), .ref (ad 57), .ref (ad 58), .ref (ad 59), .ref (ad 60), .ref (ad 61), .ref (ad 62), .int 0, .int 0, .ref (ad 63), .ref (ad 64), .ref (ad 65), .ref (ad 66), .ref (ad 67), .ref (ad 68), .ref (ad 69), .ref (ad 70), .ref (ad 71), .ref (ad 72), .int 0, .int 0, .int 0, .ref (ad 73), .ref (ad 74), .ref (ad 75), .ref (ad 76)]))] := hV.sub [0, 42] rfl rfl
  clear hV
  refine lv_aload_n hx hb dL_law_440 rfl (lv_at hl 2 rfl) ?_
  refine lv_aload_n hx hb dL_law_441 rfl (lv_at hl 3 rfl) ?_
  refine lv_iload_n hx hb dL_law_442 rfl (lv_at hl 0 rfl) ?_
  refine lv_iconst (v := 1) hx hb dL_law_443 (by decide) ?_
  refine lv_iadd hx hb dL_law_444 ?_
  refine ksld X hX hbl hbA hV0 (v := xs 1) (vp_in_iff.mpr (by decide)) (congrArg xs (by decide)) dL_law_445 ?_
  refine lv_aload_n hx hb dL_law_446 rfl (lv_at hl 3 rfl) ?_
  refine lv_iload_n hx hb dL_law_447 rfl (lv_at hl 0 rfl) ?_
  refine lv_iconst (v := 2) hx hb dL_law_448 (by decide) ?_
  refine lv_iadd hx hb dL_law_449 ?_
  refine ksld X hX hbl hbA hV0 (v := xs 2) (vp_in_iff.mpr (by decide)) (congrArg xs (by decide)) dL_law_450 ?_
  refine kgoiE (krunV (rest := []) X hV0 [0] (c_X11_star l E _ (ad 0) (.ref (ad 1)) (.ref (ad 3)) (.ref (ad 8)) (.ref (ad 13)) (.ref (ad 21)) (.ref (ad 22)) (.ref (ad 27)) (.ref (ad 30)) (.ref (ad 38)) (xs 1) (xs 2) r hfx) mw_618 kb_X11_star (ci := 11) rfl rfl (by decide) rfl rfl hl.1 rfl (Nat.le_of_ble_eq_true rfl) dL_law_451 (by decide)) X hV0 [0] [1] rfl rfl rfl (by decide) (fun u451 H locs hV1 => ?_)
  have hV1 : kV E A s.heap H locs [((ad 0), .inr (11, [.ref (ad 1), .ref (ad 3), .ref (ad 8), .ref (ad 13), .ref (ad 21), .ref (ad 22), .ref (ad 27), .ref (ad 30), .ref (ad 38)])), ((ad 42), .inr (12, [.ref (ad 43), .int 0, .int 0, .int 0, .int 0, .int 0, .int 0, .ref (ad 44), .ref (ad 45), .ref (ad 46), .ref (ad 47), .ref (ad 48), .ref (ad 49), .ref (ad 50), .ref (ad 51), .ref (ad 52), .ref (ad 53), .ref (ad 54), .int 0, .int 0, .int 0, .int 0, .int 0, .int 0, .int 0, .int 0, .int 0, .ref (ad 55), .int 0, .int 0, .int 0, .int 0, .int 0, .int 0, .int 0, .int 0, .int 0, .int 0, .int 0, .int 0, .int 0, .ref (ad 56), .ref (ad 57), .ref (ad 58), .ref (ad 59), .ref (ad 60), .ref (ad 61), .ref (ad 62), .int 0, .int 0, .ref (ad 63), .ref (ad 64), .ref (ad 65), .ref (ad 66), .ref (ad 67), .ref (ad 68), .ref (ad 69), .ref (ad 70), .ref (ad 71), .ref (ad 72), .int 0, .int 0, .int 0, .ref (ad 73), .ref (ad 74), .ref (ad 75), .ref (ad 76)]))] := hV1.sub [1, 0] rfl rfl
  clear hV0
  refine lv_aload_n hx hb dL_law_454 rfl (lv_at hl 1 rfl) ?_
  refine lv_aload_n hx hb dL_law_455 rfl (lv_at hl 3 rfl) ?_
  refine lv_iload_n hx hb dL_law_456 rfl (lv_at hl 0 rfl) ?_
  refine lv_iconst (v := 1) hx hb dL_law_457 (by decide) ?_
  refine lv_iadd hx hb dL_law_458 ?_
  refine ksld X hX hbl hbA hV1 (v := xs 1) (vp_in_iff.mpr (by decide)) (congrArg xs (by decide)) dL_law_459 ?_
  refine lv_aload_n hx hb dL_law_460 rfl (lv_at hl 3 rfl) ?_
  refine lv_iload_n hx hb dL_law_461 rfl (lv_at hl 0 rfl) ?_
  refine lv_iconst (v := 2) hx hb dL_law_462 (by decide) ?_
  refine lv_iadd hx hb dL_law_463 ?_
  refine ksld X hX hbl hbA hV1 (v := xs 2) (vp_in_iff.mpr (by decide)) (congrArg xs (by decide)) dL_law_464 ?_
  refine kgoiE (krunV (rest := [.int r]) X hV1 [1] (c_X12_star l E _ (ad 42) (.ref (ad 43)) (.int 0) (.int 0) (.int 0) (.int 0) (.int 0) (.int 0) (.ref (ad 44)) (.ref (ad 45)) (.ref (ad 46)) (.ref (ad 47)) (.ref (ad 48)) (.ref (ad 49)) (.ref (ad 50)) (.ref (ad 51)) (.ref (ad 52)) (.ref (ad 53)) (.ref (ad 54)) (.int 0) (.int 0) (.int 0) (.int 0) (.int 0) (.int 0) (.int 0) (.int 0) (.int 0) (.ref (ad 55)) (.int 0) (.int 0) (.int 0) (.int 0) (.int 0) (.int 0) (.int 0) (.int 0) (.int 0) (.int 0) (.int 0) (.int 0) (.int 0) (.ref (ad 56)) (.ref (ad 57)) (.ref (ad 58)) (.ref (ad 59)) (.ref (ad 60)) (.ref (ad 61)) (.ref (ad 62)) (.int 0) (.int 0) (.ref (ad 63)) (.ref (ad 64)) (.ref (ad 65)) (.ref (ad 66)) (.ref (ad 67)) (.ref (ad 68)) (.ref (ad 69)) (.ref (ad 70)) (.ref (ad 71)) (.ref (ad 72)) (.int 0) (.int 0) (.int 0) (.ref (ad 73)) (.ref (ad 74)) (.ref (ad 75)) (.ref (ad 76)) (xs 1) (xs 2) r hfm) mw_628 kb_X12_star (ci := 12) rfl rfl (by decide) rfl rfl hl.1 rfl (Nat.le_of_ble_eq_true rfl) dL_law_465 (by decide)) X hV1 [1] [0] rfl rfl rfl (by decide) (fun u465 H locs hV2 => ?_)
  have hV2 : kV E A s.heap H locs [((ad 0), .inr (11, [.ref (ad 1), .ref (ad 3), .ref (ad 8), .ref (ad 13), .ref (ad 21), .ref (ad 22), .ref (ad 27), .ref (ad 30), .ref (ad 38)])), ((ad 42), .inr (12, [.ref (ad 43), .int 0, .int 0, .int 0, .int 0, .int 0, .int 0, .ref (ad 44), .ref (ad 45), .ref (ad 46), .ref (ad 47), .ref (ad 48), .ref (ad 49), .ref (ad 50), .ref (ad 51), .ref (ad 52), .ref (ad 53), .ref (ad 54), .int 0, .int 0, .int 0, .int 0, .int 0, .int 0, .int 0, .int 0, .int 0, .ref (ad 55), .int 0, .int 0, .int 0, .int 0, .int 0, .int 0, .int 0, .int 0, .int 0, .int 0, .int 0, .int 0, .int 0, .ref (ad 56), .ref (ad 57), .ref (ad 58), .ref (ad 59), .ref (ad 60), .ref (ad 61), .ref (ad 62), .int 0, .int 0, .ref (ad 63), .ref (ad 64), .ref (ad 65), .ref (ad 66), .ref (ad 67), .ref (ad 68), .ref (ad 69), .ref (ad 70), .ref (ad 71), .ref (ad 72), .int 0, .int 0, .int 0, .ref (ad 73), .ref (ad 74), .ref (ad 75), .ref (ad 76)]))] := hV2.sub [0, 1] rfl rfl
  clear hV1
  refine lv_icmp_eq (tgt := 1479) hx hb dL_law_468 (by decide) (fun _ => ?_) (fun c3 => absurd rfl c3)
  refine W.widen (k := 1000) (n := 100000) (by decide) (by decide) ?_
  exact T _ _ _ hV2.2.2 hl
set_option maxHeartbeats 4000000 in
set_option maxRecDepth 100000 in
theorem lc_7 {p : Program} {l : Launch} {e : Env} {s : State} {m : MethodId} {below : List Frame} {meth : Method} {c : Code} {E : kE} {A : Nat → Prop} {b : Nat} {xs : Nat → Int32} {Q : State → Prop} {H : Heap} {locs : List Loc} {ls : Array Slot} {ad : Nat → Nat} (X : kC p s m c code 4 RL #[Value.ref b] E A) (hX : va_X b 6 xs s s.heap) (hbl : b < s.heap.size) (hbA : ¬ A b) (hV : kV E A s.heap H locs (lW E ad)) (hl : lv_has ls 4 [(3, .int 0), (2, .ref (ad 42)), (1, .ref (ad 0)), (0, .ref b)]) (r : Int32) (hfx : f_X11_height 0 (fun _ => none) (xs 1) (xs 2) (xs 3) = some (r)) (hfm : f_X12_height 0 (xs 1) (xs 2) (xs 3) = some (r)) (T : ∀ (H : Heap) (locs : List Loc) (ls : Array Slot), va_S A s.heap H locs → lv_has ls 4 [(3, .int 0), (2, .ref (ad 42)), (1, .ref (ad 0)), (0, .ref b)] → W p l e room_1 s m #[Value.ref b] below meth c H locs 1000 100000 Q (F0 m 1479 ls [])) : W p l e room_1 s m #[Value.ref b] below meth c H locs 900 90000 Q (F0 m 473 ls []) := by
  have hx := X.1
  have hb := X.2.1
  have hV0 : kV E A s.heap H locs [((ad 0), .inr (11, [.ref (ad 1), .ref (ad 3), .ref (ad 8), .ref (ad 13), .ref (ad 21), .ref (ad 22), .ref (ad 27), .ref (ad 30), .ref (ad 38)])), ((ad 8), .inr (7, [.ref (ad 9), .ref (ad 10), .int 0, .int 0])), ((ad 9), .inl (E.2 3, 10, .inr (.inr (.inr (.inr (fun _ => none)))))), ((ad 42), .inr (12, [.ref (ad 43), .int 0, .int 0, .int 0, .int 0, .int 0, .int 0, .ref (ad 44), .ref (ad 45), .ref (ad 46), .ref (ad 47), .ref (ad 48), .ref (ad 49), .ref (ad 50), .ref (ad 51), .ref (ad 52), .ref (ad 53), .ref (ad 54), .int 0, .int 0, .int 0, .int 0, .int 0, .int 0, .int 0, .int 0, .int 0, .ref (ad 55), .int 0, .int 0, .int 0, .int 0, .int 0, .int 0, .int 0, .int 0, .int 0, .int 0, .int 0, .int 0, .int 0, .ref (ad 56), .ref (ad 57), .ref (ad 58), .ref (ad 59), .ref (ad 60), .ref (ad 61), .ref (ad 62), .int 0, .int 0, .ref (ad 63), .ref (ad 64), .ref (ad 65), .ref (ad 66), .ref (ad 67), .ref (ad 68), .ref (ad 69), .ref (ad 70), .ref (ad 71), .ref (ad 72), .int 0, .int 0, .int 0, .ref (ad 73), .ref (ad 74), .ref (ad 75), .ref (ad 76)]))] := hV.sub [0, 8, 9, 42] rfl rfl
  clear hV
  refine lv_aload_n hx hb dL_law_473 rfl (lv_at hl 2 rfl) ?_
  refine lv_aload_n hx hb dL_law_474 rfl (lv_at hl 3 rfl) ?_
  refine lv_iload_n hx hb dL_law_475 rfl (lv_at hl 0 rfl) ?_
  refine lv_iconst (v := 1) hx hb dL_law_476 (by decide) ?_
  refine lv_iadd hx hb dL_law_477 ?_
  refine ksld X hX hbl hbA hV0 (v := xs 1) (vp_in_iff.mpr (by decide)) (congrArg xs (by decide)) dL_law_478 ?_
  refine lv_aload_n hx hb dL_law_479 rfl (lv_at hl 3 rfl) ?_
  refine lv_iload_n hx hb dL_law_480 rfl (lv_at hl 0 rfl) ?_
  refine lv_iconst (v := 2) hx hb dL_law_481 (by decide) ?_
  refine lv_iadd hx hb dL_law_482 ?_
  refine ksld X hX hbl hbA hV0 (v := xs 2) (vp_in_iff.mpr (by decide)) (congrArg xs (by decide)) dL_law_483 ?_
  refine lv_aload_n hx hb dL_law_484 rfl (lv_at hl 3 rfl) ?_
  refine lv_iload_n hx hb dL_law_485 rfl (lv_at hl 0 rfl) ?_
  refine lv_iconst (v := 3) hx hb dL_law_486 (by decide) ?_
  refine lv_iadd hx hb dL_law_487 ?_
  refine ksld X hX hbl hbA hV0 (v := xs 3) (vp_in_iff.mpr (by decide)) (congrArg xs (by decide)) dL_law_488 ?_
  refine kgoiE (krunV (rest := []) X hV0 [0, 1, 2] (c_X11_height l E _ (ad 0) (ad 8) (ad 9) (.ref (ad 1)) (.ref (ad 3)) (.ref (ad 13)) (.ref (ad 21)) (.ref (ad 22)) (.ref (ad 27)) (.ref (ad 30)) (.ref (ad 38)) (.ref (ad 10)) (.int 0) 0 (fun _ => none) (xs 1) (xs 2) (xs 3) r hfx) mw_639 kb_X11_height (ci := 11) rfl rfl (by decide) rfl rfl hl.1 rfl (Nat.le_of_ble_eq_true rfl) dL_law_489 (by decide)) X hV0 [0, 1, 2] [3] rfl rfl rfl (by decide) (fun u489 H locs hV1 => ?_)
  have hV1 : kV E A s.heap H locs [((ad 0), .inr (11, [.ref (ad 1), .ref (ad 3), .ref (ad 8), .ref (ad 13), .ref (ad 21), .ref (ad 22), .ref (ad 27), .ref (ad 30), .ref (ad 38)])), ((ad 8), .inr (7, [.ref (ad 9), .ref (ad 10), .int 0, .int 0])), ((ad 9), .inl (E.2 3, 10, .inr (.inr (.inr (.inr (fun _ => none)))))), ((ad 42), .inr (12, [.ref (ad 43), .int 0, .int 0, .int 0, .int 0, .int 0, .int 0, .ref (ad 44), .ref (ad 45), .ref (ad 46), .ref (ad 47), .ref (ad 48), .ref (ad 49), .ref (ad 50), .ref (ad 51), .ref (ad 52), .ref (ad 53), .ref (ad 54), .int 0, .int 0, .int 0, .int 0, .int 0, .int 0, .int 0, .int 0, .int 0, .ref (ad 55), .int 0, .int 0, .int 0, .int 0, .int 0, .int 0, .int 0, .int 0, .int 0, .int 0, .int 0, .int 0, .int 0, .ref (ad 56), .ref (ad 57), .ref (ad 58), .ref (ad 59), .ref (ad 60), .ref (ad 61), .ref (ad 62), .int 0, .int 0, .ref (ad 63), .ref (ad 64), .ref (ad 65), .ref (ad 66), .ref (ad 67), .ref (ad 68), .ref (ad 69), .ref (ad 70), .ref (ad 71), .ref (ad 72), .int 0, .int 0, .int 0, .ref (ad 73), .ref (ad 74), .ref (ad 75), .ref (ad 76)]))] := hV1.sub [1, 2, 3, 0] rfl rfl
  clear hV0
  refine lv_aload_n hx hb dL_law_492 rfl (lv_at hl 1 rfl) ?_
  refine lv_aload_n hx hb dL_law_493 rfl (lv_at hl 3 rfl) ?_
  refine lv_iload_n hx hb dL_law_494 rfl (lv_at hl 0 rfl) ?_
  refine lv_iconst (v := 1) hx hb dL_law_495 (by decide) ?_
  refine lv_iadd hx hb dL_law_496 ?_
  refine ksld X hX hbl hbA hV1 (v := xs 1) (vp_in_iff.mpr (by decide)) (congrArg xs (by decide)) dL_law_497 ?_
  refine lv_aload_n hx hb dL_law_498 rfl (lv_at hl 3 rfl) ?_
  refine lv_iload_n hx hb dL_law_499 rfl (lv_at hl 0 rfl) ?_
  refine lv_iconst (v := 2) hx hb dL_law_500 (by decide) ?_
  refine lv_iadd hx hb dL_law_501 ?_
  refine ksld X hX hbl hbA hV1 (v := xs 2) (vp_in_iff.mpr (by decide)) (congrArg xs (by decide)) dL_law_502 ?_
  refine lv_aload_n hx hb dL_law_503 rfl (lv_at hl 3 rfl) ?_
  refine lv_iload_n hx hb dL_law_504 rfl (lv_at hl 0 rfl) ?_
  refine lv_iconst (v := 3) hx hb dL_law_505 (by decide) ?_
  refine lv_iadd hx hb dL_law_506 ?_
  refine ksld X hX hbl hbA hV1 (v := xs 3) (vp_in_iff.mpr (by decide)) (congrArg xs (by decide)) dL_law_507 ?_
  refine kgoiE (krunV (rest := [.int r]) X hV1 [3] (c_X12_height l E _ (ad 42) (.ref (ad 43)) (.int 0) (.int 0) (.int 0) (.int 0) (.int 0) (.ref (ad 44)) (.ref (ad 45)) (.ref (ad 46)) (.ref (ad 47)) (.ref (ad 48)) (.ref (ad 49)) (.ref (ad 50)) (.ref (ad 51)) (.ref (ad 52)) (.ref (ad 53)) (.ref (ad 54)) (.int 0) (.int 0) (.int 0) (.int 0) (.int 0) (.int 0) (.int 0) (.int 0) (.int 0) (.ref (ad 55)) (.int 0) (.int 0) (.int 0) (.int 0) (.int 0) (.int 0) (.int 0) (.int 0) (.int 0) (.int 0) (.int 0) (.int 0) (.int 0) (.ref (ad 56)) (.ref (ad 57)) (.ref (ad 58)) (.ref (ad 59)) (.ref (ad 60)) (.ref (ad 61)) (.ref (ad 62)) (.int 0) (.int 0) (.ref (ad 63)) (.ref (ad 64)) (.ref (ad 65)) (.ref (ad 66)) (.ref (ad 67)) (.ref (ad 68)) (.ref (ad 69)) (.ref (ad 70)) (.ref (ad 71)) (.ref (ad 72)) (.int 0) (.int 0) (.int 0) (.ref (ad 73)) (.ref (ad 74)) (.ref (ad 75)) (.ref (ad 76)) 0 (xs 1) (xs 2) (xs 3) r hfm) mw_692 kb_X12_height (ci := 12) rfl rfl (by decide) rfl rfl hl.1 rfl (Nat.le_of_ble_eq_true rfl) dL_law_508 (by decide)) X hV1 [3] [0, 1, 2] rfl rfl rfl (by decide) (fun u508 H locs hV2 => ?_)
  have hV2 : kV E A s.heap H locs [((ad 0), .inr (11, [.ref (ad 1), .ref (ad 3), .ref (ad 8), .ref (ad 13), .ref (ad 21), .ref (ad 22), .ref (ad 27), .ref (ad 30), .ref (ad 38)])), ((ad 8), .inr (7, [.ref (ad 9), .ref (ad 10), .int 0, .int 0])), ((ad 9), .inl (E.2 3, 10, .inr (.inr (.inr (.inr (fun _ => none)))))), ((ad 42), .inr (12, [.ref (ad 43), .int 0, .int 0, .int 0, .int 0, .int 0, .int 0, .ref (ad 44), .ref (ad 45), .ref (ad 46), .ref (ad 47), .ref (ad 48), .ref (ad 49), .ref (ad 50), .ref (ad 51), .ref (ad 52), .ref (ad 53), .ref (ad 54), .int 0, .int 0, .int 0, .int 0, .int 0, .int 0, .int 0, .int 0, .int 0, .ref (ad 55), .int 0, .int 0, .int 0, .int 0, .int 0, .int 0, .int 0, .int 0, .int 0, .int 0, .int 0, .int 0, .int 0, .ref (ad 56), .ref (ad 57), .ref (ad 58), .ref (ad 59), .ref (ad 60), .ref (ad 61), .ref (ad 62), .int 0, .int 0, .ref (ad 63), .ref (ad 64), .ref (ad 65), .ref (ad 66), .ref (ad 67), .ref (ad 68), .ref (ad 69), .ref (ad 70), .ref (ad 71), .ref (ad 72), .int 0, .int 0, .int 0, .ref (ad 73), .ref (ad 74), .ref (ad 75), .ref (ad 76)]))] := hV2.sub [0, 1, 2, 3] rfl rfl
  clear hV1
  refine lv_icmp_eq (tgt := 1479) hx hb dL_law_511 (by decide) (fun _ => ?_) (fun c3 => absurd rfl c3)
  refine W.widen (k := 1000) (n := 100000) (by decide) (by decide) ?_
  exact T _ _ _ hV2.2.2 hl
