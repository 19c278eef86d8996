set_option maxHeartbeats 4000000 in
set_option maxRecDepth 100000 in
theorem lc_0 {p : Program} {l : Launch} {e : Env} {s : State} {m : MethodId} {below : List Frame} {meth : Method} {c : Code} {E : kE} {A : Nat → Prop} {b L : Nat} {xs : Nat → Int32} {Q : State → Prop} {H : Heap} {locs : List Loc} {ls : Array Slot} {ad : Nat → Nat} {σ : Nat → Nat → Int32} {G : kG} {bv : Value} {v y1 y2 y3 y4 y5 : Int32} {cells slots : Nat} (X : kC p s m c code 4 RL #[Value.ref b] E A) (hX : va_X b L xs s s.heap) (hbl : b < s.heap.size) (hbA : ¬ A b) (hV : kV E A s.heap H locs (lWd E ad σ G bv)) (hin : ∀ j : Int32, 0 ≤ j.toInt → j.toInt ≤ 5 → vp_in (v + j) L) (e1 : y1 = xs (v + 1).toNatClampNeg) (e2 : y2 = xs (v + 2).toNatClampNeg) (e3 : y3 = xs (v + 3).toNatClampNeg) (e4 : y4 = xs (v + 4).toNatClampNeg) (e5 : y5 = xs (v + 5).toNatClampNeg) (hc : cells + 4 ≤ 600000) (hs : slots + 149 ≤ 7302250) (hl : lv_has ls 4 [(3, .int v), (2, .ref (ad 42)), (1, .ref (ad 0)), (0, .ref b)]) (rx : Int32) (x_o_page_day : Int32) (x_o_sky_many : Int32) (x_nt : Option (Nat × Int32 × Int32 × Int32 × Int32 × Int32 × Int32)) (rm : Int32) (m_o_sources : Int32) (m_o_byStar : Nat → Int32) (m_o_minuteOf : Nat → Int32) (m_o_shape : Nat → Int32) (m_o_weekdays : Nat → Int32) (m_o_wide : Nat → Int32) (hfx : f_X11_source G (σ 13 6) (σ 8 2) (if y1 = 0 then 0 else 1) y2 y3 y4 y5 = some (rx, x_o_page_day, x_o_sky_many, x_nt)) (hfm : f_X12_source (σ 42 2) (σ 58) (σ 59) (σ 61) (σ 62) (σ 60) (if y1 = 0 then 0 else 1) y2 y3 y4 y5 = some (rm, m_o_sources, m_o_byStar, m_o_minuteOf, m_o_shape, m_o_weekdays, m_o_wide)) (hkeep : ∀ (G' : kG) (bv' : Value), kGS G x_nt G' → ∀ j ∈ ([1, 2, 3, 4, 5, 6, 7, 10, 11, 12, 14, 15, 16, 17, 18, 19, 20, 21, 22, 23, 24, 25, 26, 27, 28, 29, 30, 31, 32, 33, 34, 35, 36, 37, 38, 39, 40, 41, 42, 43, 44, 45, 46, 47, 48, 49, 50, 51, 52, 53, 54, 55, 56, 57, 58, 59, 60, 61, 62, 63, 64, 65, 66, 67, 68, 69, 70, 71, 72, 73, 74, 75, 76] : List Nat), lkeep E ad G G' bv bv j) (T : ∀ (H : Heap) (locs : List Loc) (ls : Array Slot) (G' : kG) (bv' : Value), kGS G x_nt G' → kV E A s.heap H locs (lWd E ad (lus (lus σ [(8, (upd (σ 8) 2 x_o_sky_many)), (13, (upd (σ 13) 6 x_o_page_day))]) [(42, (upd (σ 42) 2 m_o_sources)), (58, m_o_byStar), (59, m_o_minuteOf), (60, m_o_wide), (61, m_o_shape), (62, m_o_weekdays)]) G' bv') → lv_has ls 4 [(3, .int v), (2, .ref (ad 42)), (1, .ref (ad 0)), (0, .ref b)] → W p l e room_1 s m #[Value.ref b] below meth c H locs (cells + 4) (slots + 149) Q (F0 m 1478 ls [])) : W p l e room_1 s m #[Value.ref b] below meth c H locs cells slots Q (F0 m 176 ls []) := by
  have hx := X.1
  have hb := X.2.1
  refine lv_aload_n hx hb dL_law_176 rfl (lv_at hl 2 rfl) ?_
  refine lv_aload_n hx hb dL_law_177 rfl (lv_at hl 3 rfl) ?_
  refine lv_iload_n hx hb dL_law_178 rfl (lv_at hl 0 rfl) ?_
  refine lv_iconst (v := 1) hx hb dL_law_179 (by decide) ?_
  refine lv_iadd hx hb dL_law_180 ?_
  refine ksld X hX hbl hbA hV (v := y1) (hin 1 (by decide) (by decide)) e1 dL_law_181 ?_
  refine lv_if_eq (tgt := 189) hx hb dL_law_182 (by decide) (fun cz => ?_) (fun cz => ?_)
  · skip
    refine lv_iconst (v := 0) hx hb dL_law_189 (by decide) ?_
    refine lv_aload_n hx hb dL_law_190 rfl (lv_at hl 3 rfl) ?_
    refine lv_iload_n hx hb dL_law_191 rfl (lv_at hl 0 rfl) ?_
    refine lv_iconst (v := 2) hx hb dL_law_192 (by decide) ?_
    refine lv_iadd hx hb dL_law_193 ?_
    refine ksld X hX hbl hbA hV (v := y2) (hin 2 (by decide) (by decide)) e2 dL_law_194 ?_
    refine lv_aload_n hx hb dL_law_195 rfl (lv_at hl 3 rfl) ?_
    refine lv_iload_n hx hb dL_law_196 rfl (lv_at hl 0 rfl) ?_
    refine lv_iconst (v := 3) hx hb dL_law_197 (by decide) ?_
    refine lv_iadd hx hb dL_law_198 ?_
    refine ksld X hX hbl hbA hV (v := y3) (hin 3 (by decide) (by decide)) e3 dL_law_199 ?_
    refine lv_aload_n hx hb dL_law_200 rfl (lv_at hl 3 rfl) ?_
    refine lv_iload_n hx hb dL_law_201 rfl (lv_at hl 0 rfl) ?_
    refine lv_iconst (v := 4) hx hb dL_law_202 (by decide) ?_
    refine lv_iadd hx hb dL_law_203 ?_
    refine ksld X hX hbl hbA hV (v := y4) (hin 4 (by decide) (by decide)) e4 dL_law_204 ?_
    refine lv_aload_n hx hb dL_law_205 rfl (lv_at hl 3 rfl) ?_
    refine lv_iload_n hx hb dL_law_206 rfl (lv_at hl 0 rfl) ?_
    refine lv_iconst (v := 5) hx hb dL_law_207 (by decide) ?_
    refine lv_iadd hx hb dL_law_208 ?_
    refine ksld X hX hbl hbA hV (v := y5) (hin 5 (by decide) (by decide)) e5 dL_law_209 ?_
    have hV1 := lopenP lq_X11_source hV
    clear hV
    refine kgoi2 (krunV (rest := []) X hV1 (List.range _) (c_X11_source l E _ (ad 0) (ad 13) (ad 8) (ad 9) (.ref (ad 1)) (.ref (ad 3)) (.ref (ad 21)) (.ref (ad 22)) (.ref (ad 27)) (.ref (ad 30)) (.ref (ad 38)) (.ref (ad 14)) (.ref (ad 15)) (.ref (ad 16)) (.ref (ad 17)) (.ref (ad 18)) (.int (σ 13 5)) (.ref (ad 10)) (.int (σ 8 3)) G (σ 13 6) (σ 8 2) 0 y2 y3 y4 y5 rx x_o_page_day x_o_sky_many x_nt (by rw [if_pos cz] at hfx; exact hfx)) mw_176 kb_X11_source (ci := 11) rfl rfl (kndR _) (krg _ _) rfl hl.1 rfl (Nat.le_of_ble_eq_true rfl) dL_law_210 ⟨rfl, rfl, (by decide), (by decide), (by show cells + 0 + 1 ≤ 600000; omega), (by show slots + 0 + 7 ≤ 7302250; omega)⟩) X hV1 (fun x u H locs hp hV2 => ?_)
    obtain ⟨hxr, hGT⟩ := hp
    first | rw [hxr] | rw [← hxr]
    obtain ⟨G', bv'⟩ := u
    have hV3 : kV E A s.heap H locs (lWd E ad (lus σ [(8, (upd (σ 8) 2 x_o_sky_many)), (13, (upd (σ 13) 6 x_o_page_day))]) G' bv) := lcloseG lq_X11_source (ks := [8, 13]) rfl (by decide +kernel) (fun j hj => hkeep G' bv hGT j hj) rfl hV2
    clear hV1 hV2
    refine lv_pop hx hb dL_law_213 rfl ?_
    refine lv_aload_n hx hb dL_law_214 rfl (lv_at hl 1 rfl) ?_
    refine lv_aload_n hx hb dL_law_215 rfl (lv_at hl 3 rfl) ?_
    refine lv_iload_n hx hb dL_law_216 rfl (lv_at hl 0 rfl) ?_
    refine lv_iconst (v := 1) hx hb dL_law_217 (by decide) ?_
    refine lv_iadd hx hb dL_law_218 ?_
    refine ksld X hX hbl hbA hV3 (v := y1) (hin 1 (by decide) (by decide)) e1 dL_law_219 ?_
    refine lv_if_eq (tgt := 227) hx hb dL_law_220 (by decide) (fun c4 => ?_) (fun c4 => absurd cz c4)
    refine lv_iconst (v := 0) hx hb dL_law_227 (by decide) ?_
    refine lv_aload_n hx hb dL_law_228 rfl (lv_at hl 3 rfl) ?_
    refine lv_iload_n hx hb dL_law_229 rfl (lv_at hl 0 rfl) ?_
    refine lv_iconst (v := 2) hx hb dL_law_230 (by decide) ?_
    refine lv_iadd hx hb dL_law_231 ?_
    refine ksld X hX hbl hbA hV3 (v := y2) (hin 2 (by decide) (by decide)) e2 dL_law_232 ?_
    refine lv_aload_n hx hb dL_law_233 rfl (lv_at hl 3 rfl) ?_
    refine lv_iload_n hx hb dL_law_234 rfl (lv_at hl 0 rfl) ?_
    refine lv_iconst (v := 3) hx hb dL_law_235 (by decide) ?_
    refine lv_iadd hx hb dL_law_236 ?_
    refine ksld X hX hbl hbA hV3 (v := y3) (hin 3 (by decide) (by decide)) e3 dL_law_237 ?_
    refine lv_aload_n hx hb dL_law_238 rfl (lv_at hl 3 rfl) ?_
    refine lv_iload_n hx hb dL_law_239 rfl (lv_at hl 0 rfl) ?_
    refine lv_iconst (v := 4) hx hb dL_law_240 (by decide) ?_
    refine lv_iadd hx hb dL_law_241 ?_
    refine ksld X hX hbl hbA hV3 (v := y4) (hin 4 (by decide) (by decide)) e4 dL_law_242 ?_
    refine lv_aload_n hx hb dL_law_243 rfl (lv_at hl 3 rfl) ?_
    refine lv_iload_n hx hb dL_law_244 rfl (lv_at hl 0 rfl) ?_
    refine lv_iconst (v := 5) hx hb dL_law_245 (by decide) ?_
    refine lv_iadd hx hb dL_law_246 ?_
    refine ksld X hX hbl hbA hV3 (v := y5) (hin 5 (by decide) (by decide)) e5 dL_law_247 ?_
    have hV5 := lopen lq_X12_source hV3
    clear hV3
    refine kgoiT (krunV (rest := []) X hV5 (List.range _) (c_X12_source l E _ (ad 42) (ad 58) (ad 59) (ad 61) (ad 62) (ad 60) (.ref (ad 43)) (.int (σ 42 1)) (.int (σ 42 3)) (.int (σ 42 4)) (.int (σ 42 5)) (.int (σ 42 6)) (.ref (ad 44)) (.ref (ad 45)) (.ref (ad 46)) (.ref (ad 47)) (.ref (ad 48)) (.ref (ad 49)) (.ref (ad 50)) (.ref (ad 51)) (.ref (ad 52)) (.ref (ad 53)) (.ref (ad 54)) (.int (σ 42 18)) (.int (σ 42 19)) (.int (σ 42 20)) (.int (σ 42 21)) (.int (σ 42 22)) (.int (σ 42 23)) (.int (σ 42 24)) (.int (σ 42 25)) (.int (σ 42 26)) (.ref (ad 55)) (.int (σ 42 28)) (.int (σ 42 29)) (.int (σ 42 30)) (.int (σ 42 31)) (.int (σ 42 32)) (.int (σ 42 33)) (.int (σ 42 34)) (.int (σ 42 35)) (.int (σ 42 36)) (.int (σ 42 37)) (.int (σ 42 38)) (.int (σ 42 39)) (.int (σ 42 40)) (.ref (ad 56)) (.ref (ad 57)) (.int (σ 42 48)) (.int (σ 42 49)) (.ref (ad 63)) (.ref (ad 64)) (.ref (ad 65)) (.ref (ad 66)) (.ref (ad 67)) (.ref (ad 68)) (.ref (ad 69)) (.ref (ad 70)) (.ref (ad 71)) (.ref (ad 72)) (.int (σ 42 60)) (.int (σ 42 61)) (.int (σ 42 62)) (.ref (ad 73)) (.ref (ad 74)) (.ref (ad 75)) (.ref (ad 76)) (σ 42 2) (σ 58) (σ 59) (σ 61) (σ 62) (σ 60) 0 y2 y3 y4 y5 rm m_o_sources m_o_byStar m_o_minuteOf m_o_shape m_o_weekdays m_o_wide (by rw [if_pos cz] at hfm; exact hfm)) mw_212 kb_X12_source (ci := 12) rfl rfl (kndR _) (krg _ _) rfl hl.1 rfl (Nat.le_of_ble_eq_true rfl) dL_law_248 ⟨rfl, rfl, (by decide), (by decide), (by show cells + 1 + 0 ≤ 600000; omega), (by show slots + 7 + 0 ≤ 7302250; omega)⟩) X hV5 (fun u H locs hV6 => ?_)
    have hV7 : kV E A s.heap H locs (lWd E ad (lus (lus σ [(8, (upd (σ 8) 2 x_o_sky_many)), (13, (upd (σ 13) 6 x_o_page_day))]) [(42, (upd (σ 42) 2 m_o_sources)), (58, m_o_byStar), (59, m_o_minuteOf), (60, m_o_wide), (61, m_o_shape), (62, m_o_weekdays)]) G' bv) := lclose lq_X12_source (ks := [42, 58, 59, 60, 61, 62]) rfl (by decide +kernel) rfl hV6
    clear hV5 hV6
    refine lv_pop hx hb dL_law_251 rfl ?_
    refine lv_goto (tgt := 1478) hx hb dL_law_252 (by decide) ?_
    refine W.widen (k := cells + 4) (n := slots + 149) (by omega) (by omega) ?_
    exact T _ _ _ _ _ hGT hV7 hl
  · skip
    refine lv_iconst (v := 1) hx hb dL_law_185 (by decide) ?_
    refine lv_goto (tgt := 190) hx hb dL_law_186 (by decide) ?_
    refine lv_aload_n hx hb dL_law_190 rfl (lv_at hl 3 rfl) ?_
    refine lv_iload_n hx hb dL_law_191 rfl (lv_at hl 0 rfl) ?_
    refine lv_iconst (v := 2) hx hb dL_law_192 (by decide) ?_
    refine lv_iadd hx hb dL_law_193 ?_
    refine ksld X hX hbl hbA hV (v := y2) (hin 2 (by decide) (by decide)) e2 dL_law_194 ?_
    refine lv_aload_n hx hb dL_law_195 rfl (lv_at hl 3 rfl) ?_
    refine lv_iload_n hx hb dL_law_196 rfl (lv_at hl 0 rfl) ?_
    refine lv_iconst (v := 3) hx hb dL_law_197 (by decide) ?_
    refine lv_iadd hx hb dL_law_198 ?_
    refine ksld X hX hbl hbA hV (v := y3) (hin 3 (by decide) (by decide)) e3 dL_law_199 ?_
    refine lv_aload_n hx hb dL_law_200 rfl (lv_at hl 3 rfl) ?_
    refine lv_iload_n hx hb dL_law_201 rfl (lv_at hl 0 rfl) ?_
    refine lv_iconst (v := 4) hx hb dL_law_202 (by decide) ?_
    refine lv_iadd hx hb dL_law_203 ?_
    refine ksld X hX hbl hbA hV (v := y4) (hin 4 (by decide) (by decide)) e4 dL_law_204 ?_
    refine lv_aload_n hx hb dL_law_205 rfl (lv_at hl 3 rfl) ?_
    refine lv_iload_n hx hb dL_law_206 rfl (lv_at hl 0 rfl) ?_
    refine lv_iconst (v := 5) hx hb dL_law_207 (by decide) ?_
    refine lv_iadd hx hb dL_law_208 ?_
    refine ksld X hX hbl hbA hV (v := y5) (hin 5 (by decide) (by decide)) e5 dL_law_209 ?_
    have hV8 := lopenP lq_X11_source hV
    clear hV
    refine kgoi2 (krunV (rest := []) X hV8 (List.range _) (c_X11_source l E _ (ad 0) (ad 13) (ad 8) (ad 9) (.ref (ad 1)) (.ref (ad 3)) (.ref (ad 21)) (.ref (ad 22)) (.ref (ad 27)) (.ref (ad 30)) (.ref (ad 38)) (.ref (ad 14)) (.ref (ad 15)) (.ref (ad 16)) (.ref (ad 17)) (.ref (ad 18)) (.int (σ 13 5)) (.ref (ad 10)) (.int (σ 8 3)) G (σ 13 6) (σ 8 2) 1 y2 y3 y4 y5 rx x_o_page_day x_o_sky_many x_nt (by rw [if_neg cz] at hfx; exact hfx)) mw_176 kb_X11_source (ci := 11) rfl rfl (kndR _) (krg _ _) rfl hl.1 rfl (Nat.le_of_ble_eq_true rfl) dL_law_210 ⟨rfl, rfl, (by decide), (by decide), (by show cells + 0 + 1 ≤ 600000; omega), (by show slots + 0 + 7 ≤ 7302250; omega)⟩) X hV8 (fun x u H locs hp hV9 => ?_)
    obtain ⟨hxr, hGT⟩ := hp
    first | rw [hxr] | rw [← hxr]
    obtain ⟨G', bv'⟩ := u
    have hV10 : kV E A s.heap H locs (lWd E ad (lus σ [(8, (upd (σ 8) 2 x_o_sky_many)), (13, (upd (σ 13) 6 x_o_page_day))]) G' bv) := lcloseG lq_X11_source (ks := [8, 13]) rfl (by decide +kernel) (fun j hj => hkeep G' bv hGT j hj) rfl hV9
    clear hV8 hV9
    refine lv_pop hx hb dL_law_213 rfl ?_
    refine lv_aload_n hx hb dL_law_214 rfl (lv_at hl 1 rfl) ?_
    refine lv_aload_n hx hb dL_law_215 rfl (lv_at hl 3 rfl) ?_
    refine lv_iload_n hx hb dL_law_216 rfl (lv_at hl 0 rfl) ?_
    refine lv_iconst (v := 1) hx hb dL_law_217 (by decide) ?_
    refine lv_iadd hx hb dL_law_218 ?_
    refine ksld X hX hbl hbA hV10 (v := y1) (hin 1 (by decide) (by decide)) e1 dL_law_219 ?_
    refine lv_if_eq (tgt := 227) hx hb dL_law_220 (by decide) (fun c11 => absurd c11 cz) (fun c11 => ?_)
    refine lv_iconst (v := 1) hx hb dL_law_223 (by decide) ?_
    refine lv_goto (tgt := 228) hx hb dL_law_224 (by decide) ?_
    refine lv_aload_n hx hb dL_law_228 rfl (lv_at hl 3 rfl) ?_
    refine lv_iload_n hx hb dL_law_229 rfl (lv_at hl 0 rfl) ?_
    refine lv_iconst (v := 2) hx hb dL_law_230 (by decide) ?_
    refine lv_iadd hx hb dL_law_231 ?_
    refine ksld X hX hbl hbA hV10 (v := y2) (hin 2 (by decide) (by decide)) e2 dL_law_232 ?_
    refine lv_aload_n hx hb dL_law_233 rfl (lv_at hl 3 rfl) ?_
    refine lv_iload_n hx hb dL_law_234 rfl (lv_at hl 0 rfl) ?_
    refine lv_iconst (v := 3) hx hb dL_law_235 (by decide) ?_
    refine lv_iadd hx hb dL_law_236 ?_
    refine ksld X hX hbl hbA hV10 (v := y3) (hin 3 (by decide) (by decide)) e3 dL_law_237 ?_
    refine lv_aload_n hx hb dL_law_238 rfl (lv_at hl 3 rfl) ?_
    refine lv_iload_n hx hb dL_law_239 rfl (lv_at hl 0 rfl) ?_
    refine lv_iconst (v := 4) hx hb dL_law_240 (by decide) ?_
    refine lv_iadd hx hb dL_law_241 ?_
    refine ksld X hX hbl hbA hV10 (v := y4) (hin 4 (by decide) (by decide)) e4 dL_law_242 ?_
    refine lv_aload_n hx hb dL_law_243 rfl (lv_at hl 3 rfl) ?_
    refine lv_iload_n hx hb dL_law_244 rfl (lv_at hl 0 rfl) ?_
    refine lv_iconst (v := 5) hx hb dL_law_245 (by decide) ?_
    refine lv_iadd hx hb dL_law_246 ?_
    refine ksld X hX hbl hbA hV10 (v := y5) (hin 5 (by decide) (by decide)) e5 dL_law_247 ?_
    have hV12 := lopen lq_X12_source hV10
    clear hV10
    refine kgoiT (krunV (rest := []) X hV12 (List.range _) (c_X12_source l E _ (ad 42) (ad 58) (ad 59) (ad 61) (ad 62) (ad 60) (.ref (ad 43)) (.int (σ 42 1)) (.int (σ 42 3)) (.int (σ 42 4)) (.int (σ 42 5)) (.int (σ 42 6)) (.ref (ad 44)) (.ref (ad 45)) (.ref (ad 46)) (.ref (ad 47)) (.ref (ad 48)) (.ref (ad 49)) (.ref (ad 50)) (.ref (ad 51)) (.ref (ad 52)) (.ref (ad 53)) (.ref (ad 54)) (.int (σ 42 18)) (.int (σ 42 19)) (.int (σ 42 20)) (.int (σ 42 21)) (.int (σ 42 22)) (.int (σ 42 23)) (.int (σ 42 24)) (.int (σ 42 25)) (.int (σ 42 26)) (.ref (ad 55)) (.int (σ 42 28)) (.int (σ 42 29)) (.int (σ 42 30)) (.int (σ 42 31)) (.int (σ 42 32)) (.int (σ 42 33)) (.int (σ 42 34)) (.int (σ 42 35)) (.int (σ 42 36)) (.int (σ 42 37)) (.int (σ 42 38)) (.int (σ 42 39)) (.int (σ 42 40)) (.ref (ad 56)) (.ref (ad 57)) (.int (σ 42 48)) (.int (σ 42 49)) (.ref (ad 63)) (.ref (ad 64)) (.ref (ad 65)) (.ref (ad 66)) (.ref (ad 67)) (.ref (ad 68)) (.ref (ad 69)) (.ref (ad 70)) (.ref (ad 71)) (.ref (ad 72)) (.int (σ 42 60)) (.int (σ 42 61)) (.int (σ 42 62)) (.ref (ad 73)) (.ref (ad 74)) (.ref (ad 75)) (.ref (ad 76)) (σ 42 2) (σ 58) (σ 59) (σ 61) (σ 62) (σ 60) 1 y2 y3 y4 y5 rm m_o_sources m_o_byStar m_o_minuteOf m_o_shape m_o_weekdays m_o_wide (by rw [if_neg cz] at hfm; exact hfm)) mw_212 kb_X12_source (ci := 12) rfl rfl (kndR _) (krg _ _) rfl hl.1 rfl (Nat.le_of_ble_eq_true rfl) dL_law_248 ⟨rfl, rfl, (by decide), (by decide), (by show cells + 1 + 0 ≤ 600000; omega), (by show slots + 7 + 0 ≤ 7302250; omega)⟩) X hV12 (fun u H locs hV13 => ?_)
    have hV14 : kV E A s.heap H locs (lWd E ad (lus (lus σ [(8, (upd (σ 8) 2 x_o_sky_many)), (13, (upd (σ 13) 6 x_o_page_day))]) [(42, (upd (σ 42) 2 m_o_sources)), (58, m_o_byStar), (59, m_o_minuteOf), (60, m_o_wide), (61, m_o_shape), (62, m_o_weekdays)]) G' bv) := lclose lq_X12_source (ks := [42, 58, 59, 60, 61, 62]) rfl (by decide +kernel) rfl hV13
    clear hV12 hV13
    refine lv_pop hx hb dL_law_251 rfl ?_
    refine lv_goto (tgt := 1478) hx hb dL_law_252 (by decide) ?_
    refine W.widen (k := cells + 4) (n := slots + 149) (by omega) (by omega) ?_
    exact T _ _ _ _ _ hGT hV14 hl
set_option maxHeartbeats 4000000 in
set_option maxRecDepth 100000 in
theorem lc_1 {p : Program} {l : Launch} {e : Env} {s : State} {m : MethodId} {below : List Frame} {meth : Method} {c : Code} {E : kE} {A : Nat → Prop} {b L : Nat} {xs : Nat → Int32} {Q : State → Prop} {H : Heap} {locs : List Loc} {ls : Array Slot} {ad : Nat → Nat} {σ : Nat → Nat → Int32} {G : kG} {bv : Value} {v y1 y2 y3 y4 y5 : Int32} {cells slots : Nat} (X : kC p s m c code 4 RL #[Value.ref b] E A) (hX : va_X b L xs s s.heap) (hbl : b < s.heap.size) (hbA : ¬ A b) (hV : kV E A s.heap H locs (lWd E ad σ G bv)) (hin : ∀ j : Int32, 0 ≤ j.toInt → j.toInt ≤ 5 → vp_in (v + j) L) (e1 : y1 = xs (v + 1).toNatClampNeg) (e2 : y2 = xs (v + 2).toNatClampNeg) (e3 : y3 = xs (v + 3).toNatClampNeg) (e4 : y4 = xs (v + 4).toNatClampNeg) (e5 : y5 = xs (v + 5).toNatClampNeg) (hc : cells + 4 ≤ 600000) (hs : slots + 149 ≤ 7302250) (hl : lv_has ls 4 [(3, .int v), (2, .ref (ad 42)), (1, .ref (ad 0)), (0, .ref b)]) (rx : Int32) (x_o_page_day : Int32) (x_o_sky_seed : Int32) (rm : Int32) (m_o_seed : Int32) (hfx : f_X11_seed (σ 13 6) (σ 8 3) y1 = some (rx, x_o_page_day, x_o_sky_seed)) (hfm : f_X12_seed (σ 42 3) y1 = some (rm, m_o_seed)) (T : ∀ (H : Heap) (locs : List Loc) (ls : Array Slot), kV E A s.heap H locs (lWd E ad (lus (lus σ [(8, (upd (σ 8) 3 x_o_sky_seed)), (13, (upd (σ 13) 6 x_o_page_day))]) [(42, (upd (σ 42) 3 m_o_seed))]) G bv) → lv_has ls 4 [(3, .int v), (2, .ref (ad 42)), (1, .ref (ad 0)), (0, .ref b)] → W p l e room_1 s m #[Value.ref b] below meth c H locs (cells + 4) (slots + 149) Q (F0 m 1478 ls [])) : W p l e room_1 s m #[Value.ref b] below meth c H locs cells slots Q (F0 m 255 ls []) := by
  have hx := X.1
  have hb := X.2.1
  refine lv_aload_n hx hb dL_law_255 rfl (lv_at hl 2 rfl) ?_
  refine lv_aload_n hx hb dL_law_256 rfl (lv_at hl 3 rfl) ?_
  refine lv_iload_n hx hb dL_law_257 rfl (lv_at hl 0 rfl) ?_
  refine lv_iconst (v := 1) hx hb dL_law_258 (by decide) ?_
  refine lv_iadd hx hb dL_law_259 ?_
  refine ksld X hX hbl hbA hV (v := y1) (hin 1 (by decide) (by decide)) e1 dL_law_260 ?_
  have hV1 := lopen lq_X11_seed hV
  clear hV
  refine kgoiT (krunV (rest := []) X hV1 (List.range _) (c_X11_seed l E _ (ad 0) (ad 13) (ad 8) (.ref (ad 1)) (.ref (ad 3)) (.ref (ad 21)) (.ref (ad 22)) (.ref (ad 27)) (.ref (ad 30)) (.ref (ad 38)) (.ref (ad 14)) (.ref (ad 15)) (.ref (ad 16)) (.ref (ad 17)) (.ref (ad 18)) (.int (σ 13 5)) (.ref (ad 9)) (.ref (ad 10)) (.int (σ 8 2)) (σ 13 6) (σ 8 3) y1 rx x_o_page_day x_o_sky_seed hfx) mw_227 kb_X11_seed (ci := 11) rfl rfl (kndR _) (krg _ _) rfl hl.1 rfl (Nat.le_of_ble_eq_true rfl) dL_law_261 ⟨rfl, rfl, (by decide), (by decide), (by show cells + 0 + 0 ≤ 600000; omega), (by show slots + 0 + 0 ≤ 7302250; omega)⟩) X hV1 (fun u H locs hV2 => ?_)
  have hV3 : kV E A s.heap H locs (lWd E ad (lus σ [(8, (upd (σ 8) 3 x_o_sky_seed)), (13, (upd (σ 13) 6 x_o_page_day))]) G bv) := lclose lq_X11_seed (ks := [8, 13]) rfl (by decide +kernel) rfl hV2
  clear hV1 hV2
  refine lv_pop hx hb dL_law_264 rfl ?_
  refine lv_aload_n hx hb dL_law_265 rfl (lv_at hl 1 rfl) ?_
  refine lv_aload_n hx hb dL_law_266 rfl (lv_at hl 3 rfl) ?_
  refine lv_iload_n hx hb dL_law_267 rfl (lv_at hl 0 rfl) ?_
  refine lv_iconst (v := 1) hx hb dL_law_268 (by decide) ?_
  refine lv_iadd hx hb dL_law_269 ?_
  refine ksld X hX hbl hbA hV3 (v := y1) (hin 1 (by decide) (by decide)) e1 dL_law_270 ?_
  have hV4 := lopen lq_X12_seed hV3
  clear hV3
  refine kgoiT (krunV (rest := []) X hV4 (List.range _) (c_X12_seed l E _ (ad 42) (.ref (ad 43)) (.int (σ 42 1)) (.int (σ 42 2)) (.int (σ 42 4)) (.int (σ 42 5)) (.int (σ 42 6)) (.ref (ad 44)) (.ref (ad 45)) (.ref (ad 46)) (.ref (ad 47)) (.ref (ad 48)) (.ref (ad 49)) (.ref (ad 50)) (.ref (ad 51)) (.ref (ad 52)) (.ref (ad 53)) (.ref (ad 54)) (.int (σ 42 18)) (.int (σ 42 19)) (.int (σ 42 20)) (.int (σ 42 21)) (.int (σ 42 22)) (.int (σ 42 23)) (.int (σ 42 24)) (.int (σ 42 25)) (.int (σ 42 26)) (.ref (ad 55)) (.int (σ 42 28)) (.int (σ 42 29)) (.int (σ 42 30)) (.int (σ 42 31)) (.int (σ 42 32)) (.int (σ 42 33)) (.int (σ 42 34)) (.int (σ 42 35)) (.int (σ 42 36)) (.int (σ 42 37)) (.int (σ 42 38)) (.int (σ 42 39)) (.int (σ 42 40)) (.ref (ad 56)) (.ref (ad 57)) (.ref (ad 58)) (.ref (ad 59)) (.ref (ad 60)) (.ref (ad 61)) (.ref (ad 62)) (.int (σ 42 48)) (.int (σ 42 49)) (.ref (ad 63)) (.ref (ad 64)) (.ref (ad 65)) (.ref (ad 66)) (.ref (ad 67)) (.ref (ad 68)) (.ref (ad 69)) (.ref (ad 70)) (.ref (ad 71)) (.ref (ad 72)) (.int (σ 42 60)) (.int (σ 42 61)) (.int (σ 42 62)) (.ref (ad 73)) (.ref (ad 74)) (.ref (ad 75)) (.ref (ad 76)) (σ 42 3) y1 rm m_o_seed hfm) mw_232 kb_X12_seed (ci := 12) rfl rfl (kndR _) (krg _ _) rfl hl.1 rfl (Nat.le_of_ble_eq_true rfl) dL_law_271 ⟨rfl, rfl, (by decide), (by decide), (by show cells + 0 + 0 ≤ 600000; omega), (by show slots + 0 + 0 ≤ 7302250; omega)⟩) X hV4 (fun u H locs hV5 => ?_)
  have hV6 : kV E A s.heap H locs (lWd E ad (lus (lus σ [(8, (upd (σ 8) 3 x_o_sky_seed)), (13, (upd (σ 13) 6 x_o_page_day))]) [(42, (upd (σ 42) 3 m_o_seed))]) G bv) := lclose lq_X12_seed (ks := [42]) rfl (by decide +kernel) rfl hV5
  clear hV4 hV5
  refine lv_pop hx hb dL_law_274 rfl ?_
  refine lv_goto (tgt := 1478) hx hb dL_law_275 (by decide) ?_
  refine W.widen (k := cells + 4) (n := slots + 149) (by omega) (by omega) ?_
  exact T _ _ _ hV6 hl
set_option maxHeartbeats 4000000 in
set_option maxRecDepth 100000 in
theorem lc_2 {p : Program} {l : Launch} {e : Env} {s : State} {m : MethodId} {below : List Frame} {meth : Method} {c : Code} {E : kE} {A : Nat → Prop} {b L : Nat} {xs : Nat → Int32} {Q : State → Prop} {H : Heap} {locs : List Loc} {ls : Array Slot} {ad : Nat → Nat} {σ : Nat → Nat → Int32} {G : kG} {bv : Value} {v y1 y2 y3 y4 y5 : Int32} {cells slots : Nat} (X : kC p s m c code 4 RL #[Value.ref b] E A) (hX : va_X b L xs s s.heap) (hbl : b < s.heap.size) (hbA : ¬ A b) (hV : kV E A s.heap H locs (lWd E ad σ G bv)) (hin : ∀ j : Int32, 0 ≤ j.toInt → j.toInt ≤ 5 → vp_in (v + j) L) (e1 : y1 = xs (v + 1).toNatClampNeg) (e2 : y2 = xs (v + 2).toNatClampNeg) (e3 : y3 = xs (v + 3).toNatClampNeg) (e4 : y4 = xs (v + 4).toNatClampNeg) (e5 : y5 = xs (v + 5).toNatClampNeg) (hc : cells + 4 ≤ 600000) (hs : slots + 149 ≤ 7302250) (hl : lv_has ls 4 [(3, .int v), (2, .ref (ad 42)), (1, .ref (ad 0)), (0, .ref b)]) (rx : Int32) (x_o_tape_length : Int32) (x_o_tape_bytes : Nat → Int32) (rm : Int32) (m_o_taped : Int32) (m_o_tape : Nat → Int32) (hfx : f_X11_feed (σ 1 1) (σ 2) y1 y2 y3 y4 y5 = some (rx, x_o_tape_length, x_o_tape_bytes)) (hfm : f_X12_feed (σ 42 1) (σ 43) y1 y2 y3 y4 y5 = some (rm, m_o_taped, m_o_tape)) (T : ∀ (H : Heap) (locs : List Loc) (ls : Array Slot), kV E A s.heap H locs (lWd E ad (lus (lus σ [(1, (upd (σ 1) 1 x_o_tape_length)), (2, x_o_tape_bytes)]) [(42, (upd (σ 42) 1 m_o_taped)), (43, m_o_tape)]) G bv) → lv_has ls 4 [(3, .int v), (2, .ref (ad 42)), (1, .ref (ad 0)), (0, .ref b)] → W p l e room_1 s m #[Value.ref b] below meth c H locs (cells + 4) (slots + 149) Q (F0 m 1478 ls [])) : W p l e room_1 s m #[Value.ref b] below meth c H locs cells slots Q (F0 m 278 ls []) := by
  have hx := X.1
  have hb := X.2.1
  refine lv_aload_n hx hb dL_law_278 rfl (lv_at hl 2 rfl) ?_
  refine lv_aload_n hx hb dL_law_279 rfl (lv_at hl 3 rfl) ?_
  refine lv_iload_n hx hb dL_law_280 rfl (lv_at hl 0 rfl) ?_
  refine lv_iconst (v := 1) hx hb dL_law_281 (by decide) ?_
  refine lv_iadd hx hb dL_law_282 ?_
  refine ksld X hX hbl hbA hV (v := y1) (hin 1 (by decide) (by decide)) e1 dL_law_283 ?_
  refine lv_aload_n hx hb dL_law_284 rfl (lv_at hl 3 rfl) ?_
  refine lv_iload_n hx hb dL_law_285 rfl (lv_at hl 0 rfl) ?_
  refine lv_iconst (v := 2) hx hb dL_law_286 (by decide) ?_
  refine lv_iadd hx hb dL_law_287 ?_
  refine ksld X hX hbl hbA hV (v := y2) (hin 2 (by decide) (by decide)) e2 dL_law_288 ?_
  refine lv_aload_n hx hb dL_law_289 rfl (lv_at hl 3 rfl) ?_
  refine lv_iload_n hx hb dL_law_290 rfl (lv_at hl 0 rfl) ?_
  refine lv_iconst (v := 3) hx hb dL_law_291 (by decide) ?_
  refine lv_iadd hx hb dL_law_292 ?_
  refine ksld X hX hbl hbA hV (v := y3) (hin 3 (by decide) (by decide)) e3 dL_law_293 ?_
  refine lv_aload_n hx hb dL_law_294 rfl (lv_at hl 3 rfl) ?_
  refine lv_iload_n hx hb dL_law_295 rfl (lv_at hl 0 rfl) ?_
  refine lv_iconst (v := 4) hx hb dL_law_296 (by decide) ?_
  refine lv_iadd hx hb dL_law_297 ?_
  refine ksld X hX hbl hbA hV (v := y4) (hin 4 (by decide) (by decide)) e4 dL_law_298 ?_
  refine lv_aload_n hx hb dL_law_299 rfl (lv_at hl 3 rfl) ?_
  refine lv_iload_n hx hb dL_law_300 rfl (lv_at hl 0 rfl) ?_
  refine lv_iconst (v := 5) hx hb dL_law_301 (by decide) ?_
  refine lv_iadd hx hb dL_law_302 ?_
  refine ksld X hX hbl hbA hV (v := y5) (hin 5 (by decide) (by decide)) e5 dL_law_303 ?_
  have hV1 := lopen lq_X11_feed hV
  clear hV
  refine kgoiT (krunV (rest := []) X hV1 (List.range _) (c_X11_feed l E _ (ad 0) (ad 1) (ad 2) (.ref (ad 3)) (.ref (ad 8)) (.ref (ad 13)) (.ref (ad 21)) (.ref (ad 22)) (.ref (ad 27)) (.ref (ad 30)) (.ref (ad 38)) (σ 1 1) (σ 2) y1 y2 y3 y4 y5 rx x_o_tape_length x_o_tape_bytes hfx) mw_238 kb_X11_feed (ci := 11) rfl rfl (kndR _) (krg _ _) rfl hl.1 rfl (Nat.le_of_ble_eq_true rfl) dL_law_304 ⟨rfl, rfl, (by decide), (by decide), (by show cells + 0 + 0 ≤ 600000; omega), (by show slots + 0 + 0 ≤ 7302250; omega)⟩) X hV1 (fun u H locs hV2 => ?_)
  have hV3 : kV E A s.heap H locs (lWd E ad (lus σ [(1, (upd (σ 1) 1 x_o_tape_length)), (2, x_o_tape_bytes)]) G bv) := lclose lq_X11_feed (ks := [1, 2]) rfl (by decide +kernel) rfl hV2
  clear hV1 hV2
  refine lv_pop hx hb dL_law_307 rfl ?_
  refine lv_aload_n hx hb dL_law_308 rfl (lv_at hl 1 rfl) ?_
  refine lv_aload_n hx hb dL_law_309 rfl (lv_at hl 3 rfl) ?_
  refine lv_iload_n hx hb dL_law_310 rfl (lv_at hl 0 rfl) ?_
  refine lv_iconst (v := 1) hx hb dL_law_311 (by decide) ?_
  refine lv_iadd hx hb dL_law_312 ?_
  refine ksld X hX hbl hbA hV3 (v := y1) (hin 1 (by decide) (by decide)) e1 dL_law_313 ?_
  refine lv_aload_n hx hb dL_law_314 rfl (lv_at hl 3 rfl) ?_
  refine lv_iload_n hx hb dL_law_315 rfl (lv_at hl 0 rfl) ?_
  refine lv_iconst (v := 2) hx hb dL_law_316 (by decide) ?_
  refine lv_iadd hx hb dL_law_317 ?_
  refine ksld X hX hbl hbA hV3 (v := y2) (hin 2 (by decide) (by decide)) e2 dL_law_318 ?_
  refine lv_aload_n hx hb dL_law_319 rfl (lv_at hl 3 rfl) ?_
  refine lv_iload_n hx hb dL_law_320 rfl (lv_at hl 0 rfl) ?_
  refine lv_iconst (v := 3) hx hb dL_law_321 (by decide) ?_
  refine lv_iadd hx hb dL_law_322 ?_
  refine ksld X hX hbl hbA hV3 (v := y3) (hin 3 (by decide) (by decide)) e3 dL_law_323 ?_
  refine lv_aload_n hx hb dL_law_324 rfl (lv_at hl 3 rfl) ?_
  refine lv_iload_n hx hb dL_law_325 rfl (lv_at hl 0 rfl) ?_
  refine lv_iconst (v := 4) hx hb dL_law_326 (by decide) ?_
  refine lv_iadd hx hb dL_law_327 ?_
  refine ksld X hX hbl hbA hV3 (v := y4) (hin 4 (by decide) (by decide)) e4 dL_law_328 ?_
  refine lv_aload_n hx hb dL_law_329 rfl (lv_at hl 3 rfl) ?_
  refine lv_iload_n hx hb dL_law_330 rfl (lv_at hl 0 rfl) ?_
  refine lv_iconst (v := 5) hx hb dL_law_331 (by decide) ?_
  refine lv_iadd hx hb dL_law_332 ?_
  refine ksld X hX hbl hbA hV3 (v := y5) (hin 5 (by decide) (by decide)) e5 dL_law_333 ?_
  have hV4 := lopen lq_X12_feed hV3
  clear hV3
  refine kgoiT (krunV (rest := []) X hV4 (List.range _) (c_X12_feed l E _ (ad 42) (ad 43) (.int (σ 42 2)) (.int (σ 42 3)) (.int (σ 42 4)) (.int (σ 42 5)) (.int (σ 42 6)) (.ref (ad 44)) (.ref (ad 45)) (.ref (ad 46)) (.ref (ad 47)) (.ref (ad 48)) (.ref (ad 49)) (.ref (ad 50)) (.ref (ad 51)) (.ref (ad 52)) (.ref (ad 53)) (.ref (ad 54)) (.int (σ 42 18)) (.int (σ 42 19)) (.int (σ 42 20)) (.int (σ 42 21)) (.int (σ 42 22)) (.int (σ 42 23)) (.int (σ 42 24)) (.int (σ 42 25)) (.int (σ 42 26)) (.ref (ad 55)) (.int (σ 42 28)) (.int (σ 42 29)) (.int (σ 42 30)) (.int (σ 42 31)) (.int (σ 42 32)) (.int (σ 42 33)) (.int (σ 42 34)) (.int (σ 42 35)) (.int (σ 42 36)) (.int (σ 42 37)) (.int (σ 42 38)) (.int (σ 42 39)) (.int (σ 42 40)) (.ref (ad 56)) (.ref (ad 57)) (.ref (ad 58)) (.ref (ad 59)) (.ref (ad 60)) (.ref (ad 61)) (.ref (ad 62)) (.int (σ 42 48)) (.int (σ 42 49)) (.ref (ad 63)) (.ref (ad 64)) (.ref (ad 65)) (.ref (ad 66)) (.ref (ad 67)) (.ref (ad 68)) (.ref (ad 69)) (.ref (ad 70)) (.ref (ad 71)) (.ref (ad 72)) (.int (σ 42 60)) (.int (σ 42 61)) (.int (σ 42 62)) (.ref (ad 73)) (.ref (ad 74)) (.ref (ad 75)) (.ref (ad 76)) (σ 42 1) (σ 43) y1 y2 y3 y4 y5 rm m_o_taped m_o_tape hfm) mw_247 kb_X12_feed (ci := 12) rfl rfl (kndR _) (krg _ _) rfl hl.1 rfl (Nat.le_of_ble_eq_true rfl) dL_law_334 ⟨rfl, rfl, (by decide), (by decide), (by show cells + 0 + 0 ≤ 600000; omega), (by show slots + 0 + 0 ≤ 7302250; omega)⟩) X hV4 (fun u H locs hV5 => ?_)
  have hV6 : kV E A s.heap H locs (lWd E ad (lus (lus σ [(1, (upd (σ 1) 1 x_o_tape_length)), (2, x_o_tape_bytes)]) [(42, (upd (σ 42) 1 m_o_taped)), (43, m_o_tape)]) G bv) := lclose lq_X12_feed (ks := [42, 43]) rfl (by decide +kernel) rfl hV5
  clear hV4 hV5
  refine lv_pop hx hb dL_law_337 rfl ?_
  refine lv_goto (tgt := 1478) hx hb dL_law_338 (by decide) ?_
  refine W.widen (k := cells + 4) (n := slots + 149) (by omega) (by omega) ?_
  exact T _ _ _ hV6 hl
set_option maxHeartbeats 4000000 in
set_option maxRecDepth 100000 in
theorem lc_3 {p : Program} {l : Launch} {e : Env} {s : State} {m : MethodId} {below : List Frame} {meth : Method} {c : Code} {E : kE} {A : Nat → Prop} {b L : Nat} {xs : Nat → Int32} {Q : State → Prop} {H : Heap} {locs : List Loc} {ls : Array Slot} {ad : Nat → Nat} {σ : Nat → Nat → Int32} {G : kG} {bv : Value} {v y1 y2 y3 y4 y5 : Int32} {cells slots : Nat} (X : kC p s m c code 4 RL #[Value.ref b] E A) (hX : va_X b L xs s s.heap) (hbl : b < s.heap.size) (hbA : ¬ A b) (hV : kV E A s.heap H locs (lWd E ad σ G bv)) (hin : ∀ j : Int32, 0 ≤ j.toInt → j.toInt ≤ 5 → vp_in (v + j) L) (e1 : y1 = xs (v + 1).toNatClampNeg) (e2 : y2 = xs (v + 2).toNatClampNeg) (e3 : y3 = xs (v + 3).toNatClampNeg) (e4 : y4 = xs (v + 4).toNatClampNeg) (e5 : y5 = xs (v + 5).toNatClampNeg) (hc : cells + 4 ≤ 600000) (hs : slots + 149 ≤ 7302250) (hl : lv_has ls 4 [(3, .int v), (2, .ref (ad 42)), (1, .ref (ad 0)), (0, .ref b)]) (rx : Int32) (x_o_page_day : Int32) (x_o_scribe_length : Int32) (x_o_scribe_at : Int32) (x_o_scribe_used : Int32) (x_o_scribe_fault : Int32) (x_o_tape_length : Int32) (x_o_scribe_code : Nat → Int32) (x_o_scribe_middles : Nat → Int32) (x_o_scribe_starts : Nat → Int32) (x_nt : Option (Nat × kTv)) (rm : Int32) (m_o_taped : Int32) (m_o_place : Int32) (m_o_end : Int32) (m_o_bad : Int32) (m_o_clauses : Int32) (m_o_codes : Int32) (m_o_open : Int32) (m_o_stacked : Int32) (m_o_isOver : Int32) (m_o_isBehind : Int32) (m_o_code : Nat → Int32) (m_o_codeArg : Nat → Int32) (m_o_codeFrom : Nat → Int32) (m_o_codeTo : Nat → Int32) (m_o_many : Nat → Int32) (m_o_newArg : Nat → Int32) (m_o_newCode : Nat → Int32) (m_o_newFrom : Nat → Int32) (m_o_newSum : Nat → Int32) (m_o_newTo : Nat → Int32) (m_o_stack : Nat → Int32) (m_o_sumFrom : Nat → Int32) (hfx : f_X11_law G (σ 13 6) (σ 3 4) (σ 3 5) (σ 3 6) (σ 3 7) (σ 8 2) (σ 1 1) (σ 4) (σ 6) (σ 5) (σ 2) y1 y2 = some (rx, x_o_page_day, x_o_scribe_length, x_o_scribe_at, x_o_scribe_used, x_o_scribe_fault, x_o_tape_length, x_o_scribe_code, x_o_scribe_middles, x_o_scribe_starts, x_nt)) (hfm : f_X12_law (σ 42 1) (σ 42 2) (σ 42 18) (σ 42 19) (σ 42 20) (σ 42 21) (σ 42 22) (σ 42 23) (σ 42 24) (σ 42 25) (σ 42 26) (σ 48) (σ 49) (σ 46) (σ 47) (σ 44) (σ 54) (σ 53) (σ 51) (σ 50) (σ 52) (σ 55) (σ 45) (σ 43) y1 y2 = some (rm, m_o_taped, m_o_place, m_o_end, m_o_bad, m_o_clauses, m_o_codes, m_o_open, m_o_stacked, m_o_isOver, m_o_isBehind, m_o_code, m_o_codeArg, m_o_codeFrom, m_o_codeTo, m_o_many, m_o_newArg, m_o_newCode, m_o_newFrom, m_o_newSum, m_o_newTo, m_o_stack, m_o_sumFrom)) (hkeep : ∀ (G' : kG) (bv' : Value), kGT G x_nt G' → ∀ j ∈ ([7, 10, 11, 12, 14, 15, 16, 17, 18, 19, 20, 21, 22, 23, 24, 25, 26, 27, 28, 29, 30, 31, 32, 33, 34, 35, 36, 37, 38, 39, 40, 41, 42, 43, 44, 45, 46, 47, 48, 49, 50, 51, 52, 53, 54, 55, 56, 57, 58, 59, 60, 61, 62, 63, 64, 65, 66, 67, 68, 69, 70, 71, 72, 73, 74, 75, 76] : List Nat), lkeep E ad G G' bv bv' j) (T : ∀ (H : Heap) (locs : List Loc) (ls : Array Slot) (G' : kG) (bv' : Value), kGT G x_nt G' → kV E A s.heap H locs (lWd E ad (lus (lus σ [(1, (upd (σ 1) 1 x_o_tape_length)), (3, (upd (upd (upd (upd (σ 3) 4 x_o_scribe_length) 5 x_o_scribe_at) 6 x_o_scribe_used) 7 x_o_scribe_fault)), (4, x_o_scribe_code), (5, x_o_scribe_starts), (6, x_o_scribe_middles), (13, (upd (σ 13) 6 x_o_page_day))]) [(42, (upd (upd (upd (upd (upd (upd (upd (upd (upd (upd (σ 42) 1 m_o_taped) 18 m_o_place) 19 m_o_end) 20 m_o_bad) 21 m_o_clauses) 22 m_o_codes) 23 m_o_open) 24 m_o_stacked) 25 m_o_isOver) 26 m_o_isBehind)), (44, m_o_many), (45, m_o_sumFrom), (46, m_o_codeFrom), (47, m_o_codeTo), (48, m_o_code), (49, m_o_codeArg), (50, m_o_newSum), (51, m_o_newFrom), (52, m_o_newTo), (53, m_o_newCode), (54, m_o_newArg), (55, m_o_stack)]) G' bv') → lv_has ls 4 [(3, .int v), (2, .ref (ad 42)), (1, .ref (ad 0)), (0, .ref b)] → W p l e room_1 s m #[Value.ref b] below meth c H locs (cells + 4) (slots + 149) Q (F0 m 1478 ls [])) : W p l e room_1 s m #[Value.ref b] below meth c H locs cells slots Q (F0 m 341 ls []) := by
  have hx := X.1
  have hb := X.2.1
  refine lv_aload_n hx hb dL_law_341 rfl (lv_at hl 2 rfl) ?_
  refine lv_aload_n hx hb dL_law_342 rfl (lv_at hl 3 rfl) ?_
  refine lv_iload_n hx hb dL_law_343 rfl (lv_at hl 0 rfl) ?_
  refine lv_iconst (v := 1) hx hb dL_law_344 (by decide) ?_
  refine lv_iadd hx hb dL_law_345 ?_
  refine ksld X hX hbl hbA hV (v := y1) (hin 1 (by decide) (by decide)) e1 dL_law_346 ?_
  refine lv_aload_n hx hb dL_law_347 rfl (lv_at hl 3 rfl) ?_
  refine lv_iload_n hx hb dL_law_348 rfl (lv_at hl 0 rfl) ?_
  refine lv_iconst (v := 2) hx hb dL_law_349 (by decide) ?_
  refine lv_iadd hx hb dL_law_350 ?_
  refine ksld X hX hbl hbA hV (v := y2) (hin 2 (by decide) (by decide)) e2 dL_law_351 ?_
  have hV1 := lopenP lq_X11_law hV
  clear hV
  refine kgoi2 (krunV (rest := []) X hV1 (List.range _) (c_X11_law l E _ (ad 0) (ad 13) (ad 3) (ad 8) (ad 1) (ad 4) (ad 6) (ad 5) (ad 9) (ad 2) (.ref (ad 21)) (.ref (ad 22)) (.ref (ad 27)) (.ref (ad 30)) (.ref (ad 38)) (.ref (ad 14)) (.ref (ad 15)) (.ref (ad 16)) (.ref (ad 17)) (.ref (ad 18)) (.int (σ 13 5)) (bv) (.ref (ad 10)) (.int (σ 8 3)) G (σ 13 6) (σ 3 4) (σ 3 5) (σ 3 6) (σ 3 7) (σ 8 2) (σ 1 1) (σ 4) (σ 6) (σ 5) (σ 2) y1 y2 rx x_o_page_day x_o_scribe_length x_o_scribe_at x_o_scribe_used x_o_scribe_fault x_o_tape_length x_o_scribe_code x_o_scribe_middles x_o_scribe_starts x_nt hfx) mw_256 kb_X11_law (ci := 11) rfl rfl (kndR _) (krg _ _) rfl hl.1 rfl (Nat.le_of_ble_eq_true rfl) dL_law_352 ⟨rfl, rfl, (by decide), (by decide), (by show cells + 0 + 4 ≤ 600000; omega), (by show slots + 0 + 149 ≤ 7302250; omega)⟩) X hV1 (fun x u H locs hp hV2 => ?_)
  obtain ⟨hxr, hGT⟩ := hp
  first | rw [hxr] | rw [← hxr]
  obtain ⟨G', bv'⟩ := u
  have hV3 : kV E A s.heap H locs (lWd E ad (lus σ [(1, (upd (σ 1) 1 x_o_tape_length)), (3, (upd (upd (upd (upd (σ 3) 4 x_o_scribe_length) 5 x_o_scribe_at) 6 x_o_scribe_used) 7 x_o_scribe_fault)), (4, x_o_scribe_code), (5, x_o_scribe_starts), (6, x_o_scribe_middles), (13, (upd (σ 13) 6 x_o_page_day))]) G' bv') := lcloseG lq_X11_law (ks := [1, 3, 4, 5, 6, 13]) rfl (by decide +kernel) (fun j hj => hkeep G' bv' hGT j hj) rfl hV2
  clear hV1 hV2
  refine lv_pop hx hb dL_law_355 rfl ?_
  refine lv_aload_n hx hb dL_law_356 rfl (lv_at hl 1 rfl) ?_
  refine lv_aload_n hx hb dL_law_357 rfl (lv_at hl 3 rfl) ?_
  refine lv_iload_n hx hb dL_law_358 rfl (lv_at hl 0 rfl) ?_
  refine lv_iconst (v := 1) hx hb dL_law_359 (by decide) ?_
  refine lv_iadd hx hb dL_law_360 ?_
  refine ksld X hX hbl hbA hV3 (v := y1) (hin 1 (by decide) (by decide)) e1 dL_law_361 ?_
  refine lv_aload_n hx hb dL_law_362 rfl (lv_at hl 3 rfl) ?_
  refine lv_iload_n hx hb dL_law_363 rfl (lv_at hl 0 rfl) ?_
  refine lv_iconst (v := 2) hx hb dL_law_364 (by decide) ?_
  refine lv_iadd hx hb dL_law_365 ?_
  refine ksld X hX hbl hbA hV3 (v := y2) (hin 2 (by decide) (by decide)) e2 dL_law_366 ?_
  have hV4 := lopen lq_X12_law hV3
  clear hV3
  refine kgoiT (krunV (rest := []) X hV4 (List.range _) (c_X12_law l E _ (ad 42) (ad 48) (ad 49) (ad 46) (ad 47) (ad 44) (ad 54) (ad 53) (ad 51) (ad 50) (ad 52) (ad 55) (ad 45) (ad 43) (.int (σ 42 3)) (.int (σ 42 4)) (.int (σ 42 5)) (.int (σ 42 6)) (.int (σ 42 28)) (.int (σ 42 29)) (.int (σ 42 30)) (.int (σ 42 31)) (.int (σ 42 32)) (.int (σ 42 33)) (.int (σ 42 34)) (.int (σ 42 35)) (.int (σ 42 36)) (.int (σ 42 37)) (.int (σ 42 38)) (.int (σ 42 39)) (.int (σ 42 40)) (.ref (ad 56)) (.ref (ad 57)) (.ref (ad 58)) (.ref (ad 59)) (.ref (ad 60)) (.ref (ad 61)) (.ref (ad 62)) (.int (σ 42 48)) (.int (σ 42 49)) (.ref (ad 63)) (.ref (ad 64)) (.ref (ad 65)) (.ref (ad 66)) (.ref (ad 67)) (.ref (ad 68)) (.ref (ad 69)) (.ref (ad 70)) (.ref (ad 71)) (.ref (ad 72)) (.int (σ 42 60)) (.int (σ 42 61)) (.int (σ 42 62)) (.ref (ad 73)) (.ref (ad 74)) (.ref (ad 75)) (.ref (ad 76)) (σ 42 1) (σ 42 2) (σ 42 18) (σ 42 19) (σ 42 20) (σ 42 21) (σ 42 22) (σ 42 23) (σ 42 24) (σ 42 25) (σ 42 26) (σ 48) (σ 49) (σ 46) (σ 47) (σ 44) (σ 54) (σ 53) (σ 51) (σ 50) (σ 52) (σ 55) (σ 45) (σ 43) y1 y2 rm m_o_taped m_o_place m_o_end m_o_bad m_o_clauses m_o_codes m_o_open m_o_stacked m_o_isOver m_o_isBehind m_o_code m_o_codeArg m_o_codeFrom m_o_codeTo m_o_many m_o_newArg m_o_newCode m_o_newFrom m_o_newSum m_o_newTo m_o_stack m_o_sumFrom hfm) mw_457 kb_X12_law (ci := 12) rfl rfl (kndR _) (krg _ _) rfl hl.1 rfl (Nat.le_of_ble_eq_true rfl) dL_law_367 ⟨rfl, rfl, (by decide), (by decide), (by show cells + 4 + 0 ≤ 600000; omega), (by show slots + 149 + 0 ≤ 7302250; omega)⟩) X hV4 (fun u H locs hV5 => ?_)
  have hV6 : kV E A s.heap H locs (lWd E ad (lus (lus σ [(1, (upd (σ 1) 1 x_o_tape_length)), (3, (upd (upd (upd (upd (σ 3) 4 x_o_scribe_length) 5 x_o_scribe_at) 6 x_o_scribe_used) 7 x_o_scribe_fault)), (4, x_o_scribe_code), (5, x_o_scribe_starts), (6, x_o_scribe_middles), (13, (upd (σ 13) 6 x_o_page_day))]) [(42, (upd (upd (upd (upd (upd (upd (upd (upd (upd (upd (σ 42) 1 m_o_taped) 18 m_o_place) 19 m_o_end) 20 m_o_bad) 21 m_o_clauses) 22 m_o_codes) 23 m_o_open) 24 m_o_stacked) 25 m_o_isOver) 26 m_o_isBehind)), (44, m_o_many), (45, m_o_sumFrom), (46, m_o_codeFrom), (47, m_o_codeTo), (48, m_o_code), (49, m_o_codeArg), (50, m_o_newSum), (51, m_o_newFrom), (52, m_o_newTo), (53, m_o_newCode), (54, m_o_newArg), (55, m_o_stack)]) G' bv') := lclose lq_X12_law (ks := [42, 44, 45, 46, 47, 48, 49, 50, 51, 52, 53, 54, 55]) rfl (by decide +kernel) rfl hV5
  clear hV4 hV5
  refine lv_pop hx hb dL_law_370 rfl ?_
  refine lv_goto (tgt := 1478) hx hb dL_law_371 (by decide) ?_
  refine W.widen (k := cells + 4) (n := slots + 149) (by omega) (by omega) ?_
  exact T _ _ _ _ _ hGT hV6 hl
set_option maxHeartbeats 4000000 in
set_option maxRecDepth 100000 in
theorem lc_4 {p : Program} {l : Launch} {e : Env} {s : State} {m : MethodId} {below : List Frame} {meth : Method} {c : Code} {E : kE} {A : Nat → Prop} {b L : Nat} {xs : Nat → Int32} {Q : State → Prop} {H : Heap} {locs : List Loc} {ls : Array Slot} {ad : Nat → Nat} {σ : Nat → Nat → Int32} {G : kG} {bv : Value} {v y1 y2 y3 y4 y5 : Int32} {cells slots : Nat} (X : kC p s m c code 4 RL #[Value.ref b] E A) (hX : va_X b L xs s s.heap) (hbl : b < s.heap.size) (hbA : ¬ A b) (hV : kV E A s.heap H locs (lWd E ad σ G bv)) (hin : ∀ j : Int32, 0 ≤ j.toInt → j.toInt ≤ 5 → vp_in (v + j) L) (e1 : y1 = xs (v + 1).toNatClampNeg) (e2 : y2 = xs (v + 2).toNatClampNeg) (e3 : y3 = xs (v + 3).toNatClampNeg) (e4 : y4 = xs (v + 4).toNatClampNeg) (e5 : y5 = xs (v + 5).toNatClampNeg) (hc : cells + 4 ≤ 600000) (hs : slots + 149 ≤ 7302250) (hl : lv_has ls 4 [(3, .int v), (2, .ref (ad 42)), (1, .ref (ad 0)), (0, .ref b)]) (rx : Int32) (x_o_page_readers : Int32) (x_o_scribe_length : Int32) (x_o_scribe_at : Int32) (x_o_scribe_used : Int32) (x_o_scribe_fault : Int32) (x_o_tape_length : Int32) (x_o_scribe_code : Nat → Int32) (x_o_scribe_middles : Nat → Int32) (x_o_scribe_starts : Nat → Int32) (x_nt : Option (Nat × kTv)) (rm : Int32) (m_o_taped : Int32) (m_o_place : Int32) (m_o_end : Int32) (m_o_bad : Int32) (m_o_clauses : Int32) (m_o_codes : Int32) (m_o_open : Int32) (m_o_stacked : Int32) (m_o_isOver : Int32) (m_o_isBehind : Int32) (m_o_code : Nat → Int32) (m_o_codeArg : Nat → Int32) (m_o_codeFrom : Nat → Int32) (m_o_codeTo : Nat → Int32) (m_o_many : Nat → Int32) (m_o_newArg : Nat → Int32) (m_o_newCode : Nat → Int32) (m_o_newFrom : Nat → Int32) (m_o_newSum : Nat → Int32) (m_o_newTo : Nat → Int32) (m_o_stack : Nat → Int32) (m_o_sumFrom : Nat → Int32) (hfx : f_X11_way G (σ 13 5) (σ 3 4) (σ 3 5) (σ 3 6) (σ 3 7) (σ 1 1) (σ 4) (σ 6) (σ 5) (σ 2) y1 y2 = some (rx, x_o_page_readers, x_o_scribe_length, x_o_scribe_at, x_o_scribe_used, x_o_scribe_fault, x_o_tape_length, x_o_scribe_code, x_o_scribe_middles, x_o_scribe_starts, x_nt)) (hfm : f_X12_way (σ 42 1) (σ 42 18) (σ 42 19) (σ 42 20) (σ 42 21) (σ 42 22) (σ 42 23) (σ 42 24) (σ 42 25) (σ 42 26) (σ 48) (σ 49) (σ 46) (σ 47) (σ 44) (σ 54) (σ 53) (σ 51) (σ 50) (σ 52) (σ 55) (σ 45) (σ 43) y1 y2 = some (rm, m_o_taped, m_o_place, m_o_end, m_o_bad, m_o_clauses, m_o_codes, m_o_open, m_o_stacked, m_o_isOver, m_o_isBehind, m_o_code, m_o_codeArg, m_o_codeFrom, m_o_codeTo, m_o_many, m_o_newArg, m_o_newCode, m_o_newFrom, m_o_newSum, m_o_newTo, m_o_stack, m_o_sumFrom)) (hkeep : ∀ (G' : kG) (bv' : Value), kGT G x_nt G' → ∀ j ∈ ([7, 8, 9, 10, 11, 12, 14, 15, 16, 17, 18, 19, 20, 22, 23, 24, 25, 26, 27, 28, 29, 30, 31, 32, 33, 34, 35, 36, 37, 38, 39, 40, 41, 42, 43, 44, 45, 46, 47, 48, 49, 50, 51, 52, 53, 54, 55, 56, 57, 58, 59, 60, 61, 62, 63, 64, 65, 66, 67, 68, 69, 70, 71, 72, 73, 74, 75, 76] : List Nat), lkeep E ad G G' bv bv' j) (T : ∀ (H : Heap) (locs : List Loc) (ls : Array Slot) (G' : kG) (bv' : Value), kGT G x_nt G' → kV E A s.heap H locs (lWd E ad (lus (lus σ [(1, (upd (σ 1) 1 x_o_tape_length)), (3, (upd (upd (upd (upd (σ 3) 4 x_o_scribe_length) 5 x_o_scribe_at) 6 x_o_scribe_used) 7 x_o_scribe_fault)), (4, x_o_scribe_code), (5, x_o_scribe_starts), (6, x_o_scribe_middles), (13, (upd (σ 13) 5 x_o_page_readers))]) [(42, (upd (upd (upd (upd (upd (upd (upd (upd (upd (upd (σ 42) 1 m_o_taped) 18 m_o_place) 19 m_o_end) 20 m_o_bad) 21 m_o_clauses) 22 m_o_codes) 23 m_o_open) 24 m_o_stacked) 25 m_o_isOver) 26 m_o_isBehind)), (44, m_o_many), (45, m_o_sumFrom), (46, m_o_codeFrom), (47, m_o_codeTo), (48, m_o_code), (49, m_o_codeArg), (50, m_o_newSum), (51, m_o_newFrom), (52, m_o_newTo), (53, m_o_newCode), (54, m_o_newArg), (55, m_o_stack)]) G' bv') → lv_has ls 4 [(3, .int v), (2, .ref (ad 42)), (1, .ref (ad 0)), (0, .ref b)] → W p l e room_1 s m #[Value.ref b] below meth c H locs (cells + 4) (slots + 149) Q (F0 m 1478 ls [])) : W p l e room_1 s m #[Value.ref b] below meth c H locs cells slots Q (F0 m 374 ls []) := by
  have hx := X.1
  have hb := X.2.1
  refine lv_aload_n hx hb dL_law_374 rfl (lv_at hl 2 rfl) ?_
  refine lv_aload_n hx hb dL_law_375 rfl (lv_at hl 3 rfl) ?_
  refine lv_iload_n hx hb dL_law_376 rfl (lv_at hl 0 rfl) ?_
  refine lv_iconst (v := 1) hx hb dL_law_377 (by decide) ?_
  refine lv_iadd hx hb dL_law_378 ?_
  refine ksld X hX hbl hbA hV (v := y1) (hin 1 (by decide) (by decide)) e1 dL_law_379 ?_
  refine lv_aload_n hx hb dL_law_380 rfl (lv_at hl 3 rfl) ?_
  refine lv_iload_n hx hb dL_law_381 rfl (lv_at hl 0 rfl) ?_
  refine lv_iconst (v := 2) hx hb dL_law_382 (by decide) ?_
  refine lv_iadd hx hb dL_law_383 ?_
  refine ksld X hX hbl hbA hV (v := y2) (hin 2 (by decide) (by decide)) e2 dL_law_384 ?_
  have hV1 := lopenP lq_X11_way hV
  clear hV
  refine kgoi2 (krunV (rest := []) X hV1 (List.range _) (c_X11_way l E _ (ad 0) (ad 13) (ad 3) (ad 1) (ad 21) (ad 4) (ad 6) (ad 5) (ad 2) (.ref (ad 8)) (.ref (ad 22)) (.ref (ad 27)) (.ref (ad 30)) (.ref (ad 38)) (.ref (ad 14)) (.ref (ad 15)) (.ref (ad 16)) (.ref (ad 17)) (.ref (ad 18)) (.int (σ 13 6)) (bv) G (σ 13 5) (σ 3 4) (σ 3 5) (σ 3 6) (σ 3 7) (σ 1 1) (σ 4) (σ 6) (σ 5) (σ 2) y1 y2 rx x_o_page_readers x_o_scribe_length x_o_scribe_at x_o_scribe_used x_o_scribe_fault x_o_tape_length x_o_scribe_code x_o_scribe_middles x_o_scribe_starts x_nt hfx) mw_580 kb_X11_way (ci := 11) rfl rfl (kndR _) (krg _ _) rfl hl.1 rfl (Nat.le_of_ble_eq_true rfl) dL_law_385 ⟨rfl, rfl, (by decide), (by decide), (by show cells + 0 + 4 ≤ 600000; omega), (by show slots + 0 + 149 ≤ 7302250; omega)⟩) X hV1 (fun x u H locs hp hV2 => ?_)
  obtain ⟨hxr, hGT⟩ := hp
  first | rw [hxr] | rw [← hxr]
  obtain ⟨G', bv'⟩ := u
  have hV3 : kV E A s.heap H locs (lWd E ad (lus σ [(1, (upd (σ 1) 1 x_o_tape_length)), (3, (upd (upd (upd (upd (σ 3) 4 x_o_scribe_length) 5 x_o_scribe_at) 6 x_o_scribe_used) 7 x_o_scribe_fault)), (4, x_o_scribe_code), (5, x_o_scribe_starts), (6, x_o_scribe_middles), (13, (upd (σ 13) 5 x_o_page_readers))]) G' bv') := lcloseG lq_X11_way (ks := [1, 3, 4, 5, 6, 13]) rfl (by decide +kernel) (fun j hj => hkeep G' bv' hGT j hj) rfl hV2
  clear hV1 hV2
  refine lv_pop hx hb dL_law_388 rfl ?_
  refine lv_aload_n hx hb dL_law_389 rfl (lv_at hl 1 rfl) ?_
  refine lv_aload_n hx hb dL_law_390 rfl (lv_at hl 3 rfl) ?_
  refine lv_iload_n hx hb dL_law_391 rfl (lv_at hl 0 rfl) ?_
  refine lv_iconst (v := 1) hx hb dL_law_392 (by decide) ?_
  refine lv_iadd hx hb dL_law_393 ?_
  refine ksld X hX hbl hbA hV3 (v := y1) (hin 1 (by decide) (by decide)) e1 dL_law_394 ?_
  refine lv_aload_n hx hb dL_law_395 rfl (lv_at hl 3 rfl) ?_
  refine lv_iload_n hx hb dL_law_396 rfl (lv_at hl 0 rfl) ?_
  refine lv_iconst (v := 2) hx hb dL_law_397 (by decide) ?_
  refine lv_iadd hx hb dL_law_398 ?_
  refine ksld X hX hbl hbA hV3 (v := y2) (hin 2 (by decide) (by decide)) e2 dL_law_399 ?_
  have hV4 := lopen lq_X12_way hV3
  clear hV3
  refine kgoiT (krunV (rest := []) X hV4 (List.range _) (c_X12_way l E _ (ad 42) (ad 48) (ad 49) (ad 46) (ad 47) (ad 44) (ad 54) (ad 53) (ad 51) (ad 50) (ad 52) (ad 55) (ad 45) (ad 43) (.int (σ 42 2)) (.int (σ 42 3)) (.int (σ 42 4)) (.int (σ 42 5)) (.int (σ 42 6)) (.int (σ 42 28)) (.int (σ 42 29)) (.int (σ 42 30)) (.int (σ 42 31)) (.int (σ 42 32)) (.int (σ 42 33)) (.int (σ 42 34)) (.int (σ 42 35)) (.int (σ 42 36)) (.int (σ 42 37)) (.int (σ 42 38)) (.int (σ 42 39)) (.int (σ 42 40)) (.ref (ad 56)) (.ref (ad 57)) (.ref (ad 58)) (.ref (ad 59)) (.ref (ad 60)) (.ref (ad 61)) (.ref (ad 62)) (.int (σ 42 48)) (.int (σ 42 49)) (.ref (ad 63)) (.ref (ad 64)) (.ref (ad 65)) (.ref (ad 66)) (.ref (ad 67)) (.ref (ad 68)) (.ref (ad 69)) (.ref (ad 70)) (.ref (ad 71)) (.ref (ad 72)) (.int (σ 42 60)) (.int (σ 42 61)) (.int (σ 42 62)) (.ref (ad 73)) (.ref (ad 74)) (.ref (ad 75)) (.ref (ad 76)) (σ 42 1) (σ 42 18) (σ 42 19) (σ 42 20) (σ 42 21) (σ 42 22) (σ 42 23) (σ 42 24) (σ 42 25) (σ 42 26) (σ 48) (σ 49) (σ 46) (σ 47) (σ 44) (σ 54) (σ 53) (σ 51) (σ 50) (σ 52) (σ 55) (σ 45) (σ 43) y1 y2 rm m_o_taped m_o_place m_o_end m_o_bad m_o_clauses m_o_codes m_o_open m_o_stacked m_o_isOver m_o_isBehind m_o_code m_o_codeArg m_o_codeFrom m_o_codeTo m_o_many m_o_newArg m_o_newCode m_o_newFrom m_o_newSum m_o_newTo m_o_stack m_o_sumFrom hfm) mw_591 kb_X12_way (ci := 12) rfl rfl (kndR _) (krg _ _) rfl hl.1 rfl (Nat.le_of_ble_eq_true rfl) dL_law_400 ⟨rfl, rfl, (by decide), (by decide), (by show cells + 4 + 0 ≤ 600000; omega), (by show slots + 149 + 0 ≤ 7302250; omega)⟩) X hV4 (fun u H locs hV5 => ?_)
  have hV6 : kV E A s.heap H locs (lWd E ad (lus (lus σ [(1, (upd (σ 1) 1 x_o_tape_length)), (3, (upd (upd (upd (upd (σ 3) 4 x_o_scribe_length) 5 x_o_scribe_at) 6 x_o_scribe_used) 7 x_o_scribe_fault)), (4, x_o_scribe_code), (5, x_o_scribe_starts), (6, x_o_scribe_middles), (13, (upd (σ 13) 5 x_o_page_readers))]) [(42, (upd (upd (upd (upd (upd (upd (upd (upd (upd (upd (σ 42) 1 m_o_taped) 18 m_o_place) 19 m_o_end) 20 m_o_bad) 21 m_o_clauses) 22 m_o_codes) 23 m_o_open) 24 m_o_stacked) 25 m_o_isOver) 26 m_o_isBehind)), (44, m_o_many), (45, m_o_sumFrom), (46, m_o_codeFrom), (47, m_o_codeTo), (48, m_o_code), (49, m_o_codeArg), (50, m_o_newSum), (51, m_o_newFrom), (52, m_o_newTo), (53, m_o_newCode), (54, m_o_newArg), (55, m_o_stack)]) G' bv') := lclose lq_X12_way (ks := [42, 44, 45, 46, 47, 48, 49, 50, 51, 52, 53, 54, 55]) rfl (by decide +kernel) rfl hV5
  clear hV4 hV5
  refine lv_pop hx hb dL_law_403 rfl ?_
  refine lv_goto (tgt := 1478) hx hb dL_law_404 (by decide) ?_
  refine W.widen (k := cells + 4) (n := slots + 149) (by omega) (by omega) ?_
  exact T _ _ _ _ _ hGT hV6 hl
set_option maxHeartbeats 4000000 in
set_option maxRecDepth 100000 in
theorem lc_5 {p : Program} {l : Launch} {e : Env} {s : State} {m : MethodId} {below : List Frame} {meth : Method} {c : Code} {E : kE} {A : Nat → Prop} {b L : Nat} {xs : Nat → Int32} {Q : State → Prop} {H : Heap} {locs : List Loc} {ls : Array Slot} {ad : Nat → Nat} {σ : Nat → Nat → Int32} {G : kG} {bv : Value} {v y1 y2 y3 y4 y5 : Int32} {cells slots : Nat} (X : kC p s m c code 4 RL #[Value.ref b] E A) (hX : va_X b L xs s s.heap) (hbl : b < s.heap.size) (hbA : ¬ A b) (hV : kV E A s.heap H locs (lWd E ad σ G bv)) (hin : ∀ j : Int32, 0 ≤ j.toInt → j.toInt ≤ 5 → vp_in (v + j) L) (e1 : y1 = xs (v + 1).toNatClampNeg) (e2 : y2 = xs (v + 2).toNatClampNeg) (e3 : y3 = xs (v + 3).toNatClampNeg) (e4 : y4 = xs (v + 4).toNatClampNeg) (e5 : y5 = xs (v + 5).toNatClampNeg) (hc : cells + 4 ≤ 600000) (hs : slots + 149 ≤ 7302250) (hl : lv_has ls 4 [(3, .int v), (2, .ref (ad 42)), (1, .ref (ad 0)), (0, .ref b)]) (rx : Int32) (x_o_scribe_length : Int32) (x_o_scribe_at : Int32) (x_o_scribe_used : Int32) (x_o_scribe_fault : Int32) (x_o_tape_length : Int32) (x_o_scribe_code : Nat → Int32) (x_o_scribe_middles : Nat → Int32) (x_o_scribe_starts : Nat → Int32) (x_nt : Option (Nat × kTv)) (rm : Int32) (m_o_taped : Int32) (m_o_place : Int32) (m_o_end : Int32) (m_o_bad : Int32) (m_o_clauses : Int32) (m_o_codes : Int32) (m_o_open : Int32) (m_o_stacked : Int32) (m_o_isBehind : Int32) (m_o_code : Nat → Int32) (m_o_codeArg : Nat → Int32) (m_o_codeFrom : Nat → Int32) (m_o_codeTo : Nat → Int32) (m_o_many : Nat → Int32) (m_o_newArg : Nat → Int32) (m_o_newCode : Nat → Int32) (m_o_newFrom : Nat → Int32) (m_o_newSum : Nat → Int32) (m_o_newTo : Nat → Int32) (m_o_stack : Nat → Int32) (m_o_sumFrom : Nat → Int32) (hfx : f_X11_story G (σ 3 4) (σ 3 5) (σ 3 6) (σ 3 7) (σ 1 1) (σ 4) (σ 6) (σ 5) (σ 2) y1 y2 = some (rx, x_o_scribe_length, x_o_scribe_at, x_o_scribe_used, x_o_scribe_fault, x_o_tape_length, x_o_scribe_code, x_o_scribe_middles, x_o_scribe_starts, x_nt)) (hfm : f_X12_story (σ 42 1) (σ 42 18) (σ 42 19) (σ 42 20) (σ 42 21) (σ 42 22) (σ 42 23) (σ 42 24) (σ 42 26) (σ 48) (σ 49) (σ 46) (σ 47) (σ 44) (σ 54) (σ 53) (σ 51) (σ 50) (σ 52) (σ 55) (σ 45) (σ 43) y1 y2 = some (rm, m_o_taped, m_o_place, m_o_end, m_o_bad, m_o_clauses, m_o_codes, m_o_open, m_o_stacked, m_o_isBehind, m_o_code, m_o_codeArg, m_o_codeFrom, m_o_codeTo, m_o_many, m_o_newArg, m_o_newCode, m_o_newFrom, m_o_newSum, m_o_newTo, m_o_stack, m_o_sumFrom)) (hcmp : rx = rm) (hkeep : ∀ (G' : kG) (bv' : Value), kGT G x_nt G' → ∀ j ∈ ([7, 8, 9, 10, 11, 12, 13, 14, 15, 16, 17, 18, 19, 20, 21, 22, 23, 24, 25, 26, 27, 28, 29, 31, 32, 33, 34, 35, 36, 38, 39, 40, 41, 42, 43, 44, 45, 46, 47, 48, 49, 50, 51, 52, 53, 54, 55, 56, 57, 58, 59, 60, 61, 62, 63, 64, 65, 66, 67, 68, 69, 70, 71, 72, 73, 74, 75, 76] : List Nat), lkeep E ad G G' bv bv' j) (T : ∀ (H : Heap) (locs : List Loc) (ls : Array Slot) (G' : kG) (bv' : Value), kGT G x_nt G' → kV E A s.heap H locs (lWd E ad (lus (lus σ [(1, (upd (σ 1) 1 x_o_tape_length)), (3, (upd (upd (upd (upd (σ 3) 4 x_o_scribe_length) 5 x_o_scribe_at) 6 x_o_scribe_used) 7 x_o_scribe_fault)), (4, x_o_scribe_code), (5, x_o_scribe_starts), (6, x_o_scribe_middles)]) [(42, (upd (upd (upd (upd (upd (upd (upd (upd (upd (σ 42) 1 m_o_taped) 18 m_o_place) 19 m_o_end) 20 m_o_bad) 21 m_o_clauses) 22 m_o_codes) 23 m_o_open) 24 m_o_stacked) 26 m_o_isBehind)), (44, m_o_many), (45, m_o_sumFrom), (46, m_o_codeFrom), (47, m_o_codeTo), (48, m_o_code), (49, m_o_codeArg), (50, m_o_newSum), (51, m_o_newFrom), (52, m_o_newTo), (53, m_o_newCode), (54, m_o_newArg), (55, m_o_stack)]) G' bv') → lv_has ls 4 [(3, .int v), (2, .ref (ad 42)), (1, .ref (ad 0)), (0, .ref b)] → W p l e room_1 s m #[Value.ref b] below meth c H locs (cells + 4) (slots + 149) Q (F0 m 1478 ls [])) : W p l e room_1 s m #[Value.ref b] below meth c H locs cells slots Q (F0 m 407 ls []) := by
  have hx := X.1
  have hb := X.2.1
  refine lv_aload_n hx hb dL_law_407 rfl (lv_at hl 2 rfl) ?_
  refine lv_aload_n hx hb dL_law_408 rfl (lv_at hl 3 rfl) ?_
  refine lv_iload_n hx hb dL_law_409 rfl (lv_at hl 0 rfl) ?_
  refine lv_iconst (v := 1) hx hb dL_law_410 (by decide) ?_
  refine lv_iadd hx hb dL_law_411 ?_
  refine ksld X hX hbl hbA hV (v := y1) (hin 1 (by decide) (by decide)) e1 dL_law_412 ?_
  refine lv_aload_n hx hb dL_law_413 rfl (lv_at hl 3 rfl) ?_
  refine lv_iload_n hx hb dL_law_414 rfl (lv_at hl 0 rfl) ?_
  refine lv_iconst (v := 2) hx hb dL_law_415 (by decide) ?_
  refine lv_iadd hx hb dL_law_416 ?_
  refine ksld X hX hbl hbA hV (v := y2) (hin 2 (by decide) (by decide)) e2 dL_law_417 ?_
  have hV1 := lopenP lq_X11_story hV
  clear hV
  refine kgoi2 (krunV (rest := []) X hV1 (List.range _) (c_X11_story l E _ (ad 0) (ad 30) (ad 3) (ad 1) (ad 37) (ad 4) (ad 6) (ad 5) (ad 2) (.ref (ad 8)) (.ref (ad 13)) (.ref (ad 21)) (.ref (ad 22)) (.ref (ad 27)) (.ref (ad 38)) (.ref (ad 31)) (.ref (ad 32)) (.ref (ad 33)) (.ref (ad 34)) (.int (σ 30 5)) (bv) G (σ 3 4) (σ 3 5) (σ 3 6) (σ 3 7) (σ 1 1) (σ 4) (σ 6) (σ 5) (σ 2) y1 y2 rx x_o_scribe_length x_o_scribe_at x_o_scribe_used x_o_scribe_fault x_o_tape_length x_o_scribe_code x_o_scribe_middles x_o_scribe_starts x_nt hfx) mw_598 kb_X11_story (ci := 11) rfl rfl (kndR _) (krg _ _) rfl hl.1 rfl (Nat.le_of_ble_eq_true rfl) dL_law_418 ⟨rfl, rfl, (by decide), (by decide), (by show cells + 0 + 4 ≤ 600000; omega), (by show slots + 0 + 149 ≤ 7302250; omega)⟩) X hV1 (fun x u H locs hp hV2 => ?_)
  obtain ⟨hxr, hGT⟩ := hp
  first | rw [hxr] | rw [← hxr]
  obtain ⟨G', bv'⟩ := u
  have hV3 : kV E A s.heap H locs (lWd E ad (lus σ [(1, (upd (σ 1) 1 x_o_tape_length)), (3, (upd (upd (upd (upd (σ 3) 4 x_o_scribe_length) 5 x_o_scribe_at) 6 x_o_scribe_used) 7 x_o_scribe_fault)), (4, x_o_scribe_code), (5, x_o_scribe_starts), (6, x_o_scribe_middles)]) G' bv') := lcloseG lq_X11_story (ks := [1, 3, 4, 5, 6]) rfl (by decide +kernel) (fun j hj => hkeep G' bv' hGT j hj) rfl hV2
  clear hV1 hV2
  refine lv_aload_n hx hb dL_law_421 rfl (lv_at hl 1 rfl) ?_
  refine lv_aload_n hx hb dL_law_422 rfl (lv_at hl 3 rfl) ?_
  refine lv_iload_n hx hb dL_law_423 rfl (lv_at hl 0 rfl) ?_
  refine lv_iconst (v := 1) hx hb dL_law_424 (by decide) ?_
  refine lv_iadd hx hb dL_law_425 ?_
  refine ksld X hX hbl hbA hV3 (v := y1) (hin 1 (by decide) (by decide)) e1 dL_law_426 ?_
  refine lv_aload_n hx hb dL_law_427 rfl (lv_at hl 3 rfl) ?_
  refine lv_iload_n hx hb dL_law_428 rfl (lv_at hl 0 rfl) ?_
  refine lv_iconst (v := 2) hx hb dL_law_429 (by decide) ?_
  refine lv_iadd hx hb dL_law_430 ?_
  refine ksld X hX hbl hbA hV3 (v := y2) (hin 2 (by decide) (by decide)) e2 dL_law_431 ?_
  have hV4 := lopen lq_X12_story hV3
  clear hV3
  refine kgoiT (krunV (rest := [.int rx]) X hV4 (List.range _) (c_X12_story l E _ (ad 42) (ad 48) (ad 49) (ad 46) (ad 47) (ad 44) (ad 54) (ad 53) (ad 51) (ad 50) (ad 52) (ad 55) (ad 45) (ad 43) (.int (σ 42 2)) (.int (σ 42 3)) (.int (σ 42 4)) (.int (σ 42 5)) (.int (σ 42 6)) (.int (σ 42 25)) (.int (σ 42 28)) (.int (σ 42 29)) (.int (σ 42 30)) (.int (σ 42 31)) (.int (σ 42 32)) (.int (σ 42 33)) (.int (σ 42 34)) (.int (σ 42 35)) (.int (σ 42 36)) (.int (σ 42 37)) (.int (σ 42 38)) (.int (σ 42 39)) (.int (σ 42 40)) (.ref (ad 56)) (.ref (ad 57)) (.ref (ad 58)) (.ref (ad 59)) (.ref (ad 60)) (.ref (ad 61)) (.ref (ad 62)) (.int (σ 42 48)) (.int (σ 42 49)) (.ref (ad 63)) (.ref (ad 64)) (.ref (ad 65)) (.ref (ad 66)) (.ref (ad 67)) (.ref (ad 68)) (.ref (ad 69)) (.ref (ad 70)) (.ref (ad 71)) (.ref (ad 72)) (.int (σ 42 60)) (.int (σ 42 61)) (.int (σ 42 62)) (.ref (ad 73)) (.ref (ad 74)) (.ref (ad 75)) (.ref (ad 76)) (σ 42 1) (σ 42 18) (σ 42 19) (σ 42 20) (σ 42 21) (σ 42 22) (σ 42 23) (σ 42 24) (σ 42 26) (σ 48) (σ 49) (σ 46) (σ 47) (σ 44) (σ 54) (σ 53) (σ 51) (σ 50) (σ 52) (σ 55) (σ 45) (σ 43) y1 y2 rm m_o_taped m_o_place m_o_end m_o_bad m_o_clauses m_o_codes m_o_open m_o_stacked m_o_isBehind m_o_code m_o_codeArg m_o_codeFrom m_o_codeTo m_o_many m_o_newArg m_o_newCode m_o_newFrom m_o_newSum m_o_newTo m_o_stack m_o_sumFrom hfm) mw_610 kb_X12_story (ci := 12) rfl rfl (kndR _) (krg _ _) rfl hl.1 rfl (Nat.le_of_ble_eq_true rfl) dL_law_432 ⟨rfl, rfl, (by decide), (by decide), (by show cells + 4 + 0 ≤ 600000; omega), (by show slots + 149 + 0 ≤ 7302250; omega)⟩) X hV4 (fun u H locs hV5 => ?_)
  have hV6 : kV E A s.heap H locs (lWd E ad (lus (lus σ [(1, (upd (σ 1) 1 x_o_tape_length)), (3, (upd (upd (upd (upd (σ 3) 4 x_o_scribe_length) 5 x_o_scribe_at) 6 x_o_scribe_used) 7 x_o_scribe_fault)), (4, x_o_scribe_code), (5, x_o_scribe_starts), (6, x_o_scribe_middles)]) [(42, (upd (upd (upd (upd (upd (upd (upd (upd (upd (σ 42) 1 m_o_taped) 18 m_o_place) 19 m_o_end) 20 m_o_bad) 21 m_o_clauses) 22 m_o_codes) 23 m_o_open) 24 m_o_stacked) 26 m_o_isBehind)), (44, m_o_many), (45, m_o_sumFrom), (46, m_o_codeFrom), (47, m_o_codeTo), (48, m_o_code), (49, m_o_codeArg), (50, m_o_newSum), (51, m_o_newFrom), (52, m_o_newTo), (53, m_o_newCode), (54, m_o_newArg), (55, m_o_stack)]) G' bv') := lclose lq_X12_story (ks := [42, 44, 45, 46, 47, 48, 49, 50, 51, 52, 53, 54, 55]) rfl (by decide +kernel) rfl hV5
  clear hV4 hV5
  refine lv_icmp_eq (tgt := 1478) hx hb dL_law_435 (by decide) (fun _ => ?_) (fun c7 => absurd hcmp c7)
  refine W.widen (k := cells + 4) (n := slots + 149) (by omega) (by omega) ?_
  exact T _ _ _ _ _ hGT hV6 hl
set_option maxHeartbeats 4000000 in
set_option maxRecDepth 100000 in
theorem lc_6 {p : Program} {l : Launch} {e : Env} {s : State} {m : MethodId} {below : List Frame} {meth : Method} {c : Code} {E : kE} {A : Nat → Prop} {b L : Nat} {xs : Nat → Int32} {Q : State → Prop} {H : Heap} {locs : List Loc} {ls : Array Slot} {ad : Nat → Nat} {σ : Nat → Nat → Int32} {G : kG} {bv : Value} {v y1 y2 y3 y4 y5 : Int32} {cells slots : Nat} (X : kC p s m c code 4 RL #[Value.ref b] E A) (hX : va_X b L xs s s.heap) (hbl : b < s.heap.size) (hbA : ¬ A b) (hV : kV E A s.heap H locs (lWd E ad σ G bv)) (hin : ∀ j : Int32, 0 ≤ j.toInt → j.toInt ≤ 5 → vp_in (v + j) L) (e1 : y1 = xs (v + 1).toNatClampNeg) (e2 : y2 = xs (v + 2).toNatClampNeg) (e3 : y3 = xs (v + 3).toNatClampNeg) (e4 : y4 = xs (v + 4).toNatClampNeg) (e5 : y5 = xs (v + 5).toNatClampNeg) (hc : cells + 4 ≤ 600000) (hs : slots + 149 ≤ 7302250) (hl : lv_has ls 4 [(3, .int v), (2, .ref (ad 42)), (1, .ref (ad 0)), (0, .ref b)]) (rx : Int32) (rm : Int32) (hfx : f_X11_star y1 y2 = some (rx)) (hfm : f_X12_star y1 y2 = some (rm)) (T : ∀ (H : Heap) (locs : List Loc) (ls : Array Slot), kV E A s.heap H locs (lWd E ad (lus (lus σ []) []) G bv) → lv_has ls 4 [(3, .int v), (2, .ref (ad 42)), (1, .ref (ad 0)), (0, .ref b)] → W p l e room_1 s m #[Value.ref b] below meth c H locs (cells + 4) (slots + 149) Q (F0 m 1478 ls [])) : W p l e room_1 s m #[Value.ref b] below meth c H locs cells slots Q (F0 m 440 ls []) := by
  have hx := X.1
  have hb := X.2.1
  refine lv_aload_n hx hb dL_law_440 rfl (lv_at hl 2 rfl) ?_
  refine lv_aload_n hx hb dL_law_441 rfl (lv_at hl 3 rfl) ?_
  refine lv_iload_n hx hb dL_law_442 rfl (lv_at hl 0 rfl) ?_
  refine lv_iconst (v := 1) hx hb dL_law_443 (by decide) ?_
  refine lv_iadd hx hb dL_law_444 ?_
  refine ksld X hX hbl hbA hV (v := y1) (hin 1 (by decide) (by decide)) e1 dL_law_445 ?_
  refine lv_aload_n hx hb dL_law_446 rfl (lv_at hl 3 rfl) ?_
  refine lv_iload_n hx hb dL_law_447 rfl (lv_at hl 0 rfl) ?_
  refine lv_iconst (v := 2) hx hb dL_law_448 (by decide) ?_
  refine lv_iadd hx hb dL_law_449 ?_
  refine ksld X hX hbl hbA hV (v := y2) (hin 2 (by decide) (by decide)) e2 dL_law_450 ?_
  have hV1 := lopen lq_X11_star hV
  clear hV
  refine kgoiT (krunV (rest := []) X hV1 (List.range _) (c_X11_star l E _ (ad 0) (.ref (ad 1)) (.ref (ad 3)) (.ref (ad 8)) (.ref (ad 13)) (.ref (ad 21)) (.ref (ad 22)) (.ref (ad 27)) (.ref (ad 30)) (.ref (ad 38)) y1 y2 rx hfx) mw_618 kb_X11_star (ci := 11) rfl rfl (kndR _) (krg _ _) rfl hl.1 rfl (Nat.le_of_ble_eq_true rfl) dL_law_451 ⟨rfl, rfl, (by decide), (by decide), (by show cells + 0 + 0 ≤ 600000; omega), (by show slots + 0 + 0 ≤ 7302250; omega)⟩) X hV1 (fun u H locs hV2 => ?_)
  have hV3 : kV E A s.heap H locs (lWd E ad (lus σ []) G bv) := lclose lq_X11_star (ks := []) rfl (by decide +kernel) rfl hV2
  clear hV1 hV2
  refine lv_pop hx hb dL_law_454 rfl ?_
  refine lv_aload_n hx hb dL_law_455 rfl (lv_at hl 1 rfl) ?_
  refine lv_aload_n hx hb dL_law_456 rfl (lv_at hl 3 rfl) ?_
  refine lv_iload_n hx hb dL_law_457 rfl (lv_at hl 0 rfl) ?_
  refine lv_iconst (v := 1) hx hb dL_law_458 (by decide) ?_
  refine lv_iadd hx hb dL_law_459 ?_
  refine ksld X hX hbl hbA hV3 (v := y1) (hin 1 (by decide) (by decide)) e1 dL_law_460 ?_
  refine lv_aload_n hx hb dL_law_461 rfl (lv_at hl 3 rfl) ?_
  refine lv_iload_n hx hb dL_law_462 rfl (lv_at hl 0 rfl) ?_
  refine lv_iconst (v := 2) hx hb dL_law_463 (by decide) ?_
  refine lv_iadd hx hb dL_law_464 ?_
  refine ksld X hX hbl hbA hV3 (v := y2) (hin 2 (by decide) (by decide)) e2 dL_law_465 ?_
  have hV4 := lopen lq_X12_star hV3
  clear hV3
  refine kgoiT (krunV (rest := []) X hV4 (List.range _) (c_X12_star l E _ (ad 42) (.ref (ad 43)) (.int (σ 42 1)) (.int (σ 42 2)) (.int (σ 42 3)) (.int (σ 42 4)) (.int (σ 42 5)) (.int (σ 42 6)) (.ref (ad 44)) (.ref (ad 45)) (.ref (ad 46)) (.ref (ad 47)) (.ref (ad 48)) (.ref (ad 49)) (.ref (ad 50)) (.ref (ad 51)) (.ref (ad 52)) (.ref (ad 53)) (.ref (ad 54)) (.int (σ 42 18)) (.int (σ 42 19)) (.int (σ 42 20)) (.int (σ 42 21)) (.int (σ 42 22)) (.int (σ 42 23)) (.int (σ 42 24)) (.int (σ 42 25)) (.int (σ 42 26)) (.ref (ad 55)) (.int (σ 42 28)) (.int (σ 42 29)) (.int (σ 42 30)) (.int (σ 42 31)) (.int (σ 42 32)) (.int (σ 42 33)) (.int (σ 42 34)) (.int (σ 42 35)) (.int (σ 42 36)) (.int (σ 42 37)) (.int (σ 42 38)) (.int (σ 42 39)) (.int (σ 42 40)) (.ref (ad 56)) (.ref (ad 57)) (.ref (ad 58)) (.ref (ad 59)) (.ref (ad 60)) (.ref (ad 61)) (.ref (ad 62)) (.int (σ 42 48)) (.int (σ 42 49)) (.ref (ad 63)) (.ref (ad 64)) (.ref (ad 65)) (.ref (ad 66)) (.ref (ad 67)) (.ref (ad 68)) (.ref (ad 69)) (.ref (ad 70)) (.ref (ad 71)) (.ref (ad 72)) (.int (σ 42 60)) (.int (σ 42 61)) (.int (σ 42 62)) (.ref (ad 73)) (.ref (ad 74)) (.ref (ad 75)) (.ref (ad 76)) y1 y2 rm hfm) mw_628 kb_X12_star (ci := 12) rfl rfl (kndR _) (krg _ _) rfl hl.1 rfl (Nat.le_of_ble_eq_true rfl) dL_law_466 ⟨rfl, rfl, (by decide), (by decide), (by show cells + 0 + 0 ≤ 600000; omega), (by show slots + 0 + 0 ≤ 7302250; omega)⟩) X hV4 (fun u H locs hV5 => ?_)
  have hV6 : kV E A s.heap H locs (lWd E ad (lus (lus σ []) []) G bv) := lclose lq_X12_star (ks := []) rfl (by decide +kernel) rfl hV5
  clear hV4 hV5
  refine lv_pop hx hb dL_law_469 rfl ?_
  refine lv_goto (tgt := 1478) hx hb dL_law_470 (by decide) ?_
  refine W.widen (k := cells + 4) (n := slots + 149) (by omega) (by omega) ?_
  exact T _ _ _ hV6 hl
set_option maxHeartbeats 4000000 in
set_option maxRecDepth 100000 in
theorem lc_7 {p : Program} {l : Launch} {e : Env} {s : State} {m : MethodId} {below : List Frame} {meth : Method} {c : Code} {E : kE} {A : Nat → Prop} {b L : Nat} {xs : Nat → Int32} {Q : State → Prop} {H : Heap} {locs : List Loc} {ls : Array Slot} {ad : Nat → Nat} {σ : Nat → Nat → Int32} {G : kG} {bv : Value} {v y1 y2 y3 y4 y5 : Int32} {cells slots : Nat} (X : kC p s m c code 4 RL #[Value.ref b] E A) (hX : va_X b L xs s s.heap) (hbl : b < s.heap.size) (hbA : ¬ A b) (hV : kV E A s.heap H locs (lWd E ad σ G bv)) (hin : ∀ j : Int32, 0 ≤ j.toInt → j.toInt ≤ 5 → vp_in (v + j) L) (e1 : y1 = xs (v + 1).toNatClampNeg) (e2 : y2 = xs (v + 2).toNatClampNeg) (e3 : y3 = xs (v + 3).toNatClampNeg) (e4 : y4 = xs (v + 4).toNatClampNeg) (e5 : y5 = xs (v + 5).toNatClampNeg) (hc : cells + 4 ≤ 600000) (hs : slots + 149 ≤ 7302250) (hl : lv_has ls 4 [(3, .int v), (2, .ref (ad 42)), (1, .ref (ad 0)), (0, .ref b)]) (rx : Int32) (x_o_sky_reckoner_letters : Nat → Int32) (x_o_sky_reckoner_values : Nat → Int32) (rm : Int32) (m_o_atA : Int32) (m_o_atB : Int32) (m_o_atD : Int32) (m_o_atF : Int32) (m_o_atG : Int32) (m_o_atH : Int32) (m_o_atL : Int32) (m_o_atM : Int32) (m_o_atN : Int32) (m_o_atS : Int32) (m_o_atT : Int32) (m_o_atU : Int32) (m_o_atX : Int32) (m_o_isRefused : Nat → Int32) (m_o_worth : Nat → Int32) (hfx : f_X11_height G (σ 8 2) (σ 8 3) (σ 11) (σ 12) y1 y2 y3 = some (rx, x_o_sky_reckoner_letters, x_o_sky_reckoner_values)) (hfm : f_X12_height (σ 42 2) (σ 42 3) (σ 42 28) (σ 42 29) (σ 42 30) (σ 42 31) (σ 42 32) (σ 42 33) (σ 42 34) (σ 42 35) (σ 42 36) (σ 42 37) (σ 42 38) (σ 42 39) (σ 42 40) (σ 58) (σ 48) (σ 49) (σ 46) (σ 47) (σ 57) (σ 44) (σ 59) (σ 45) (σ 62) (σ 60) (σ 56) y1 y2 y3 = some (rm, m_o_atA, m_o_atB, m_o_atD, m_o_atF, m_o_atG, m_o_atH, m_o_atL, m_o_atM, m_o_atN, m_o_atS, m_o_atT, m_o_atU, m_o_atX, m_o_isRefused, m_o_worth)) (T : ∀ (H : Heap) (locs : List Loc) (ls : Array Slot), kV E A s.heap H locs (lWd E ad (lus (lus σ [(11, x_o_sky_reckoner_letters), (12, x_o_sky_reckoner_values)]) [(42, (upd (upd (upd (upd (upd (upd (upd (upd (upd (upd (upd (upd (upd (σ 42) 28 m_o_atA) 29 m_o_atB) 30 m_o_atD) 31 m_o_atF) 32 m_o_atG) 33 m_o_atH) 34 m_o_atL) 35 m_o_atM) 36 m_o_atN) 37 m_o_atS) 38 m_o_atT) 39 m_o_atU) 40 m_o_atX)), (56, m_o_worth), (57, m_o_isRefused)]) G bv) → lv_has ls 4 [(3, .int v), (2, .ref (ad 42)), (1, .ref (ad 0)), (0, .ref b)] → W p l e room_1 s m #[Value.ref b] below meth c H locs (cells + 4) (slots + 149) Q (F0 m 1478 ls [])) : W p l e room_1 s m #[Value.ref b] below meth c H locs cells slots Q (F0 m 473 ls []) := by
  have hx := X.1
  have hb := X.2.1
  refine lv_aload_n hx hb dL_law_473 rfl (lv_at hl 2 rfl) ?_
  refine lv_aload_n hx hb dL_law_474 rfl (lv_at hl 3 rfl) ?_
  refine lv_iload_n hx hb dL_law_475 rfl (lv_at hl 0 rfl) ?_
  refine lv_iconst (v := 1) hx hb dL_law_476 (by decide) ?_
  refine lv_iadd hx hb dL_law_477 ?_
  refine ksld X hX hbl hbA hV (v := y1) (hin 1 (by decide) (by decide)) e1 dL_law_478 ?_
  refine lv_aload_n hx hb dL_law_479 rfl (lv_at hl 3 rfl) ?_
  refine lv_iload_n hx hb dL_law_480 rfl (lv_at hl 0 rfl) ?_
  refine lv_iconst (v := 2) hx hb dL_law_481 (by decide) ?_
  refine lv_iadd hx hb dL_law_482 ?_
  refine ksld X hX hbl hbA hV (v := y2) (hin 2 (by decide) (by decide)) e2 dL_law_483 ?_
  refine lv_aload_n hx hb dL_law_484 rfl (lv_at hl 3 rfl) ?_
  refine lv_iload_n hx hb dL_law_485 rfl (lv_at hl 0 rfl) ?_
  refine lv_iconst (v := 3) hx hb dL_law_486 (by decide) ?_
  refine lv_iadd hx hb dL_law_487 ?_
  refine ksld X hX hbl hbA hV (v := y3) (hin 3 (by decide) (by decide)) e3 dL_law_488 ?_
  have hV1 := lopenP lq_X11_height hV
  clear hV
  refine kgoiP (krunV (rest := []) X hV1 (List.range _) (c_X11_height l E _ (ad 0) (ad 8) (ad 10) (ad 9) (ad 11) (ad 12) (.ref (ad 1)) (.ref (ad 3)) (.ref (ad 13)) (.ref (ad 21)) (.ref (ad 22)) (.ref (ad 27)) (.ref (ad 30)) (.ref (ad 38)) G (σ 8 2) (σ 8 3) (σ 11) (σ 12) y1 y2 y3 rx x_o_sky_reckoner_letters x_o_sky_reckoner_values hfx) mw_639 kb_X11_height (ci := 11) rfl rfl (kndR _) (krg _ _) rfl hl.1 rfl (Nat.le_of_ble_eq_true rfl) dL_law_489 ⟨rfl, rfl, (by decide), (by decide), (by show cells + 0 + 0 ≤ 600000; omega), (by show slots + 0 + 0 ≤ 7302250; omega)⟩) X hV1 (fun u H locs hV2 => ?_)
  have hV3 : kV E A s.heap H locs (lWd E ad (lus σ [(11, x_o_sky_reckoner_letters), (12, x_o_sky_reckoner_values)]) G bv) := lcloseP lq_X11_height (ks := [11, 12]) rfl (by decide +kernel) rfl hV2
  clear hV1 hV2
  refine lv_pop hx hb dL_law_492 rfl ?_
  refine lv_aload_n hx hb dL_law_493 rfl (lv_at hl 1 rfl) ?_
  refine lv_aload_n hx hb dL_law_494 rfl (lv_at hl 3 rfl) ?_
  refine lv_iload_n hx hb dL_law_495 rfl (lv_at hl 0 rfl) ?_
  refine lv_iconst (v := 1) hx hb dL_law_496 (by decide) ?_
  refine lv_iadd hx hb dL_law_497 ?_
  refine ksld X hX hbl hbA hV3 (v := y1) (hin 1 (by decide) (by decide)) e1 dL_law_498 ?_
  refine lv_aload_n hx hb dL_law_499 rfl (lv_at hl 3 rfl) ?_
  refine lv_iload_n hx hb dL_law_500 rfl (lv_at hl 0 rfl) ?_
  refine lv_iconst (v := 2) hx hb dL_law_501 (by decide) ?_
  refine lv_iadd hx hb dL_law_502 ?_
  refine ksld X hX hbl hbA hV3 (v := y2) (hin 2 (by decide) (by decide)) e2 dL_law_503 ?_
  refine lv_aload_n hx hb dL_law_504 rfl (lv_at hl 3 rfl) ?_
  refine lv_iload_n hx hb dL_law_505 rfl (lv_at hl 0 rfl) ?_
  refine lv_iconst (v := 3) hx hb dL_law_506 (by decide) ?_
  refine lv_iadd hx hb dL_law_507 ?_
  refine ksld X hX hbl hbA hV3 (v := y3) (hin 3 (by decide) (by decide)) e3 dL_law_508 ?_
  have hV4 := lopen lq_X12_height hV3
  clear hV3
  refine kgoiT (krunV (rest := []) X hV4 (List.range _) (c_X12_height l E _ (ad 42) (ad 58) (ad 48) (ad 49) (ad 46) (ad 47) (ad 57) (ad 44) (ad 59) (ad 45) (ad 62) (ad 60) (ad 56) (.ref (ad 43)) (.int (σ 42 1)) (.int (σ 42 4)) (.int (σ 42 5)) (.int (σ 42 6)) (.ref (ad 50)) (.ref (ad 51)) (.ref (ad 52)) (.ref (ad 53)) (.ref (ad 54)) (.int (σ 42 18)) (.int (σ 42 19)) (.int (σ 42 20)) (.int (σ 42 21)) (.int (σ 42 22)) (.int (σ 42 23)) (.int (σ 42 24)) (.int (σ 42 25)) (.int (σ 42 26)) (.ref (ad 55)) (.ref (ad 61)) (.int (σ 42 48)) (.int (σ 42 49)) (.ref (ad 63)) (.ref (ad 64)) (.ref (ad 65)) (.ref (ad 66)) (.ref (ad 67)) (.ref (ad 68)) (.ref (ad 69)) (.ref (ad 70)) (.ref (ad 71)) (.ref (ad 72)) (.int (σ 42 60)) (.int (σ 42 61)) (.int (σ 42 62)) (.ref (ad 73)) (.ref (ad 74)) (.ref (ad 75)) (.ref (ad 76)) (σ 42 2) (σ 42 3) (σ 42 28) (σ 42 29) (σ 42 30) (σ 42 31) (σ 42 32) (σ 42 33) (σ 42 34) (σ 42 35) (σ 42 36) (σ 42 37) (σ 42 38) (σ 42 39) (σ 42 40) (σ 58) (σ 48) (σ 49) (σ 46) (σ 47) (σ 57) (σ 44) (σ 59) (σ 45) (σ 62) (σ 60) (σ 56) y1 y2 y3 rm m_o_atA m_o_atB m_o_atD m_o_atF m_o_atG m_o_atH m_o_atL m_o_atM m_o_atN m_o_atS m_o_atT m_o_atU m_o_atX m_o_isRefused m_o_worth hfm) mw_692 kb_X12_height (ci := 12) rfl rfl (kndR _) (krg _ _) rfl hl.1 rfl (Nat.le_of_ble_eq_true rfl) dL_law_509 ⟨rfl, rfl, (by decide), (by decide), (by show cells + 0 + 0 ≤ 600000; omega), (by show slots + 0 + 0 ≤ 7302250; omega)⟩) X hV4 (fun u H locs hV5 => ?_)
  have hV6 : kV E A s.heap H locs (lWd E ad (lus (lus σ [(11, x_o_sky_reckoner_letters), (12, x_o_sky_reckoner_values)]) [(42, (upd (upd (upd (upd (upd (upd (upd (upd (upd (upd (upd (upd (upd (σ 42) 28 m_o_atA) 29 m_o_atB) 30 m_o_atD) 31 m_o_atF) 32 m_o_atG) 33 m_o_atH) 34 m_o_atL) 35 m_o_atM) 36 m_o_atN) 37 m_o_atS) 38 m_o_atT) 39 m_o_atU) 40 m_o_atX)), (56, m_o_worth), (57, m_o_isRefused)]) G bv) := lclose lq_X12_height (ks := [42, 56, 57]) rfl (by decide +kernel) rfl hV5
  clear hV4 hV5
  refine lv_pop hx hb dL_law_512 rfl ?_
  refine lv_goto (tgt := 1478) hx hb dL_law_513 (by decide) ?_
  refine W.widen (k := cells + 4) (n := slots + 149) (by omega) (by omega) ?_
  exact T _ _ _ hV6 hl
