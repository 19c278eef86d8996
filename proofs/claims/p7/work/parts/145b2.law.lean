set_option maxHeartbeats 4000000 in
set_option maxRecDepth 100000 in
theorem lc_16 {p : Program} {l : Launch} {e : Env} {s : State} {m : MethodId} {below : List Frame} {meth : Method} {c : Code} {E : kE} {A : Nat → Prop} {b L : Nat} {xs : Nat → Int32} {Q : State → Prop} {H : Heap} {locs : List Loc} {ls : Array Slot} {ad : Nat → Nat} {σ : Nat → Nat → Int32} {G : kG} {bv : Value} {v y1 y2 y3 y4 y5 : Int32} {cells slots : Nat} (X : kC p s m c code 4 RL #[Value.ref b] E A) (hX : va_X b L xs s s.heap) (hbl : b < s.heap.size) (hbA : ¬ A b) (hV : kV E A s.heap H locs (lWd E ad σ G bv)) (hin : ∀ j : Int32, 0 ≤ j.toInt → j.toInt ≤ 5 → vp_in (v + j) L) (e1 : y1 = xs (v + 1).toNatClampNeg) (e2 : y2 = xs (v + 2).toNatClampNeg) (e3 : y3 = xs (v + 3).toNatClampNeg) (e4 : y4 = xs (v + 4).toNatClampNeg) (e5 : y5 = xs (v + 5).toNatClampNeg) (hc : cells + 4 ≤ 600000) (hs : slots + 149 ≤ 7302250) (hl : lv_has ls 4 [(3, .int v), (2, .ref (ad 42)), (1, .ref (ad 0)), (0, .ref b)]) (rx : Int32) (x_o_blips_rests : Nat → Int32) (rm : Int32) (hfx : f_X11_fits (σ 27 2) (σ 29) (σ 28) y1 y2 = some (rx, x_o_blips_rests)) (hfm : f_X12_fits (σ 42 5) (σ 72) y1 y2 = some (rm)) (T : ∀ (H : Heap) (locs : List Loc) (ls : Array Slot), kV E A s.heap H locs (lWd E ad (lus (lus σ [(29, x_o_blips_rests)]) []) G bv) → lv_has ls 4 [(3, .int v), (2, .ref (ad 42)), (1, .ref (ad 0)), (0, .ref b)] → W p l e room_1 s m #[Value.ref b] below meth c H locs (cells + 4) (slots + 149) Q (F0 m 1478 ls [])) : W p l e room_1 s m #[Value.ref b] below meth c H locs cells slots Q (F0 m 840 ls []) := by
  have hx := X.1
  have hb := X.2.1
  refine lv_aload_n hx hb dL_law_840 rfl (lv_at hl 2 rfl) ?_
  refine lv_aload_n hx hb dL_law_841 rfl (lv_at hl 3 rfl) ?_
  refine lv_iload_n hx hb dL_law_842 rfl (lv_at hl 0 rfl) ?_
  refine lv_iconst (v := 1) hx hb dL_law_843 (by decide) ?_
  refine lv_iadd hx hb dL_law_844 ?_
  refine ksld X hX hbl hbA hV (v := y1) (hin 1 (by decide) (by decide)) e1 dL_law_845 ?_
  refine lv_aload_n hx hb dL_law_846 rfl (lv_at hl 3 rfl) ?_
  refine lv_iload_n hx hb dL_law_847 rfl (lv_at hl 0 rfl) ?_
  refine lv_iconst (v := 2) hx hb dL_law_848 (by decide) ?_
  refine lv_iadd hx hb dL_law_849 ?_
  refine ksld X hX hbl hbA hV (v := y2) (hin 2 (by decide) (by decide)) e2 dL_law_850 ?_
  have hV1 := lopen lq_X11_fits hV
  clear hV
  refine kgoiT (krunV (rest := []) X hV1 (List.range _) (c_X11_fits l E _ (ad 0) (ad 27) (ad 29) (ad 28) (.ref (ad 1)) (.ref (ad 3)) (.ref (ad 8)) (.ref (ad 13)) (.ref (ad 21)) (.ref (ad 22)) (.ref (ad 30)) (.ref (ad 38)) (.int (σ 27 3)) (.int (σ 27 4)) (.int (σ 27 5)) (σ 27 2) (σ 29) (σ 28) y1 y2 rx x_o_blips_rests hfx) mw_993 kb_X11_fits (ci := 11) rfl rfl (kndR _) (krg _ _) rfl hl.1 rfl (Nat.le_of_ble_eq_true rfl) dL_law_851 ⟨rfl, rfl, (by decide), (by decide), (by show cells + 0 + 0 ≤ 600000; omega), (by show slots + 0 + 0 ≤ 7302250; omega)⟩) X hV1 (fun u H locs hV2 => ?_)
  have hV3 : kV E A s.heap H locs (lWd E ad (lus σ [(29, x_o_blips_rests)]) G bv) := lclose lq_X11_fits (ks := [29]) rfl (by decide +kernel) rfl hV2
  clear hV1 hV2
  refine lv_pop hx hb dL_law_854 rfl ?_
  refine lv_aload_n hx hb dL_law_855 rfl (lv_at hl 1 rfl) ?_
  refine lv_aload_n hx hb dL_law_856 rfl (lv_at hl 3 rfl) ?_
  refine lv_iload_n hx hb dL_law_857 rfl (lv_at hl 0 rfl) ?_
  refine lv_iconst (v := 1) hx hb dL_law_858 (by decide) ?_
  refine lv_iadd hx hb dL_law_859 ?_
  refine ksld X hX hbl hbA hV3 (v := y1) (hin 1 (by decide) (by decide)) e1 dL_law_860 ?_
  refine lv_aload_n hx hb dL_law_861 rfl (lv_at hl 3 rfl) ?_
  refine lv_iload_n hx hb dL_law_862 rfl (lv_at hl 0 rfl) ?_
  refine lv_iconst (v := 2) hx hb dL_law_863 (by decide) ?_
  refine lv_iadd hx hb dL_law_864 ?_
  refine ksld X hX hbl hbA hV3 (v := y2) (hin 2 (by decide) (by decide)) e2 dL_law_865 ?_
  have hV4 := lopen lq_X12_fits hV3
  clear hV3
  refine kgoiT (krunV (rest := []) X hV4 (List.range _) (c_X12_fits l E _ (ad 42) (ad 72) (.ref (ad 43)) (.int (σ 42 1)) (.int (σ 42 2)) (.int (σ 42 3)) (.int (σ 42 4)) (.int (σ 42 6)) (.ref (ad 44)) (.ref (ad 45)) (.ref (ad 46)) (.ref (ad 47)) (.ref (ad 48)) (.ref (ad 49)) (.ref (ad 50)) (.ref (ad 51)) (.ref (ad 52)) (.ref (ad 53)) (.ref (ad 54)) (.int (σ 42 18)) (.int (σ 42 19)) (.int (σ 42 20)) (.int (σ 42 21)) (.int (σ 42 22)) (.int (σ 42 23)) (.int (σ 42 24)) (.int (σ 42 25)) (.int (σ 42 26)) (.ref (ad 55)) (.int (σ 42 28)) (.int (σ 42 29)) (.int (σ 42 30)) (.int (σ 42 31)) (.int (σ 42 32)) (.int (σ 42 33)) (.int (σ 42 34)) (.int (σ 42 35)) (.int (σ 42 36)) (.int (σ 42 37)) (.int (σ 42 38)) (.int (σ 42 39)) (.int (σ 42 40)) (.ref (ad 56)) (.ref (ad 57)) (.ref (ad 58)) (.ref (ad 59)) (.ref (ad 60)) (.ref (ad 61)) (.ref (ad 62)) (.int (σ 42 48)) (.int (σ 42 49)) (.ref (ad 63)) (.ref (ad 64)) (.ref (ad 65)) (.ref (ad 66)) (.ref (ad 67)) (.ref (ad 68)) (.ref (ad 69)) (.ref (ad 70)) (.ref (ad 71)) (.int (σ 42 60)) (.int (σ 42 61)) (.int (σ 42 62)) (.ref (ad 73)) (.ref (ad 74)) (.ref (ad 75)) (.ref (ad 76)) (σ 42 5) (σ 72) y1 y2 rm hfm) mw_1006 kb_X12_fits (ci := 12) rfl rfl (kndR _) (krg _ _) rfl hl.1 rfl (Nat.le_of_ble_eq_true rfl) dL_law_866 ⟨rfl, rfl, (by decide), (by decide), (by show cells + 0 + 0 ≤ 600000; omega), (by show slots + 0 + 0 ≤ 7302250; omega)⟩) X hV4 (fun u H locs hV5 => ?_)
  have hV6 : kV E A s.heap H locs (lWd E ad (lus (lus σ [(29, x_o_blips_rests)]) []) G bv) := lclose lq_X12_fits (ks := []) rfl (by decide +kernel) rfl hV5
  clear hV4 hV5
  refine lv_pop hx hb dL_law_869 rfl ?_
  refine lv_goto (tgt := 1478) hx hb dL_law_870 (by decide) ?_
  refine W.widen (k := cells + 4) (n := slots + 149) (by omega) (by omega) ?_
  exact T _ _ _ hV6 hl
set_option maxHeartbeats 4000000 in
set_option maxRecDepth 100000 in
theorem lc_17 {p : Program} {l : Launch} {e : Env} {s : State} {m : MethodId} {below : List Frame} {meth : Method} {c : Code} {E : kE} {A : Nat → Prop} {b L : Nat} {xs : Nat → Int32} {Q : State → Prop} {H : Heap} {locs : List Loc} {ls : Array Slot} {ad : Nat → Nat} {σ : Nat → Nat → Int32} {G : kG} {bv : Value} {v y1 y2 y3 y4 y5 : Int32} {cells slots : Nat} (X : kC p s m c code 4 RL #[Value.ref b] E A) (hX : va_X b L xs s s.heap) (hbl : b < s.heap.size) (hbA : ¬ A b) (hV : kV E A s.heap H locs (lWd E ad σ G bv)) (hin : ∀ j : Int32, 0 ≤ j.toInt → j.toInt ≤ 5 → vp_in (v + j) L) (e1 : y1 = xs (v + 1).toNatClampNeg) (e2 : y2 = xs (v + 2).toNatClampNeg) (e3 : y3 = xs (v + 3).toNatClampNeg) (e4 : y4 = xs (v + 4).toNatClampNeg) (e5 : y5 = xs (v + 5).toNatClampNeg) (hc : cells + 4 ≤ 600000) (hs : slots + 149 ≤ 7302250) (hl : lv_has ls 4 [(3, .int v), (2, .ref (ad 42)), (1, .ref (ad 0)), (0, .ref b)]) (rx : Int32) (x_o_blips_fitting : Int32) (x_o_blips_least : Int32) (x_o_blips_greatest : Int32) (x_o_blips_rests : Nat → Int32) (rm : Int32) (m_o_fitMany : Int32) (m_o_fitLeast : Int32) (m_o_fitMost : Int32) (hfx : f_X11_beats (σ 27 2) (σ 27 3) (σ 27 4) (σ 27 5) (σ 29) (σ 28) y1 y2 y3 y4 = some (rx, x_o_blips_fitting, x_o_blips_least, x_o_blips_greatest, x_o_blips_rests)) (hfm : f_X12_beats (σ 42 5) (σ 42 60) (σ 42 61) (σ 42 62) (σ 72) y1 y2 y3 y4 = some (rm, m_o_fitMany, m_o_fitLeast, m_o_fitMost)) (T : ∀ (H : Heap) (locs : List Loc) (ls : Array Slot), kV E A s.heap H locs (lWd E ad (lus (lus σ [(27, (upd (upd (upd (σ 27) 3 x_o_blips_fitting) 4 x_o_blips_least) 5 x_o_blips_greatest)), (29, x_o_blips_rests)]) [(42, (upd (upd (upd (σ 42) 60 m_o_fitMany) 61 m_o_fitLeast) 62 m_o_fitMost))]) G bv) → lv_has ls 4 [(3, .int v), (2, .ref (ad 42)), (1, .ref (ad 0)), (0, .ref b)] → W p l e room_1 s m #[Value.ref b] below meth c H locs (cells + 4) (slots + 149) Q (F0 m 1478 ls [])) : W p l e room_1 s m #[Value.ref b] below meth c H locs cells slots Q (F0 m 873 ls []) := by
  have hx := X.1
  have hb := X.2.1
  refine lv_aload_n hx hb dL_law_873 rfl (lv_at hl 2 rfl) ?_
  refine lv_aload_n hx hb dL_law_874 rfl (lv_at hl 3 rfl) ?_
  refine lv_iload_n hx hb dL_law_875 rfl (lv_at hl 0 rfl) ?_
  refine lv_iconst (v := 1) hx hb dL_law_876 (by decide) ?_
  refine lv_iadd hx hb dL_law_877 ?_
  refine ksld X hX hbl hbA hV (v := y1) (hin 1 (by decide) (by decide)) e1 dL_law_878 ?_
  refine lv_aload_n hx hb dL_law_879 rfl (lv_at hl 3 rfl) ?_
  refine lv_iload_n hx hb dL_law_880 rfl (lv_at hl 0 rfl) ?_
  refine lv_iconst (v := 2) hx hb dL_law_881 (by decide) ?_
  refine lv_iadd hx hb dL_law_882 ?_
  refine ksld X hX hbl hbA hV (v := y2) (hin 2 (by decide) (by decide)) e2 dL_law_883 ?_
  refine lv_aload_n hx hb dL_law_884 rfl (lv_at hl 3 rfl) ?_
  refine lv_iload_n hx hb dL_law_885 rfl (lv_at hl 0 rfl) ?_
  refine lv_iconst (v := 3) hx hb dL_law_886 (by decide) ?_
  refine lv_iadd hx hb dL_law_887 ?_
  refine ksld X hX hbl hbA hV (v := y3) (hin 3 (by decide) (by decide)) e3 dL_law_888 ?_
  refine lv_aload_n hx hb dL_law_889 rfl (lv_at hl 3 rfl) ?_
  refine lv_iload_n hx hb dL_law_890 rfl (lv_at hl 0 rfl) ?_
  refine lv_iconst (v := 4) hx hb dL_law_891 (by decide) ?_
  refine lv_iadd hx hb dL_law_892 ?_
  refine ksld X hX hbl hbA hV (v := y4) (hin 4 (by decide) (by decide)) e4 dL_law_893 ?_
  have hV1 := lopen lq_X11_beats hV
  clear hV
  refine kgoiT (krunV (rest := []) X hV1 (List.range _) (c_X11_beats l E _ (ad 0) (ad 27) (ad 29) (ad 28) (.ref (ad 1)) (.ref (ad 3)) (.ref (ad 8)) (.ref (ad 13)) (.ref (ad 21)) (.ref (ad 22)) (.ref (ad 30)) (.ref (ad 38)) (σ 27 2) (σ 27 3) (σ 27 4) (σ 27 5) (σ 29) (σ 28) y1 y2 y3 y4 rx x_o_blips_fitting x_o_blips_least x_o_blips_greatest x_o_blips_rests hfx) mw_1019 kb_X11_beats (ci := 11) rfl rfl (kndR _) (krg _ _) rfl hl.1 rfl (Nat.le_of_ble_eq_true rfl) dL_law_894 ⟨rfl, rfl, (by decide), (by decide), (by show cells + 0 + 0 ≤ 600000; omega), (by show slots + 0 + 0 ≤ 7302250; omega)⟩) X hV1 (fun u H locs hV2 => ?_)
  have hV3 : kV E A s.heap H locs (lWd E ad (lus σ [(27, (upd (upd (upd (σ 27) 3 x_o_blips_fitting) 4 x_o_blips_least) 5 x_o_blips_greatest)), (29, x_o_blips_rests)]) G bv) := lclose lq_X11_beats (ks := [27, 29]) rfl (by decide +kernel) rfl hV2
  clear hV1 hV2
  refine lv_pop hx hb dL_law_897 rfl ?_
  refine lv_aload_n hx hb dL_law_898 rfl (lv_at hl 1 rfl) ?_
  refine lv_aload_n hx hb dL_law_899 rfl (lv_at hl 3 rfl) ?_
  refine lv_iload_n hx hb dL_law_900 rfl (lv_at hl 0 rfl) ?_
  refine lv_iconst (v := 1) hx hb dL_law_901 (by decide) ?_
  refine lv_iadd hx hb dL_law_902 ?_
  refine ksld X hX hbl hbA hV3 (v := y1) (hin 1 (by decide) (by decide)) e1 dL_law_903 ?_
  refine lv_aload_n hx hb dL_law_904 rfl (lv_at hl 3 rfl) ?_
  refine lv_iload_n hx hb dL_law_905 rfl (lv_at hl 0 rfl) ?_
  refine lv_iconst (v := 2) hx hb dL_law_906 (by decide) ?_
  refine lv_iadd hx hb dL_law_907 ?_
  refine ksld X hX hbl hbA hV3 (v := y2) (hin 2 (by decide) (by decide)) e2 dL_law_908 ?_
  refine lv_aload_n hx hb dL_law_909 rfl (lv_at hl 3 rfl) ?_
  refine lv_iload_n hx hb dL_law_910 rfl (lv_at hl 0 rfl) ?_
  refine lv_iconst (v := 3) hx hb dL_law_911 (by decide) ?_
  refine lv_iadd hx hb dL_law_912 ?_
  refine ksld X hX hbl hbA hV3 (v := y3) (hin 3 (by decide) (by decide)) e3 dL_law_913 ?_
  refine lv_aload_n hx hb dL_law_914 rfl (lv_at hl 3 rfl) ?_
  refine lv_iload_n hx hb dL_law_915 rfl (lv_at hl 0 rfl) ?_
  refine lv_iconst (v := 4) hx hb dL_law_916 (by decide) ?_
  refine lv_iadd hx hb dL_law_917 ?_
  refine ksld X hX hbl hbA hV3 (v := y4) (hin 4 (by decide) (by decide)) e4 dL_law_918 ?_
  have hV4 := lopen lq_X12_beats hV3
  clear hV3
  refine kgoiT (krunV (rest := []) X hV4 (List.range _) (c_X12_beats l E _ (ad 42) (ad 72) (.ref (ad 43)) (.int (σ 42 1)) (.int (σ 42 2)) (.int (σ 42 3)) (.int (σ 42 4)) (.int (σ 42 6)) (.ref (ad 44)) (.ref (ad 45)) (.ref (ad 46)) (.ref (ad 47)) (.ref (ad 48)) (.ref (ad 49)) (.ref (ad 50)) (.ref (ad 51)) (.ref (ad 52)) (.ref (ad 53)) (.ref (ad 54)) (.int (σ 42 18)) (.int (σ 42 19)) (.int (σ 42 20)) (.int (σ 42 21)) (.int (σ 42 22)) (.int (σ 42 23)) (.int (σ 42 24)) (.int (σ 42 25)) (.int (σ 42 26)) (.ref (ad 55)) (.int (σ 42 28)) (.int (σ 42 29)) (.int (σ 42 30)) (.int (σ 42 31)) (.int (σ 42 32)) (.int (σ 42 33)) (.int (σ 42 34)) (.int (σ 42 35)) (.int (σ 42 36)) (.int (σ 42 37)) (.int (σ 42 38)) (.int (σ 42 39)) (.int (σ 42 40)) (.ref (ad 56)) (.ref (ad 57)) (.ref (ad 58)) (.ref (ad 59)) (.ref (ad 60)) (.ref (ad 61)) (.ref (ad 62)) (.int (σ 42 48)) (.int (σ 42 49)) (.ref (ad 63)) (.ref (ad 64)) (.ref (ad 65)) (.ref (ad 66)) (.ref (ad 67)) (.ref (ad 68)) (.ref (ad 69)) (.ref (ad 70)) (.ref (ad 71)) (.ref (ad 73)) (.ref (ad 74)) (.ref (ad 75)) (.ref (ad 76)) (σ 42 5) (σ 42 60) (σ 42 61) (σ 42 62) (σ 72) y1 y2 y3 y4 rm m_o_fitMany m_o_fitLeast m_o_fitMost hfm) mw_1035 kb_X12_beats (ci := 12) rfl rfl (kndR _) (krg _ _) rfl hl.1 rfl (Nat.le_of_ble_eq_true rfl) dL_law_919 ⟨rfl, rfl, (by decide), (by decide), (by show cells + 0 + 0 ≤ 600000; omega), (by show slots + 0 + 0 ≤ 7302250; omega)⟩) X hV4 (fun u H locs hV5 => ?_)
  have hV6 : kV E A s.heap H locs (lWd E ad (lus (lus σ [(27, (upd (upd (upd (σ 27) 3 x_o_blips_fitting) 4 x_o_blips_least) 5 x_o_blips_greatest)), (29, x_o_blips_rests)]) [(42, (upd (upd (upd (σ 42) 60 m_o_fitMany) 61 m_o_fitLeast) 62 m_o_fitMost))]) G bv) := lclose lq_X12_beats (ks := [42]) rfl (by decide +kernel) rfl hV5
  clear hV4 hV5
  refine lv_pop hx hb dL_law_922 rfl ?_
  refine lv_goto (tgt := 1478) hx hb dL_law_923 (by decide) ?_
  refine W.widen (k := cells + 4) (n := slots + 149) (by omega) (by omega) ?_
  exact T _ _ _ hV6 hl
set_option maxHeartbeats 4000000 in
set_option maxRecDepth 100000 in
theorem lc_18 {p : Program} {l : Launch} {e : Env} {s : State} {m : MethodId} {below : List Frame} {meth : Method} {c : Code} {E : kE} {A : Nat → Prop} {b L : Nat} {xs : Nat → Int32} {Q : State → Prop} {H : Heap} {locs : List Loc} {ls : Array Slot} {ad : Nat → Nat} {σ : Nat → Nat → Int32} {G : kG} {bv : Value} {v y1 y2 y3 y4 y5 : Int32} {cells slots : Nat} (X : kC p s m c code 4 RL #[Value.ref b] E A) (hX : va_X b L xs s s.heap) (hbl : b < s.heap.size) (hbA : ¬ A b) (hV : kV E A s.heap H locs (lWd E ad σ G bv)) (hin : ∀ j : Int32, 0 ≤ j.toInt → j.toInt ≤ 5 → vp_in (v + j) L) (e1 : y1 = xs (v + 1).toNatClampNeg) (e2 : y2 = xs (v + 2).toNatClampNeg) (e3 : y3 = xs (v + 3).toNatClampNeg) (e4 : y4 = xs (v + 4).toNatClampNeg) (e5 : y5 = xs (v + 5).toNatClampNeg) (hc : cells + 4 ≤ 600000) (hs : slots + 149 ≤ 7302250) (hl : lv_has ls 4 [(3, .int v), (2, .ref (ad 42)), (1, .ref (ad 0)), (0, .ref b)]) (rx : Int32) (rm : Int32) (hfx : f_X11_counted (σ 27 2) (σ 28) y1 y2 = some (rx)) (hfm : f_X12_counted (σ 42 5) (σ 72) y1 y2 = some (rm)) (T : ∀ (H : Heap) (locs : List Loc) (ls : Array Slot), kV E A s.heap H locs (lWd E ad (lus (lus σ []) []) G bv) → lv_has ls 4 [(3, .int v), (2, .ref (ad 42)), (1, .ref (ad 0)), (0, .ref b)] → W p l e room_1 s m #[Value.ref b] below meth c H locs (cells + 4) (slots + 149) Q (F0 m 1478 ls [])) : W p l e room_1 s m #[Value.ref b] below meth c H locs cells slots Q (F0 m 926 ls []) := by
  have hx := X.1
  have hb := X.2.1
  refine lv_aload_n hx hb dL_law_926 rfl (lv_at hl 2 rfl) ?_
  refine lv_aload_n hx hb dL_law_927 rfl (lv_at hl 3 rfl) ?_
  refine lv_iload_n hx hb dL_law_928 rfl (lv_at hl 0 rfl) ?_
  refine lv_iconst (v := 1) hx hb dL_law_929 (by decide) ?_
  refine lv_iadd hx hb dL_law_930 ?_
  refine ksld X hX hbl hbA hV (v := y1) (hin 1 (by decide) (by decide)) e1 dL_law_931 ?_
  refine lv_aload_n hx hb dL_law_932 rfl (lv_at hl 3 rfl) ?_
  refine lv_iload_n hx hb dL_law_933 rfl (lv_at hl 0 rfl) ?_
  refine lv_iconst (v := 2) hx hb dL_law_934 (by decide) ?_
  refine lv_iadd hx hb dL_law_935 ?_
  refine ksld X hX hbl hbA hV (v := y2) (hin 2 (by decide) (by decide)) e2 dL_law_936 ?_
  have hV1 := lopen lq_X11_counted hV
  clear hV
  refine kgoiT (krunV (rest := []) X hV1 (List.range _) (c_X11_counted l E _ (ad 0) (ad 27) (ad 28) (.ref (ad 1)) (.ref (ad 3)) (.ref (ad 8)) (.ref (ad 13)) (.ref (ad 21)) (.ref (ad 22)) (.ref (ad 30)) (.ref (ad 38)) (.ref (ad 29)) (.int (σ 27 3)) (.int (σ 27 4)) (.int (σ 27 5)) (σ 27 2) (σ 28) y1 y2 rx hfx) mw_1050 kb_X11_counted (ci := 11) rfl rfl (kndR _) (krg _ _) rfl hl.1 rfl (Nat.le_of_ble_eq_true rfl) dL_law_937 ⟨rfl, rfl, (by decide), (by decide), (by show cells + 0 + 0 ≤ 600000; omega), (by show slots + 0 + 0 ≤ 7302250; omega)⟩) X hV1 (fun u H locs hV2 => ?_)
  have hV3 : kV E A s.heap H locs (lWd E ad (lus σ []) G bv) := lclose lq_X11_counted (ks := []) rfl (by decide +kernel) rfl hV2
  clear hV1 hV2
  refine lv_pop hx hb dL_law_940 rfl ?_
  refine lv_aload_n hx hb dL_law_941 rfl (lv_at hl 1 rfl) ?_
  refine lv_aload_n hx hb dL_law_942 rfl (lv_at hl 3 rfl) ?_
  refine lv_iload_n hx hb dL_law_943 rfl (lv_at hl 0 rfl) ?_
  refine lv_iconst (v := 1) hx hb dL_law_944 (by decide) ?_
  refine lv_iadd hx hb dL_law_945 ?_
  refine ksld X hX hbl hbA hV3 (v := y1) (hin 1 (by decide) (by decide)) e1 dL_law_946 ?_
  refine lv_aload_n hx hb dL_law_947 rfl (lv_at hl 3 rfl) ?_
  refine lv_iload_n hx hb dL_law_948 rfl (lv_at hl 0 rfl) ?_
  refine lv_iconst (v := 2) hx hb dL_law_949 (by decide) ?_
  refine lv_iadd hx hb dL_law_950 ?_
  refine ksld X hX hbl hbA hV3 (v := y2) (hin 2 (by decide) (by decide)) e2 dL_law_951 ?_
  have hV4 := lopen lq_X12_counted hV3
  clear hV3
  refine kgoiT (krunV (rest := []) X hV4 (List.range _) (c_X12_counted l E _ (ad 42) (ad 72) (.ref (ad 43)) (.int (σ 42 1)) (.int (σ 42 2)) (.int (σ 42 3)) (.int (σ 42 4)) (.int (σ 42 6)) (.ref (ad 44)) (.ref (ad 45)) (.ref (ad 46)) (.ref (ad 47)) (.ref (ad 48)) (.ref (ad 49)) (.ref (ad 50)) (.ref (ad 51)) (.ref (ad 52)) (.ref (ad 53)) (.ref (ad 54)) (.int (σ 42 18)) (.int (σ 42 19)) (.int (σ 42 20)) (.int (σ 42 21)) (.int (σ 42 22)) (.int (σ 42 23)) (.int (σ 42 24)) (.int (σ 42 25)) (.int (σ 42 26)) (.ref (ad 55)) (.int (σ 42 28)) (.int (σ 42 29)) (.int (σ 42 30)) (.int (σ 42 31)) (.int (σ 42 32)) (.int (σ 42 33)) (.int (σ 42 34)) (.int (σ 42 35)) (.int (σ 42 36)) (.int (σ 42 37)) (.int (σ 42 38)) (.int (σ 42 39)) (.int (σ 42 40)) (.ref (ad 56)) (.ref (ad 57)) (.ref (ad 58)) (.ref (ad 59)) (.ref (ad 60)) (.ref (ad 61)) (.ref (ad 62)) (.int (σ 42 48)) (.int (σ 42 49)) (.ref (ad 63)) (.ref (ad 64)) (.ref (ad 65)) (.ref (ad 66)) (.ref (ad 67)) (.ref (ad 68)) (.ref (ad 69)) (.ref (ad 70)) (.ref (ad 71)) (.int (σ 42 60)) (.int (σ 42 61)) (.int (σ 42 62)) (.ref (ad 73)) (.ref (ad 74)) (.ref (ad 75)) (.ref (ad 76)) (σ 42 5) (σ 72) y1 y2 rm hfm) mw_1059 kb_X12_counted (ci := 12) rfl rfl (kndR _) (krg _ _) rfl hl.1 rfl (Nat.le_of_ble_eq_true rfl) dL_law_952 ⟨rfl, rfl, (by decide), (by decide), (by show cells + 0 + 0 ≤ 600000; omega), (by show slots + 0 + 0 ≤ 7302250; omega)⟩) X hV4 (fun u H locs hV5 => ?_)
  have hV6 : kV E A s.heap H locs (lWd E ad (lus (lus σ []) []) G bv) := lclose lq_X12_counted (ks := []) rfl (by decide +kernel) rfl hV5
  clear hV4 hV5
  refine lv_pop hx hb dL_law_955 rfl ?_
  refine lv_goto (tgt := 1478) hx hb dL_law_956 (by decide) ?_
  refine W.widen (k := cells + 4) (n := slots + 149) (by omega) (by omega) ?_
  exact T _ _ _ hV6 hl
set_option maxHeartbeats 4000000 in
set_option maxRecDepth 100000 in
theorem lc_19 {p : Program} {l : Launch} {e : Env} {s : State} {m : MethodId} {below : List Frame} {meth : Method} {c : Code} {E : kE} {A : Nat → Prop} {b L : Nat} {xs : Nat → Int32} {Q : State → Prop} {H : Heap} {locs : List Loc} {ls : Array Slot} {ad : Nat → Nat} {σ : Nat → Nat → Int32} {G : kG} {bv : Value} {v y1 y2 y3 y4 y5 : Int32} {cells slots : Nat} (X : kC p s m c code 4 RL #[Value.ref b] E A) (hX : va_X b L xs s s.heap) (hbl : b < s.heap.size) (hbA : ¬ A b) (hV : kV E A s.heap H locs (lWd E ad σ G bv)) (hin : ∀ j : Int32, 0 ≤ j.toInt → j.toInt ≤ 5 → vp_in (v + j) L) (e1 : y1 = xs (v + 1).toNatClampNeg) (e2 : y2 = xs (v + 2).toNatClampNeg) (e3 : y3 = xs (v + 3).toNatClampNeg) (e4 : y4 = xs (v + 4).toNatClampNeg) (e5 : y5 = xs (v + 5).toNatClampNeg) (hc : cells + 4 ≤ 600000) (hs : slots + 149 ≤ 7302250) (hl : lv_has ls 4 [(3, .int v), (2, .ref (ad 42)), (1, .ref (ad 0)), (0, .ref b)]) (rx : Int32) (x_o_blips_fitting : Int32) (x_o_blips_least : Int32) (x_o_blips_greatest : Int32) (x_o_blips_rests : Nat → Int32) (rm : Int32) (m_o_fitMany : Int32) (m_o_fitLeast : Int32) (m_o_fitMost : Int32) (hfx : f_X11_sure (σ 27 2) (σ 27 3) (σ 27 4) (σ 27 5) (σ 29) (σ 28) y1 y2 y3 = some (rx, x_o_blips_fitting, x_o_blips_least, x_o_blips_greatest, x_o_blips_rests)) (hfm : f_X12_sure (σ 42 5) (σ 42 60) (σ 42 61) (σ 42 62) (σ 72) y1 y2 y3 = some (rm, m_o_fitMany, m_o_fitLeast, m_o_fitMost)) (T : ∀ (H : Heap) (locs : List Loc) (ls : Array Slot), kV E A s.heap H locs (lWd E ad (lus (lus σ [(27, (upd (upd (upd (σ 27) 3 x_o_blips_fitting) 4 x_o_blips_least) 5 x_o_blips_greatest)), (29, x_o_blips_rests)]) [(42, (upd (upd (upd (σ 42) 60 m_o_fitMany) 61 m_o_fitLeast) 62 m_o_fitMost))]) G bv) → lv_has ls 4 [(3, .int v), (2, .ref (ad 42)), (1, .ref (ad 0)), (0, .ref b)] → W p l e room_1 s m #[Value.ref b] below meth c H locs (cells + 4) (slots + 149) Q (F0 m 1478 ls [])) : W p l e room_1 s m #[Value.ref b] below meth c H locs cells slots Q (F0 m 959 ls []) := by
  have hx := X.1
  have hb := X.2.1
  refine lv_aload_n hx hb dL_law_959 rfl (lv_at hl 2 rfl) ?_
  refine lv_aload_n hx hb dL_law_960 rfl (lv_at hl 3 rfl) ?_
  refine lv_iload_n hx hb dL_law_961 rfl (lv_at hl 0 rfl) ?_
  refine lv_iconst (v := 1) hx hb dL_law_962 (by decide) ?_
  refine lv_iadd hx hb dL_law_963 ?_
  refine ksld X hX hbl hbA hV (v := y1) (hin 1 (by decide) (by decide)) e1 dL_law_964 ?_
  refine lv_aload_n hx hb dL_law_965 rfl (lv_at hl 3 rfl) ?_
  refine lv_iload_n hx hb dL_law_966 rfl (lv_at hl 0 rfl) ?_
  refine lv_iconst (v := 2) hx hb dL_law_967 (by decide) ?_
  refine lv_iadd hx hb dL_law_968 ?_
  refine ksld X hX hbl hbA hV (v := y2) (hin 2 (by decide) (by decide)) e2 dL_law_969 ?_
  refine lv_aload_n hx hb dL_law_970 rfl (lv_at hl 3 rfl) ?_
  refine lv_iload_n hx hb dL_law_971 rfl (lv_at hl 0 rfl) ?_
  refine lv_iconst (v := 3) hx hb dL_law_972 (by decide) ?_
  refine lv_iadd hx hb dL_law_973 ?_
  refine ksld X hX hbl hbA hV (v := y3) (hin 3 (by decide) (by decide)) e3 dL_law_974 ?_
  have hV1 := lopen lq_X11_sure hV
  clear hV
  refine kgoiT (krunV (rest := []) X hV1 (List.range _) (c_X11_sure l E _ (ad 0) (ad 27) (ad 29) (ad 28) (.ref (ad 1)) (.ref (ad 3)) (.ref (ad 8)) (.ref (ad 13)) (.ref (ad 21)) (.ref (ad 22)) (.ref (ad 30)) (.ref (ad 38)) (σ 27 2) (σ 27 3) (σ 27 4) (σ 27 5) (σ 29) (σ 28) y1 y2 y3 rx x_o_blips_fitting x_o_blips_least x_o_blips_greatest x_o_blips_rests hfx) mw_1067 kb_X11_sure (ci := 11) rfl rfl (kndR _) (krg _ _) rfl hl.1 rfl (Nat.le_of_ble_eq_true rfl) dL_law_975 ⟨rfl, rfl, (by decide), (by decide), (by show cells + 0 + 0 ≤ 600000; omega), (by show slots + 0 + 0 ≤ 7302250; omega)⟩) X hV1 (fun u H locs hV2 => ?_)
  have hV3 : kV E A s.heap H locs (lWd E ad (lus σ [(27, (upd (upd (upd (σ 27) 3 x_o_blips_fitting) 4 x_o_blips_least) 5 x_o_blips_greatest)), (29, x_o_blips_rests)]) G bv) := lclose lq_X11_sure (ks := [27, 29]) rfl (by decide +kernel) rfl hV2
  clear hV1 hV2
  refine lv_pop hx hb dL_law_978 rfl ?_
  refine lv_aload_n hx hb dL_law_979 rfl (lv_at hl 1 rfl) ?_
  refine lv_aload_n hx hb dL_law_980 rfl (lv_at hl 3 rfl) ?_
  refine lv_iload_n hx hb dL_law_981 rfl (lv_at hl 0 rfl) ?_
  refine lv_iconst (v := 1) hx hb dL_law_982 (by decide) ?_
  refine lv_iadd hx hb dL_law_983 ?_
  refine ksld X hX hbl hbA hV3 (v := y1) (hin 1 (by decide) (by decide)) e1 dL_law_984 ?_
  refine lv_aload_n hx hb dL_law_985 rfl (lv_at hl 3 rfl) ?_
  refine lv_iload_n hx hb dL_law_986 rfl (lv_at hl 0 rfl) ?_
  refine lv_iconst (v := 2) hx hb dL_law_987 (by decide) ?_
  refine lv_iadd hx hb dL_law_988 ?_
  refine ksld X hX hbl hbA hV3 (v := y2) (hin 2 (by decide) (by decide)) e2 dL_law_989 ?_
  refine lv_aload_n hx hb dL_law_990 rfl (lv_at hl 3 rfl) ?_
  refine lv_iload_n hx hb dL_law_991 rfl (lv_at hl 0 rfl) ?_
  refine lv_iconst (v := 3) hx hb dL_law_992 (by decide) ?_
  refine lv_iadd hx hb dL_law_993 ?_
  refine ksld X hX hbl hbA hV3 (v := y3) (hin 3 (by decide) (by decide)) e3 dL_law_994 ?_
  have hV4 := lopen lq_X12_sure hV3
  clear hV3
  refine kgoiT (krunV (rest := []) X hV4 (List.range _) (c_X12_sure l E _ (ad 42) (ad 72) (.ref (ad 43)) (.int (σ 42 1)) (.int (σ 42 2)) (.int (σ 42 3)) (.int (σ 42 4)) (.int (σ 42 6)) (.ref (ad 44)) (.ref (ad 45)) (.ref (ad 46)) (.ref (ad 47)) (.ref (ad 48)) (.ref (ad 49)) (.ref (ad 50)) (.ref (ad 51)) (.ref (ad 52)) (.ref (ad 53)) (.ref (ad 54)) (.int (σ 42 18)) (.int (σ 42 19)) (.int (σ 42 20)) (.int (σ 42 21)) (.int (σ 42 22)) (.int (σ 42 23)) (.int (σ 42 24)) (.int (σ 42 25)) (.int (σ 42 26)) (.ref (ad 55)) (.int (σ 42 28)) (.int (σ 42 29)) (.int (σ 42 30)) (.int (σ 42 31)) (.int (σ 42 32)) (.int (σ 42 33)) (.int (σ 42 34)) (.int (σ 42 35)) (.int (σ 42 36)) (.int (σ 42 37)) (.int (σ 42 38)) (.int (σ 42 39)) (.int (σ 42 40)) (.ref (ad 56)) (.ref (ad 57)) (.ref (ad 58)) (.ref (ad 59)) (.ref (ad 60)) (.ref (ad 61)) (.ref (ad 62)) (.int (σ 42 48)) (.int (σ 42 49)) (.ref (ad 63)) (.ref (ad 64)) (.ref (ad 65)) (.ref (ad 66)) (.ref (ad 67)) (.ref (ad 68)) (.ref (ad 69)) (.ref (ad 70)) (.ref (ad 71)) (.ref (ad 73)) (.ref (ad 74)) (.ref (ad 75)) (.ref (ad 76)) (σ 42 5) (σ 42 60) (σ 42 61) (σ 42 62) (σ 72) y1 y2 y3 rm m_o_fitMany m_o_fitLeast m_o_fitMost hfm) mw_1076 kb_X12_sure (ci := 12) rfl rfl (kndR _) (krg _ _) rfl hl.1 rfl (Nat.le_of_ble_eq_true rfl) dL_law_995 ⟨rfl, rfl, (by decide), (by decide), (by show cells + 0 + 0 ≤ 600000; omega), (by show slots + 0 + 0 ≤ 7302250; omega)⟩) X hV4 (fun u H locs hV5 => ?_)
  have hV6 : kV E A s.heap H locs (lWd E ad (lus (lus σ [(27, (upd (upd (upd (σ 27) 3 x_o_blips_fitting) 4 x_o_blips_least) 5 x_o_blips_greatest)), (29, x_o_blips_rests)]) [(42, (upd (upd (upd (σ 42) 60 m_o_fitMany) 61 m_o_fitLeast) 62 m_o_fitMost))]) G bv) := lclose lq_X12_sure (ks := [42]) rfl (by decide +kernel) rfl hV5
  clear hV4 hV5
  refine lv_pop hx hb dL_law_998 rfl ?_
  refine lv_goto (tgt := 1478) hx hb dL_law_999 (by decide) ?_
  refine W.widen (k := cells + 4) (n := slots + 149) (by omega) (by omega) ?_
  exact T _ _ _ hV6 hl
set_option maxHeartbeats 4000000 in
set_option maxRecDepth 100000 in
theorem lc_20 {p : Program} {l : Launch} {e : Env} {s : State} {m : MethodId} {below : List Frame} {meth : Method} {c : Code} {E : kE} {A : Nat → Prop} {b L : Nat} {xs : Nat → Int32} {Q : State → Prop} {H : Heap} {locs : List Loc} {ls : Array Slot} {ad : Nat → Nat} {σ : Nat → Nat → Int32} {G : kG} {bv : Value} {v y1 y2 y3 y4 y5 : Int32} {cells slots : Nat} (X : kC p s m c code 4 RL #[Value.ref b] E A) (hX : va_X b L xs s s.heap) (hbl : b < s.heap.size) (hbA : ¬ A b) (hV : kV E A s.heap H locs (lWd E ad σ G bv)) (hin : ∀ j : Int32, 0 ≤ j.toInt → j.toInt ≤ 5 → vp_in (v + j) L) (e1 : y1 = xs (v + 1).toNatClampNeg) (e2 : y2 = xs (v + 2).toNatClampNeg) (e3 : y3 = xs (v + 3).toNatClampNeg) (e4 : y4 = xs (v + 4).toNatClampNeg) (e5 : y5 = xs (v + 5).toNatClampNeg) (hc : cells + 4 ≤ 600000) (hs : slots + 149 ≤ 7302250) (hl : lv_has ls 4 [(3, .int v), (2, .ref (ad 42)), (1, .ref (ad 0)), (0, .ref b)]) (rx : Int32) (x_o_blips_fitting : Int32) (x_o_blips_least : Int32) (x_o_blips_greatest : Int32) (x_o_blips_rests : Nat → Int32) (rm : Int32) (m_o_fitMany : Int32) (m_o_fitLeast : Int32) (m_o_fitMost : Int32) (hfx : f_X11_lost (σ 27 2) (σ 27 3) (σ 27 4) (σ 27 5) (σ 29) (σ 28) y1 y2 y3 = some (rx, x_o_blips_fitting, x_o_blips_least, x_o_blips_greatest, x_o_blips_rests)) (hfm : f_X12_lost (σ 42 5) (σ 42 60) (σ 42 61) (σ 42 62) (σ 72) y1 y2 y3 = some (rm, m_o_fitMany, m_o_fitLeast, m_o_fitMost)) (T : ∀ (H : Heap) (locs : List Loc) (ls : Array Slot), kV E A s.heap H locs (lWd E ad (lus (lus σ [(27, (upd (upd (upd (σ 27) 3 x_o_blips_fitting) 4 x_o_blips_least) 5 x_o_blips_greatest)), (29, x_o_blips_rests)]) [(42, (upd (upd (upd (σ 42) 60 m_o_fitMany) 61 m_o_fitLeast) 62 m_o_fitMost))]) G bv) → lv_has ls 4 [(3, .int v), (2, .ref (ad 42)), (1, .ref (ad 0)), (0, .ref b)] → W p l e room_1 s m #[Value.ref b] below meth c H locs (cells + 4) (slots + 149) Q (F0 m 1478 ls [])) : W p l e room_1 s m #[Value.ref b] below meth c H locs cells slots Q (F0 m 1002 ls []) := by
  have hx := X.1
  have hb := X.2.1
  refine lv_aload_n hx hb dL_law_1002 rfl (lv_at hl 2 rfl) ?_
  refine lv_aload_n hx hb dL_law_1003 rfl (lv_at hl 3 rfl) ?_
  refine lv_iload_n hx hb dL_law_1004 rfl (lv_at hl 0 rfl) ?_
  refine lv_iconst (v := 1) hx hb dL_law_1005 (by decide) ?_
  refine lv_iadd hx hb dL_law_1006 ?_
  refine ksld X hX hbl hbA hV (v := y1) (hin 1 (by decide) (by decide)) e1 dL_law_1007 ?_
  refine lv_aload_n hx hb dL_law_1008 rfl (lv_at hl 3 rfl) ?_
  refine lv_iload_n hx hb dL_law_1009 rfl (lv_at hl 0 rfl) ?_
  refine lv_iconst (v := 2) hx hb dL_law_1010 (by decide) ?_
  refine lv_iadd hx hb dL_law_1011 ?_
  refine ksld X hX hbl hbA hV (v := y2) (hin 2 (by decide) (by decide)) e2 dL_law_1012 ?_
  refine lv_aload_n hx hb dL_law_1013 rfl (lv_at hl 3 rfl) ?_
  refine lv_iload_n hx hb dL_law_1014 rfl (lv_at hl 0 rfl) ?_
  refine lv_iconst (v := 3) hx hb dL_law_1015 (by decide) ?_
  refine lv_iadd hx hb dL_law_1016 ?_
  refine ksld X hX hbl hbA hV (v := y3) (hin 3 (by decide) (by decide)) e3 dL_law_1017 ?_
  have hV1 := lopen lq_X11_lost hV
  clear hV
  refine kgoiT (krunV (rest := []) X hV1 (List.range _) (c_X11_lost l E _ (ad 0) (ad 27) (ad 29) (ad 28) (.ref (ad 1)) (.ref (ad 3)) (.ref (ad 8)) (.ref (ad 13)) (.ref (ad 21)) (.ref (ad 22)) (.ref (ad 30)) (.ref (ad 38)) (σ 27 2) (σ 27 3) (σ 27 4) (σ 27 5) (σ 29) (σ 28) y1 y2 y3 rx x_o_blips_fitting x_o_blips_least x_o_blips_greatest x_o_blips_rests hfx) mw_1080 kb_X11_lost (ci := 11) rfl rfl (kndR _) (krg _ _) rfl hl.1 rfl (Nat.le_of_ble_eq_true rfl) dL_law_1018 ⟨rfl, rfl, (by decide), (by decide), (by show cells + 0 + 0 ≤ 600000; omega), (by show slots + 0 + 0 ≤ 7302250; omega)⟩) X hV1 (fun u H locs hV2 => ?_)
  have hV3 : kV E A s.heap H locs (lWd E ad (lus σ [(27, (upd (upd (upd (σ 27) 3 x_o_blips_fitting) 4 x_o_blips_least) 5 x_o_blips_greatest)), (29, x_o_blips_rests)]) G bv) := lclose lq_X11_lost (ks := [27, 29]) rfl (by decide +kernel) rfl hV2
  clear hV1 hV2
  refine lv_pop hx hb dL_law_1021 rfl ?_
  refine lv_aload_n hx hb dL_law_1022 rfl (lv_at hl 1 rfl) ?_
  refine lv_aload_n hx hb dL_law_1023 rfl (lv_at hl 3 rfl) ?_
  refine lv_iload_n hx hb dL_law_1024 rfl (lv_at hl 0 rfl) ?_
  refine lv_iconst (v := 1) hx hb dL_law_1025 (by decide) ?_
  refine lv_iadd hx hb dL_law_1026 ?_
  refine ksld X hX hbl hbA hV3 (v := y1) (hin 1 (by decide) (by decide)) e1 dL_law_1027 ?_
  refine lv_aload_n hx hb dL_law_1028 rfl (lv_at hl 3 rfl) ?_
  refine lv_iload_n hx hb dL_law_1029 rfl (lv_at hl 0 rfl) ?_
  refine lv_iconst (v := 2) hx hb dL_law_1030 (by decide) ?_
  refine lv_iadd hx hb dL_law_1031 ?_
  refine ksld X hX hbl hbA hV3 (v := y2) (hin 2 (by decide) (by decide)) e2 dL_law_1032 ?_
  refine lv_aload_n hx hb dL_law_1033 rfl (lv_at hl 3 rfl) ?_
  refine lv_iload_n hx hb dL_law_1034 rfl (lv_at hl 0 rfl) ?_
  refine lv_iconst (v := 3) hx hb dL_law_1035 (by decide) ?_
  refine lv_iadd hx hb dL_law_1036 ?_
  refine ksld X hX hbl hbA hV3 (v := y3) (hin 3 (by decide) (by decide)) e3 dL_law_1037 ?_
  have hV4 := lopen lq_X12_lost hV3
  clear hV3
  refine kgoiT (krunV (rest := []) X hV4 (List.range _) (c_X12_lost l E _ (ad 42) (ad 72) (.ref (ad 43)) (.int (σ 42 1)) (.int (σ 42 2)) (.int (σ 42 3)) (.int (σ 42 4)) (.int (σ 42 6)) (.ref (ad 44)) (.ref (ad 45)) (.ref (ad 46)) (.ref (ad 47)) (.ref (ad 48)) (.ref (ad 49)) (.ref (ad 50)) (.ref (ad 51)) (.ref (ad 52)) (.ref (ad 53)) (.ref (ad 54)) (.int (σ 42 18)) (.int (σ 42 19)) (.int (σ 42 20)) (.int (σ 42 21)) (.int (σ 42 22)) (.int (σ 42 23)) (.int (σ 42 24)) (.int (σ 42 25)) (.int (σ 42 26)) (.ref (ad 55)) (.int (σ 42 28)) (.int (σ 42 29)) (.int (σ 42 30)) (.int (σ 42 31)) (.int (σ 42 32)) (.int (σ 42 33)) (.int (σ 42 34)) (.int (σ 42 35)) (.int (σ 42 36)) (.int (σ 42 37)) (.int (σ 42 38)) (.int (σ 42 39)) (.int (σ 42 40)) (.ref (ad 56)) (.ref (ad 57)) (.ref (ad 58)) (.ref (ad 59)) (.ref (ad 60)) (.ref (ad 61)) (.ref (ad 62)) (.int (σ 42 48)) (.int (σ 42 49)) (.ref (ad 63)) (.ref (ad 64)) (.ref (ad 65)) (.ref (ad 66)) (.ref (ad 67)) (.ref (ad 68)) (.ref (ad 69)) (.ref (ad 70)) (.ref (ad 71)) (.ref (ad 73)) (.ref (ad 74)) (.ref (ad 75)) (.ref (ad 76)) (σ 42 5) (σ 42 60) (σ 42 61) (σ 42 62) (σ 72) y1 y2 y3 rm m_o_fitMany m_o_fitLeast m_o_fitMost hfm) mw_1088 kb_X12_lost (ci := 12) rfl rfl (kndR _) (krg _ _) rfl hl.1 rfl (Nat.le_of_ble_eq_true rfl) dL_law_1038 ⟨rfl, rfl, (by decide), (by decide), (by show cells + 0 + 0 ≤ 600000; omega), (by show slots + 0 + 0 ≤ 7302250; omega)⟩) X hV4 (fun u H locs hV5 => ?_)
  have hV6 : kV E A s.heap H locs (lWd E ad (lus (lus σ [(27, (upd (upd (upd (σ 27) 3 x_o_blips_fitting) 4 x_o_blips_least) 5 x_o_blips_greatest)), (29, x_o_blips_rests)]) [(42, (upd (upd (upd (σ 42) 60 m_o_fitMany) 61 m_o_fitLeast) 62 m_o_fitMost))]) G bv) := lclose lq_X12_lost (ks := [42]) rfl (by decide +kernel) rfl hV5
  clear hV4 hV5
  refine lv_pop hx hb dL_law_1041 rfl ?_
  refine lv_goto (tgt := 1478) hx hb dL_law_1042 (by decide) ?_
  refine W.widen (k := cells + 4) (n := slots + 149) (by omega) (by omega) ?_
  exact T _ _ _ hV6 hl
set_option maxHeartbeats 4000000 in
set_option maxRecDepth 100000 in
theorem lc_21 {p : Program} {l : Launch} {e : Env} {s : State} {m : MethodId} {below : List Frame} {meth : Method} {c : Code} {E : kE} {A : Nat → Prop} {b L : Nat} {xs : Nat → Int32} {Q : State → Prop} {H : Heap} {locs : List Loc} {ls : Array Slot} {ad : Nat → Nat} {σ : Nat → Nat → Int32} {G : kG} {bv : Value} {v y1 y2 y3 y4 y5 : Int32} {cells slots : Nat} (X : kC p s m c code 4 RL #[Value.ref b] E A) (hX : va_X b L xs s s.heap) (hbl : b < s.heap.size) (hbA : ¬ A b) (hV : kV E A s.heap H locs (lWd E ad σ G bv)) (hin : ∀ j : Int32, 0 ≤ j.toInt → j.toInt ≤ 5 → vp_in (v + j) L) (e1 : y1 = xs (v + 1).toNatClampNeg) (e2 : y2 = xs (v + 2).toNatClampNeg) (e3 : y3 = xs (v + 3).toNatClampNeg) (e4 : y4 = xs (v + 4).toNatClampNeg) (e5 : y5 = xs (v + 5).toNatClampNeg) (hc : cells + 4 ≤ 600000) (hs : slots + 149 ≤ 7302250) (hl : lv_has ls 4 [(3, .int v), (2, .ref (ad 42)), (1, .ref (ad 0)), (0, .ref b)]) (rx : Int32) (x_o_nights_many : Int32) (x_o_nights_days : Nat → Int32) (x_o_nights_shifts : Nat → Int32) (rm : Int32) (m_o_nights : Int32) (m_o_found : Nat → Int32) (m_o_nightDay : Nat → Int32) (hfx : f_X11_night (σ 30 5) (σ 31) (σ 32) y1 y2 = some (rx, x_o_nights_many, x_o_nights_days, x_o_nights_shifts)) (hfm : f_X12_night (σ 42 6) (σ 74) (σ 73) y1 y2 = some (rm, m_o_nights, m_o_found, m_o_nightDay)) (T : ∀ (H : Heap) (locs : List Loc) (ls : Array Slot), kV E A s.heap H locs (lWd E ad (lus (lus σ [(30, (upd (σ 30) 5 x_o_nights_many)), (31, x_o_nights_days), (32, x_o_nights_shifts)]) [(42, (upd (σ 42) 6 m_o_nights)), (73, m_o_nightDay), (74, m_o_found)]) G bv) → lv_has ls 4 [(3, .int v), (2, .ref (ad 42)), (1, .ref (ad 0)), (0, .ref b)] → W p l e room_1 s m #[Value.ref b] below meth c H locs (cells + 4) (slots + 149) Q (F0 m 1478 ls [])) : W p l e room_1 s m #[Value.ref b] below meth c H locs cells slots Q (F0 m 1045 ls []) := by
  have hx := X.1
  have hb := X.2.1
  refine lv_aload_n hx hb dL_law_1045 rfl (lv_at hl 2 rfl) ?_
  refine lv_aload_n hx hb dL_law_1046 rfl (lv_at hl 3 rfl) ?_
  refine lv_iload_n hx hb dL_law_1047 rfl (lv_at hl 0 rfl) ?_
  refine lv_iconst (v := 1) hx hb dL_law_1048 (by decide) ?_
  refine lv_iadd hx hb dL_law_1049 ?_
  refine ksld X hX hbl hbA hV (v := y1) (hin 1 (by decide) (by decide)) e1 dL_law_1050 ?_
  refine lv_aload_n hx hb dL_law_1051 rfl (lv_at hl 3 rfl) ?_
  refine lv_iload_n hx hb dL_law_1052 rfl (lv_at hl 0 rfl) ?_
  refine lv_iconst (v := 2) hx hb dL_law_1053 (by decide) ?_
  refine lv_iadd hx hb dL_law_1054 ?_
  refine ksld X hX hbl hbA hV (v := y2) (hin 2 (by decide) (by decide)) e2 dL_law_1055 ?_
  have hV1 := lopen lq_X11_night hV
  clear hV
  refine kgoiT (krunV (rest := []) X hV1 (List.range _) (c_X11_night l E _ (ad 0) (ad 30) (ad 31) (ad 32) (.ref (ad 1)) (.ref (ad 3)) (.ref (ad 8)) (.ref (ad 13)) (.ref (ad 21)) (.ref (ad 22)) (.ref (ad 27)) (.ref (ad 38)) (.ref (ad 33)) (.ref (ad 34)) (.ref (ad 37)) (σ 30 5) (σ 31) (σ 32) y1 y2 rx x_o_nights_many x_o_nights_days x_o_nights_shifts hfx) mw_1092 kb_X11_night (ci := 11) rfl rfl (kndR _) (krg _ _) rfl hl.1 rfl (Nat.le_of_ble_eq_true rfl) dL_law_1056 ⟨rfl, rfl, (by decide), (by decide), (by show cells + 0 + 0 ≤ 600000; omega), (by show slots + 0 + 0 ≤ 7302250; omega)⟩) X hV1 (fun u H locs hV2 => ?_)
  have hV3 : kV E A s.heap H locs (lWd E ad (lus σ [(30, (upd (σ 30) 5 x_o_nights_many)), (31, x_o_nights_days), (32, x_o_nights_shifts)]) G bv) := lclose lq_X11_night (ks := [30, 31, 32]) rfl (by decide +kernel) rfl hV2
  clear hV1 hV2
  refine lv_pop hx hb dL_law_1059 rfl ?_
  refine lv_aload_n hx hb dL_law_1060 rfl (lv_at hl 1 rfl) ?_
  refine lv_aload_n hx hb dL_law_1061 rfl (lv_at hl 3 rfl) ?_
  refine lv_iload_n hx hb dL_law_1062 rfl (lv_at hl 0 rfl) ?_
  refine lv_iconst (v := 1) hx hb dL_law_1063 (by decide) ?_
  refine lv_iadd hx hb dL_law_1064 ?_
  refine ksld X hX hbl hbA hV3 (v := y1) (hin 1 (by decide) (by decide)) e1 dL_law_1065 ?_
  refine lv_aload_n hx hb dL_law_1066 rfl (lv_at hl 3 rfl) ?_
  refine lv_iload_n hx hb dL_law_1067 rfl (lv_at hl 0 rfl) ?_
  refine lv_iconst (v := 2) hx hb dL_law_1068 (by decide) ?_
  refine lv_iadd hx hb dL_law_1069 ?_
  refine ksld X hX hbl hbA hV3 (v := y2) (hin 2 (by decide) (by decide)) e2 dL_law_1070 ?_
  have hV4 := lopen lq_X12_night hV3
  clear hV3
  refine kgoiT (krunV (rest := []) X hV4 (List.range _) (c_X12_night l E _ (ad 42) (ad 74) (ad 73) (.ref (ad 43)) (.int (σ 42 1)) (.int (σ 42 2)) (.int (σ 42 3)) (.int (σ 42 4)) (.int (σ 42 5)) (.ref (ad 44)) (.ref (ad 45)) (.ref (ad 46)) (.ref (ad 47)) (.ref (ad 48)) (.ref (ad 49)) (.ref (ad 50)) (.ref (ad 51)) (.ref (ad 52)) (.ref (ad 53)) (.ref (ad 54)) (.int (σ 42 18)) (.int (σ 42 19)) (.int (σ 42 20)) (.int (σ 42 21)) (.int (σ 42 22)) (.int (σ 42 23)) (.int (σ 42 24)) (.int (σ 42 25)) (.int (σ 42 26)) (.ref (ad 55)) (.int (σ 42 28)) (.int (σ 42 29)) (.int (σ 42 30)) (.int (σ 42 31)) (.int (σ 42 32)) (.int (σ 42 33)) (.int (σ 42 34)) (.int (σ 42 35)) (.int (σ 42 36)) (.int (σ 42 37)) (.int (σ 42 38)) (.int (σ 42 39)) (.int (σ 42 40)) (.ref (ad 56)) (.ref (ad 57)) (.ref (ad 58)) (.ref (ad 59)) (.ref (ad 60)) (.ref (ad 61)) (.ref (ad 62)) (.int (σ 42 48)) (.int (σ 42 49)) (.ref (ad 63)) (.ref (ad 64)) (.ref (ad 65)) (.ref (ad 66)) (.ref (ad 67)) (.ref (ad 68)) (.ref (ad 69)) (.ref (ad 70)) (.ref (ad 71)) (.ref (ad 72)) (.int (σ 42 60)) (.int (σ 42 61)) (.int (σ 42 62)) (.ref (ad 75)) (.ref (ad 76)) (σ 42 6) (σ 74) (σ 73) y1 y2 rm m_o_nights m_o_found m_o_nightDay hfm) mw_1102 kb_X12_night (ci := 12) rfl rfl (kndR _) (krg _ _) rfl hl.1 rfl (Nat.le_of_ble_eq_true rfl) dL_law_1071 ⟨rfl, rfl, (by decide), (by decide), (by show cells + 0 + 0 ≤ 600000; omega), (by show slots + 0 + 0 ≤ 7302250; omega)⟩) X hV4 (fun u H locs hV5 => ?_)
  have hV6 : kV E A s.heap H locs (lWd E ad (lus (lus σ [(30, (upd (σ 30) 5 x_o_nights_many)), (31, x_o_nights_days), (32, x_o_nights_shifts)]) [(42, (upd (σ 42) 6 m_o_nights)), (73, m_o_nightDay), (74, m_o_found)]) G bv) := lclose lq_X12_night (ks := [42, 73, 74]) rfl (by decide +kernel) rfl hV5
  clear hV4 hV5
  refine lv_pop hx hb dL_law_1074 rfl ?_
  refine lv_goto (tgt := 1478) hx hb dL_law_1075 (by decide) ?_
  refine W.widen (k := cells + 4) (n := slots + 149) (by omega) (by omega) ?_
  exact T _ _ _ hV6 hl
set_option maxHeartbeats 4000000 in
set_option maxRecDepth 100000 in
theorem lc_22 {p : Program} {l : Launch} {e : Env} {s : State} {m : MethodId} {below : List Frame} {meth : Method} {c : Code} {E : kE} {A : Nat → Prop} {b L : Nat} {xs : Nat → Int32} {Q : State → Prop} {H : Heap} {locs : List Loc} {ls : Array Slot} {ad : Nat → Nat} {σ : Nat → Nat → Int32} {G : kG} {bv : Value} {v y1 y2 y3 y4 y5 : Int32} {cells slots : Nat} (X : kC p s m c code 4 RL #[Value.ref b] E A) (hX : va_X b L xs s s.heap) (hbl : b < s.heap.size) (hbA : ¬ A b) (hV : kV E A s.heap H locs (lWd E ad σ G bv)) (hin : ∀ j : Int32, 0 ≤ j.toInt → j.toInt ≤ 5 → vp_in (v + j) L) (e1 : y1 = xs (v + 1).toNatClampNeg) (e2 : y2 = xs (v + 2).toNatClampNeg) (e3 : y3 = xs (v + 3).toNatClampNeg) (e4 : y4 = xs (v + 4).toNatClampNeg) (e5 : y5 = xs (v + 5).toNatClampNeg) (hc : cells + 4 ≤ 600000) (hs : slots + 149 ≤ 7302250) (hl : lv_has ls 4 [(3, .int v), (2, .ref (ad 42)), (1, .ref (ad 0)), (0, .ref b)]) (rx : Int32) (x_o_nights_reckoner_letters : Nat → Int32) (x_o_nights_reckoner_values : Nat → Int32) (rm : Int32) (m_o_atA : Int32) (m_o_atB : Int32) (m_o_atD : Int32) (m_o_atF : Int32) (m_o_atG : Int32) (m_o_atH : Int32) (m_o_atL : Int32) (m_o_atM : Int32) (m_o_atN : Int32) (m_o_atS : Int32) (m_o_atT : Int32) (m_o_atU : Int32) (m_o_atX : Int32) (m_o_isRefused : Nat → Int32) (m_o_worth : Nat → Int32) (hfx : f_X11_says G (σ 30 5) (σ 31) (σ 35) (σ 36) y1 y2 = some (rx, x_o_nights_reckoner_letters, x_o_nights_reckoner_values)) (hfm : f_X12_says (σ 42 6) (σ 42 28) (σ 42 29) (σ 42 30) (σ 42 31) (σ 42 32) (σ 42 33) (σ 42 34) (σ 42 35) (σ 42 36) (σ 42 37) (σ 42 38) (σ 42 39) (σ 42 40) (σ 48) (σ 49) (σ 46) (σ 57) (σ 44) (σ 73) (σ 45) (σ 56) y1 y2 = some (rm, m_o_atA, m_o_atB, m_o_atD, m_o_atF, m_o_atG, m_o_atH, m_o_atL, m_o_atM, m_o_atN, m_o_atS, m_o_atT, m_o_atU, m_o_atX, m_o_isRefused, m_o_worth)) (T : ∀ (H : Heap) (locs : List Loc) (ls : Array Slot), kV E A s.heap H locs (lWd E ad (lus (lus σ [(35, x_o_nights_reckoner_letters), (36, x_o_nights_reckoner_values)]) [(42, (upd (upd (upd (upd (upd (upd (upd (upd (upd (upd (upd (upd (upd (σ 42) 28 m_o_atA) 29 m_o_atB) 30 m_o_atD) 31 m_o_atF) 32 m_o_atG) 33 m_o_atH) 34 m_o_atL) 35 m_o_atM) 36 m_o_atN) 37 m_o_atS) 38 m_o_atT) 39 m_o_atU) 40 m_o_atX)), (56, m_o_worth), (57, m_o_isRefused)]) G bv) → lv_has ls 4 [(3, .int v), (2, .ref (ad 42)), (1, .ref (ad 0)), (0, .ref b)] → W p l e room_1 s m #[Value.ref b] below meth c H locs (cells + 4) (slots + 149) Q (F0 m 1478 ls [])) : W p l e room_1 s m #[Value.ref b] below meth c H locs cells slots Q (F0 m 1078 ls []) := by
  have hx := X.1
  have hb := X.2.1
  refine lv_aload_n hx hb dL_law_1078 rfl (lv_at hl 2 rfl) ?_
  refine lv_aload_n hx hb dL_law_1079 rfl (lv_at hl 3 rfl) ?_
  refine lv_iload_n hx hb dL_law_1080 rfl (lv_at hl 0 rfl) ?_
  refine lv_iconst (v := 1) hx hb dL_law_1081 (by decide) ?_
  refine lv_iadd hx hb dL_law_1082 ?_
  refine ksld X hX hbl hbA hV (v := y1) (hin 1 (by decide) (by decide)) e1 dL_law_1083 ?_
  refine lv_aload_n hx hb dL_law_1084 rfl (lv_at hl 3 rfl) ?_
  refine lv_iload_n hx hb dL_law_1085 rfl (lv_at hl 0 rfl) ?_
  refine lv_iconst (v := 2) hx hb dL_law_1086 (by decide) ?_
  refine lv_iadd hx hb dL_law_1087 ?_
  refine ksld X hX hbl hbA hV (v := y2) (hin 2 (by decide) (by decide)) e2 dL_law_1088 ?_
  have hV1 := lopenP lq_X11_says hV
  clear hV
  refine kgoiP (krunV (rest := []) X hV1 (List.range _) (c_X11_says l E _ (ad 0) (ad 30) (ad 31) (ad 34) (ad 37) (ad 35) (ad 36) (.ref (ad 1)) (.ref (ad 3)) (.ref (ad 8)) (.ref (ad 13)) (.ref (ad 21)) (.ref (ad 22)) (.ref (ad 27)) (.ref (ad 38)) (.ref (ad 32)) (.ref (ad 33)) G (σ 30 5) (σ 31) (σ 35) (σ 36) y1 y2 rx x_o_nights_reckoner_letters x_o_nights_reckoner_values hfx) mw_1109 kb_X11_says (ci := 11) rfl rfl (kndR _) (krg _ _) rfl hl.1 rfl (Nat.le_of_ble_eq_true rfl) dL_law_1089 ⟨rfl, rfl, (by decide), (by decide), (by show cells + 0 + 0 ≤ 600000; omega), (by show slots + 0 + 0 ≤ 7302250; omega)⟩) X hV1 (fun u H locs hV2 => ?_)
  have hV3 : kV E A s.heap H locs (lWd E ad (lus σ [(35, x_o_nights_reckoner_letters), (36, x_o_nights_reckoner_values)]) G bv) := lcloseP lq_X11_says (ks := [35, 36]) rfl (by decide +kernel) rfl hV2
  clear hV1 hV2
  refine lv_pop hx hb dL_law_1092 rfl ?_
  refine lv_aload_n hx hb dL_law_1093 rfl (lv_at hl 1 rfl) ?_
  refine lv_aload_n hx hb dL_law_1094 rfl (lv_at hl 3 rfl) ?_
  refine lv_iload_n hx hb dL_law_1095 rfl (lv_at hl 0 rfl) ?_
  refine lv_iconst (v := 1) hx hb dL_law_1096 (by decide) ?_
  refine lv_iadd hx hb dL_law_1097 ?_
  refine ksld X hX hbl hbA hV3 (v := y1) (hin 1 (by decide) (by decide)) e1 dL_law_1098 ?_
  refine lv_aload_n hx hb dL_law_1099 rfl (lv_at hl 3 rfl) ?_
  refine lv_iload_n hx hb dL_law_1100 rfl (lv_at hl 0 rfl) ?_
  refine lv_iconst (v := 2) hx hb dL_law_1101 (by decide) ?_
  refine lv_iadd hx hb dL_law_1102 ?_
  refine ksld X hX hbl hbA hV3 (v := y2) (hin 2 (by decide) (by decide)) e2 dL_law_1103 ?_
  have hV4 := lopen lq_X12_says hV3
  clear hV3
  refine kgoiT (krunV (rest := []) X hV4 (List.range _) (c_X12_says l E _ (ad 42) (ad 48) (ad 49) (ad 46) (ad 57) (ad 44) (ad 73) (ad 45) (ad 56) (.ref (ad 43)) (.int (σ 42 1)) (.int (σ 42 2)) (.int (σ 42 3)) (.int (σ 42 4)) (.int (σ 42 5)) (.ref (ad 47)) (.ref (ad 50)) (.ref (ad 51)) (.ref (ad 52)) (.ref (ad 53)) (.ref (ad 54)) (.int (σ 42 18)) (.int (σ 42 19)) (.int (σ 42 20)) (.int (σ 42 21)) (.int (σ 42 22)) (.int (σ 42 23)) (.int (σ 42 24)) (.int (σ 42 25)) (.int (σ 42 26)) (.ref (ad 55)) (.ref (ad 58)) (.ref (ad 59)) (.ref (ad 60)) (.ref (ad 61)) (.ref (ad 62)) (.int (σ 42 48)) (.int (σ 42 49)) (.ref (ad 63)) (.ref (ad 64)) (.ref (ad 65)) (.ref (ad 66)) (.ref (ad 67)) (.ref (ad 68)) (.ref (ad 69)) (.ref (ad 70)) (.ref (ad 71)) (.ref (ad 72)) (.int (σ 42 60)) (.int (σ 42 61)) (.int (σ 42 62)) (.ref (ad 74)) (.ref (ad 75)) (.ref (ad 76)) (σ 42 6) (σ 42 28) (σ 42 29) (σ 42 30) (σ 42 31) (σ 42 32) (σ 42 33) (σ 42 34) (σ 42 35) (σ 42 36) (σ 42 37) (σ 42 38) (σ 42 39) (σ 42 40) (σ 48) (σ 49) (σ 46) (σ 57) (σ 44) (σ 73) (σ 45) (σ 56) y1 y2 rm m_o_atA m_o_atB m_o_atD m_o_atF m_o_atG m_o_atH m_o_atL m_o_atM m_o_atN m_o_atS m_o_atT m_o_atU m_o_atX m_o_isRefused m_o_worth hfm) mw_1125 kb_X12_says (ci := 12) rfl rfl (kndR _) (krg _ _) rfl hl.1 rfl (Nat.le_of_ble_eq_true rfl) dL_law_1104 ⟨rfl, rfl, (by decide), (by decide), (by show cells + 0 + 0 ≤ 600000; omega), (by show slots + 0 + 0 ≤ 7302250; omega)⟩) X hV4 (fun u H locs hV5 => ?_)
  have hV6 : kV E A s.heap H locs (lWd E ad (lus (lus σ [(35, x_o_nights_reckoner_letters), (36, x_o_nights_reckoner_values)]) [(42, (upd (upd (upd (upd (upd (upd (upd (upd (upd (upd (upd (upd (upd (σ 42) 28 m_o_atA) 29 m_o_atB) 30 m_o_atD) 31 m_o_atF) 32 m_o_atG) 33 m_o_atH) 34 m_o_atL) 35 m_o_atM) 36 m_o_atN) 37 m_o_atS) 38 m_o_atT) 39 m_o_atU) 40 m_o_atX)), (56, m_o_worth), (57, m_o_isRefused)]) G bv) := lclose lq_X12_says (ks := [42, 56, 57]) rfl (by decide +kernel) rfl hV5
  clear hV4 hV5
  refine lv_pop hx hb dL_law_1107 rfl ?_
  refine lv_goto (tgt := 1478) hx hb dL_law_1108 (by decide) ?_
  refine W.widen (k := cells + 4) (n := slots + 149) (by omega) (by omega) ?_
  exact T _ _ _ hV6 hl
set_option maxHeartbeats 4000000 in
set_option maxRecDepth 100000 in
theorem lc_23 {p : Program} {l : Launch} {e : Env} {s : State} {m : MethodId} {below : List Frame} {meth : Method} {c : Code} {E : kE} {A : Nat → Prop} {b L : Nat} {xs : Nat → Int32} {Q : State → Prop} {H : Heap} {locs : List Loc} {ls : Array Slot} {ad : Nat → Nat} {σ : Nat → Nat → Int32} {G : kG} {bv : Value} {v y1 y2 y3 y4 y5 : Int32} {cells slots : Nat} (X : kC p s m c code 4 RL #[Value.ref b] E A) (hX : va_X b L xs s s.heap) (hbl : b < s.heap.size) (hbA : ¬ A b) (hV : kV E A s.heap H locs (lWd E ad σ G bv)) (hin : ∀ j : Int32, 0 ≤ j.toInt → j.toInt ≤ 5 → vp_in (v + j) L) (e1 : y1 = xs (v + 1).toNatClampNeg) (e2 : y2 = xs (v + 2).toNatClampNeg) (e3 : y3 = xs (v + 3).toNatClampNeg) (e4 : y4 = xs (v + 4).toNatClampNeg) (e5 : y5 = xs (v + 5).toNatClampNeg) (hc : cells + 4 ≤ 600000) (hs : slots + 149 ≤ 7302250) (hl : lv_has ls 4 [(3, .int v), (2, .ref (ad 42)), (1, .ref (ad 0)), (0, .ref b)]) (rx : Int32) (x_o_nights_reckoner_letters : Nat → Int32) (x_o_nights_reckoner_values : Nat → Int32) (rm : Int32) (m_o_atA : Int32) (m_o_atB : Int32) (m_o_atD : Int32) (m_o_atF : Int32) (m_o_atG : Int32) (m_o_atH : Int32) (m_o_atL : Int32) (m_o_atM : Int32) (m_o_atN : Int32) (m_o_atS : Int32) (m_o_atT : Int32) (m_o_atU : Int32) (m_o_atX : Int32) (m_o_isRefused : Nat → Int32) (m_o_worth : Nat → Int32) (hfx : f_X11_falls G (σ 30 5) (σ 31) (σ 32) (σ 35) (σ 36) y1 y2 = some (rx, x_o_nights_reckoner_letters, x_o_nights_reckoner_values)) (hfm : f_X12_falls (σ 42 6) (σ 42 28) (σ 42 29) (σ 42 30) (σ 42 31) (σ 42 32) (σ 42 33) (σ 42 34) (σ 42 35) (σ 42 36) (σ 42 37) (σ 42 38) (σ 42 39) (σ 42 40) (σ 48) (σ 49) (σ 46) (σ 74) (σ 57) (σ 44) (σ 73) (σ 45) (σ 56) y1 y2 = some (rm, m_o_atA, m_o_atB, m_o_atD, m_o_atF, m_o_atG, m_o_atH, m_o_atL, m_o_atM, m_o_atN, m_o_atS, m_o_atT, m_o_atU, m_o_atX, m_o_isRefused, m_o_worth)) (T : ∀ (H : Heap) (locs : List Loc) (ls : Array Slot), kV E A s.heap H locs (lWd E ad (lus (lus σ [(35, x_o_nights_reckoner_letters), (36, x_o_nights_reckoner_values)]) [(42, (upd (upd (upd (upd (upd (upd (upd (upd (upd (upd (upd (upd (upd (σ 42) 28 m_o_atA) 29 m_o_atB) 30 m_o_atD) 31 m_o_atF) 32 m_o_atG) 33 m_o_atH) 34 m_o_atL) 35 m_o_atM) 36 m_o_atN) 37 m_o_atS) 38 m_o_atT) 39 m_o_atU) 40 m_o_atX)), (56, m_o_worth), (57, m_o_isRefused)]) G bv) → lv_has ls 4 [(3, .int v), (2, .ref (ad 42)), (1, .ref (ad 0)), (0, .ref b)] → W p l e room_1 s m #[Value.ref b] below meth c H locs (cells + 4) (slots + 149) Q (F0 m 1478 ls [])) : W p l e room_1 s m #[Value.ref b] below meth c H locs cells slots Q (F0 m 1111 ls []) := by
  have hx := X.1
  have hb := X.2.1
  refine lv_aload_n hx hb dL_law_1111 rfl (lv_at hl 2 rfl) ?_
  refine lv_aload_n hx hb dL_law_1112 rfl (lv_at hl 3 rfl) ?_
  refine lv_iload_n hx hb dL_law_1113 rfl (lv_at hl 0 rfl) ?_
  refine lv_iconst (v := 1) hx hb dL_law_1114 (by decide) ?_
  refine lv_iadd hx hb dL_law_1115 ?_
  refine ksld X hX hbl hbA hV (v := y1) (hin 1 (by decide) (by decide)) e1 dL_law_1116 ?_
  refine lv_aload_n hx hb dL_law_1117 rfl (lv_at hl 3 rfl) ?_
  refine lv_iload_n hx hb dL_law_1118 rfl (lv_at hl 0 rfl) ?_
  refine lv_iconst (v := 2) hx hb dL_law_1119 (by decide) ?_
  refine lv_iadd hx hb dL_law_1120 ?_
  refine ksld X hX hbl hbA hV (v := y2) (hin 2 (by decide) (by decide)) e2 dL_law_1121 ?_
  have hV1 := lopenP lq_X11_falls hV
  clear hV
  refine kgoiP (krunV (rest := []) X hV1 (List.range _) (c_X11_falls l E _ (ad 0) (ad 30) (ad 31) (ad 34) (ad 32) (ad 37) (ad 35) (ad 36) (.ref (ad 1)) (.ref (ad 3)) (.ref (ad 8)) (.ref (ad 13)) (.ref (ad 21)) (.ref (ad 22)) (.ref (ad 27)) (.ref (ad 38)) (.ref (ad 33)) G (σ 30 5) (σ 31) (σ 32) (σ 35) (σ 36) y1 y2 rx x_o_nights_reckoner_letters x_o_nights_reckoner_values hfx) mw_1142 kb_X11_falls (ci := 11) rfl rfl (kndR _) (krg _ _) rfl hl.1 rfl (Nat.le_of_ble_eq_true rfl) dL_law_1122 ⟨rfl, rfl, (by decide), (by decide), (by show cells + 0 + 0 ≤ 600000; omega), (by show slots + 0 + 0 ≤ 7302250; omega)⟩) X hV1 (fun u H locs hV2 => ?_)
  have hV3 : kV E A s.heap H locs (lWd E ad (lus σ [(35, x_o_nights_reckoner_letters), (36, x_o_nights_reckoner_values)]) G bv) := lcloseP lq_X11_falls (ks := [35, 36]) rfl (by decide +kernel) rfl hV2
  clear hV1 hV2
  refine lv_pop hx hb dL_law_1125 rfl ?_
  refine lv_aload_n hx hb dL_law_1126 rfl (lv_at hl 1 rfl) ?_
  refine lv_aload_n hx hb dL_law_1127 rfl (lv_at hl 3 rfl) ?_
  refine lv_iload_n hx hb dL_law_1128 rfl (lv_at hl 0 rfl) ?_
  refine lv_iconst (v := 1) hx hb dL_law_1129 (by decide) ?_
  refine lv_iadd hx hb dL_law_1130 ?_
  refine ksld X hX hbl hbA hV3 (v := y1) (hin 1 (by decide) (by decide)) e1 dL_law_1131 ?_
  refine lv_aload_n hx hb dL_law_1132 rfl (lv_at hl 3 rfl) ?_
  refine lv_iload_n hx hb dL_law_1133 rfl (lv_at hl 0 rfl) ?_
  refine lv_iconst (v := 2) hx hb dL_law_1134 (by decide) ?_
  refine lv_iadd hx hb dL_law_1135 ?_
  refine ksld X hX hbl hbA hV3 (v := y2) (hin 2 (by decide) (by decide)) e2 dL_law_1136 ?_
  have hV4 := lopen lq_X12_falls hV3
  clear hV3
  refine kgoiT (krunV (rest := []) X hV4 (List.range _) (c_X12_falls l E _ (ad 42) (ad 48) (ad 49) (ad 46) (ad 74) (ad 57) (ad 44) (ad 73) (ad 45) (ad 56) (.ref (ad 43)) (.int (σ 42 1)) (.int (σ 42 2)) (.int (σ 42 3)) (.int (σ 42 4)) (.int (σ 42 5)) (.ref (ad 47)) (.ref (ad 50)) (.ref (ad 51)) (.ref (ad 52)) (.ref (ad 53)) (.ref (ad 54)) (.int (σ 42 18)) (.int (σ 42 19)) (.int (σ 42 20)) (.int (σ 42 21)) (.int (σ 42 22)) (.int (σ 42 23)) (.int (σ 42 24)) (.int (σ 42 25)) (.int (σ 42 26)) (.ref (ad 55)) (.ref (ad 58)) (.ref (ad 59)) (.ref (ad 60)) (.ref (ad 61)) (.ref (ad 62)) (.int (σ 42 48)) (.int (σ 42 49)) (.ref (ad 63)) (.ref (ad 64)) (.ref (ad 65)) (.ref (ad 66)) (.ref (ad 67)) (.ref (ad 68)) (.ref (ad 69)) (.ref (ad 70)) (.ref (ad 71)) (.ref (ad 72)) (.int (σ 42 60)) (.int (σ 42 61)) (.int (σ 42 62)) (.ref (ad 75)) (.ref (ad 76)) (σ 42 6) (σ 42 28) (σ 42 29) (σ 42 30) (σ 42 31) (σ 42 32) (σ 42 33) (σ 42 34) (σ 42 35) (σ 42 36) (σ 42 37) (σ 42 38) (σ 42 39) (σ 42 40) (σ 48) (σ 49) (σ 46) (σ 74) (σ 57) (σ 44) (σ 73) (σ 45) (σ 56) y1 y2 rm m_o_atA m_o_atB m_o_atD m_o_atF m_o_atG m_o_atH m_o_atL m_o_atM m_o_atN m_o_atS m_o_atT m_o_atU m_o_atX m_o_isRefused m_o_worth hfm) mw_1157 kb_X12_falls (ci := 12) rfl rfl (kndR _) (krg _ _) rfl hl.1 rfl (Nat.le_of_ble_eq_true rfl) dL_law_1137 ⟨rfl, rfl, (by decide), (by decide), (by show cells + 0 + 0 ≤ 600000; omega), (by show slots + 0 + 0 ≤ 7302250; omega)⟩) X hV4 (fun u H locs hV5 => ?_)
  have hV6 : kV E A s.heap H locs (lWd E ad (lus (lus σ [(35, x_o_nights_reckoner_letters), (36, x_o_nights_reckoner_values)]) [(42, (upd (upd (upd (upd (upd (upd (upd (upd (upd (upd (upd (upd (upd (σ 42) 28 m_o_atA) 29 m_o_atB) 30 m_o_atD) 31 m_o_atF) 32 m_o_atG) 33 m_o_atH) 34 m_o_atL) 35 m_o_atM) 36 m_o_atN) 37 m_o_atS) 38 m_o_atT) 39 m_o_atU) 40 m_o_atX)), (56, m_o_worth), (57, m_o_isRefused)]) G bv) := lclose lq_X12_falls (ks := [42, 56, 57]) rfl (by decide +kernel) rfl hV5
  clear hV4 hV5
  refine lv_pop hx hb dL_law_1140 rfl ?_
  refine lv_goto (tgt := 1478) hx hb dL_law_1141 (by decide) ?_
  refine W.widen (k := cells + 4) (n := slots + 149) (by omega) (by omega) ?_
  exact T _ _ _ hV6 hl
