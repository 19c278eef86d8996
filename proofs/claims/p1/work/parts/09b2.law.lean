set_option maxHeartbeats 4000000 in
set_option maxRecDepth 100000 in
theorem lc_16 {p : Program} {l : Launch} {e : Env} {s : State} {m : MethodId} {below : List Frame} {meth : Method} {c : Code} {E : kE} {A : Nat → Prop} {b : Nat} {xs : Nat → Int32} {Q : State → Prop} {H : Heap} {locs : List Loc} {ls : Array Slot} {ad : Nat → Nat} (X : kC p s m c code 4 RL #[Value.ref b] E A) (hX : va_X b 6 xs s s.heap) (hbl : b < s.heap.size) (hbA : ¬ A b) (hV : kV E A s.heap H locs (lW E ad)) (hl : lv_has ls 4 [(3, .int 0), (2, .ref (ad 42)), (1, .ref (ad 0)), (0, .ref b)]) (r : Int32) (hfx : f_X11_fits 0 (xs 1) (xs 2) = some (r)) (hfm : f_X12_fits 0 (xs 1) (xs 2) = some (r)) (T : ∀ (H : Heap) (locs : List Loc) (ls : Array Slot), va_S A s.heap H locs → lv_has ls 4 [(3, .int 0), (2, .ref (ad 42)), (1, .ref (ad 0)), (0, .ref b)] → W p l e room_1 s m #[Value.ref b] below meth c H locs 1000 100000 Q (F0 m 1479 ls [])) : W p l e room_1 s m #[Value.ref b] below meth c H locs 900 90000 Q (F0 m 840 ls []) := by
  have hx := X.1
  have hb := X.2.1
  have hV0 : kV E A s.heap H locs [((ad 0), .inr (11, [.ref (ad 1), .ref (ad 3), .ref (ad 8), .ref (ad 13), .ref (ad 21), .ref (ad 22), .ref (ad 27), .ref (ad 30), .ref (ad 38)])), ((ad 27), .inr (0, [.ref (ad 28), .ref (ad 29), .int 0, .int 0, .int (-1), .int (-1)])), ((ad 42), .inr (12, [.ref (ad 43), .int 0, .int 0, .int 0, .int 0, .int 0, .int 0, .ref (ad 44), .ref (ad 45), .ref (ad 46), .ref (ad 47), .ref (ad 48), .ref (ad 49), .ref (ad 50), .ref (ad 51), .ref (ad 52), .ref (ad 53), .ref (ad 54), .int 0, .int 0, .int 0, .int 0, .int 0, .int 0, .int 0, .int 0, .int 0, .ref (ad 55), .int 0, .int 0, .int 0, .int 0, .int 0, .int 0, .int 0, .int 0, .int 0, .int 0, .int 0, .int 0, .int 0, .ref (ad 56), .ref (ad 57), .ref (ad 58), .ref (ad 59), .ref (ad 60), .ref (ad 61), .ref (ad 62), .int 0, .int 0, .ref (ad 63), .ref (ad 64), .ref (ad 65), .ref (ad 66), .ref (ad 67), .ref (ad 68), .ref (ad 69), .ref (ad 70), .ref (ad 71), .ref (ad 72), .int 0, .int 0, .int 0, .ref (ad 73), .ref (ad 74), .ref (ad 75), .ref (ad 76)]))] := hV.sub [0, 27, 42] rfl rfl
  clear hV
  refine lv_aload_n hx hb dL_law_840 rfl (lv_at hl 2 rfl) ?_
  refine lv_aload_n hx hb dL_law_841 rfl (lv_at hl 3 rfl) ?_
  refine lv_iload_n hx hb dL_law_842 rfl (lv_at hl 0 rfl) ?_
  refine lv_iconst (v := 1) hx hb dL_law_843 (by decide) ?_
  refine lv_iadd hx hb dL_law_844 ?_
  refine ksld X hX hbl hbA hV0 (v := xs 1) (vp_in_iff.mpr (by decide)) (congrArg xs (by decide)) dL_law_845 ?_
  refine lv_aload_n hx hb dL_law_846 rfl (lv_at hl 3 rfl) ?_
  refine lv_iload_n hx hb dL_law_847 rfl (lv_at hl 0 rfl) ?_
  refine lv_iconst (v := 2) hx hb dL_law_848 (by decide) ?_
  refine lv_iadd hx hb dL_law_849 ?_
  refine ksld X hX hbl hbA hV0 (v := xs 2) (vp_in_iff.mpr (by decide)) (congrArg xs (by decide)) dL_law_850 ?_
  refine kgoiE (krunV (rest := []) X hV0 [0, 1] (c_X11_fits l E _ (ad 0) (ad 27) (.ref (ad 1)) (.ref (ad 3)) (.ref (ad 8)) (.ref (ad 13)) (.ref (ad 21)) (.ref (ad 22)) (.ref (ad 30)) (.ref (ad 38)) (.ref (ad 28)) (.ref (ad 29)) (.int 0) (.int (-1)) (.int (-1)) 0 (xs 1) (xs 2) r hfx) mw_993 kb_X11_fits (ci := 11) rfl rfl (by decide) rfl rfl hl.1 rfl (Nat.le_of_ble_eq_true rfl) dL_law_851 (by decide)) X hV0 [0, 1] [2] rfl rfl rfl (by decide) (fun u851 H locs hV1 => ?_)
  have hV1 : kV E A s.heap H locs [((ad 0), .inr (11, [.ref (ad 1), .ref (ad 3), .ref (ad 8), .ref (ad 13), .ref (ad 21), .ref (ad 22), .ref (ad 27), .ref (ad 30), .ref (ad 38)])), ((ad 27), .inr (0, [.ref (ad 28), .ref (ad 29), .int 0, .int 0, .int (-1), .int (-1)])), ((ad 42), .inr (12, [.ref (ad 43), .int 0, .int 0, .int 0, .int 0, .int 0, .int 0, .ref (ad 44), .ref (ad 45), .ref (ad 46), .ref (ad 47), .ref (ad 48), .ref (ad 49), .ref (ad 50), .ref (ad 51), .ref (ad 52), .ref (ad 53), .ref (ad 54), .int 0, .int 0, .int 0, .int 0, .int 0, .int 0, .int 0, .int 0, .int 0, .ref (ad 55), .int 0, .int 0, .int 0, .int 0, .int 0, .int 0, .int 0, .int 0, .int 0, .int 0, .int 0, .int 0, .int 0, .ref (ad 56), .ref (ad 57), .ref (ad 58), .ref (ad 59), .ref (ad 60), .ref (ad 61), .ref (ad 62), .int 0, .int 0, .ref (ad 63), .ref (ad 64), .ref (ad 65), .ref (ad 66), .ref (ad 67), .ref (ad 68), .ref (ad 69), .ref (ad 70), .ref (ad 71), .ref (ad 72), .int 0, .int 0, .int 0, .ref (ad 73), .ref (ad 74), .ref (ad 75), .ref (ad 76)]))] := hV1.sub [1, 2, 0] rfl rfl
  clear hV0
  refine lv_aload_n hx hb dL_law_854 rfl (lv_at hl 1 rfl) ?_
  refine lv_aload_n hx hb dL_law_855 rfl (lv_at hl 3 rfl) ?_
  refine lv_iload_n hx hb dL_law_856 rfl (lv_at hl 0 rfl) ?_
  refine lv_iconst (v := 1) hx hb dL_law_857 (by decide) ?_
  refine lv_iadd hx hb dL_law_858 ?_
  refine ksld X hX hbl hbA hV1 (v := xs 1) (vp_in_iff.mpr (by decide)) (congrArg xs (by decide)) dL_law_859 ?_
  refine lv_aload_n hx hb dL_law_860 rfl (lv_at hl 3 rfl) ?_
  refine lv_iload_n hx hb dL_law_861 rfl (lv_at hl 0 rfl) ?_
  refine lv_iconst (v := 2) hx hb dL_law_862 (by decide) ?_
  refine lv_iadd hx hb dL_law_863 ?_
  refine ksld X hX hbl hbA hV1 (v := xs 2) (vp_in_iff.mpr (by decide)) (congrArg xs (by decide)) dL_law_864 ?_
  refine kgoiE (krunV (rest := [.int r]) X hV1 [2] (c_X12_fits l E _ (ad 42) (.ref (ad 43)) (.int 0) (.int 0) (.int 0) (.int 0) (.int 0) (.ref (ad 44)) (.ref (ad 45)) (.ref (ad 46)) (.ref (ad 47)) (.ref (ad 48)) (.ref (ad 49)) (.ref (ad 50)) (.ref (ad 51)) (.ref (ad 52)) (.ref (ad 53)) (.ref (ad 54)) (.int 0) (.int 0) (.int 0) (.int 0) (.int 0) (.int 0) (.int 0) (.int 0) (.int 0) (.ref (ad 55)) (.int 0) (.int 0) (.int 0) (.int 0) (.int 0) (.int 0) (.int 0) (.int 0) (.int 0) (.int 0) (.int 0) (.int 0) (.int 0) (.ref (ad 56)) (.ref (ad 57)) (.ref (ad 58)) (.ref (ad 59)) (.ref (ad 60)) (.ref (ad 61)) (.ref (ad 62)) (.int 0) (.int 0) (.ref (ad 63)) (.ref (ad 64)) (.ref (ad 65)) (.ref (ad 66)) (.ref (ad 67)) (.ref (ad 68)) (.ref (ad 69)) (.ref (ad 70)) (.ref (ad 71)) (.ref (ad 72)) (.int 0) (.int 0) (.int 0) (.ref (ad 73)) (.ref (ad 74)) (.ref (ad 75)) (.ref (ad 76)) 0 (xs 1) (xs 2) r hfm) mw_1006 kb_X12_fits (ci := 12) rfl rfl (by decide) rfl rfl hl.1 rfl (Nat.le_of_ble_eq_true rfl) dL_law_865 (by decide)) X hV1 [2] [0, 1] rfl rfl rfl (by decide) (fun u865 H locs hV2 => ?_)
  have hV2 : kV E A s.heap H locs [((ad 0), .inr (11, [.ref (ad 1), .ref (ad 3), .ref (ad 8), .ref (ad 13), .ref (ad 21), .ref (ad 22), .ref (ad 27), .ref (ad 30), .ref (ad 38)])), ((ad 27), .inr (0, [.ref (ad 28), .ref (ad 29), .int 0, .int 0, .int (-1), .int (-1)])), ((ad 42), .inr (12, [.ref (ad 43), .int 0, .int 0, .int 0, .int 0, .int 0, .int 0, .ref (ad 44), .ref (ad 45), .ref (ad 46), .ref (ad 47), .ref (ad 48), .ref (ad 49), .ref (ad 50), .ref (ad 51), .ref (ad 52), .ref (ad 53), .ref (ad 54), .int 0, .int 0, .int 0, .int 0, .int 0, .int 0, .int 0, .int 0, .int 0, .ref (ad 55), .int 0, .int 0, .int 0, .int 0, .int 0, .int 0, .int 0, .int 0, .int 0, .int 0, .int 0, .int 0, .int 0, .ref (ad 56), .ref (ad 57), .ref (ad 58), .ref (ad 59), .ref (ad 60), .ref (ad 61), .ref (ad 62), .int 0, .int 0, .ref (ad 63), .ref (ad 64), .ref (ad 65), .ref (ad 66), .ref (ad 67), .ref (ad 68), .ref (ad 69), .ref (ad 70), .ref (ad 71), .ref (ad 72), .int 0, .int 0, .int 0, .ref (ad 73), .ref (ad 74), .ref (ad 75), .ref (ad 76)]))] := hV2.sub [0, 1, 2] rfl rfl
  clear hV1
  refine lv_icmp_eq (tgt := 1479) hx hb dL_law_868 (by decide) (fun _ => ?_) (fun c3 => absurd rfl c3)
  refine W.widen (k := 1000) (n := 100000) (by decide) (by decide) ?_
  exact T _ _ _ hV2.2.2 hl
set_option maxHeartbeats 4000000 in
set_option maxRecDepth 100000 in
theorem lc_17 {p : Program} {l : Launch} {e : Env} {s : State} {m : MethodId} {below : List Frame} {meth : Method} {c : Code} {E : kE} {A : Nat → Prop} {b : Nat} {xs : Nat → Int32} {Q : State → Prop} {H : Heap} {locs : List Loc} {ls : Array Slot} {ad : Nat → Nat} (X : kC p s m c code 4 RL #[Value.ref b] E A) (hX : va_X b 6 xs s s.heap) (hbl : b < s.heap.size) (hbA : ¬ A b) (hV : kV E A s.heap H locs (lW E ad)) (hl : lv_has ls 4 [(3, .int 0), (2, .ref (ad 42)), (1, .ref (ad 0)), (0, .ref b)]) (r : Int32) (hfx : f_X11_beats 0 (xs 1) (xs 2) (xs 3) (xs 4) = some (r)) (hfm : f_X12_beats 0 (xs 1) (xs 2) (xs 3) (xs 4) = some (r)) (T : ∀ (H : Heap) (locs : List Loc) (ls : Array Slot), va_S A s.heap H locs → lv_has ls 4 [(3, .int 0), (2, .ref (ad 42)), (1, .ref (ad 0)), (0, .ref b)] → W p l e room_1 s m #[Value.ref b] below meth c H locs 1000 100000 Q (F0 m 1479 ls [])) : W p l e room_1 s m #[Value.ref b] below meth c H locs 900 90000 Q (F0 m 873 ls []) := by
  have hx := X.1
  have hb := X.2.1
  have hV0 : kV E A s.heap H locs [((ad 0), .inr (11, [.ref (ad 1), .ref (ad 3), .ref (ad 8), .ref (ad 13), .ref (ad 21), .ref (ad 22), .ref (ad 27), .ref (ad 30), .ref (ad 38)])), ((ad 27), .inr (0, [.ref (ad 28), .ref (ad 29), .int 0, .int 0, .int (-1), .int (-1)])), ((ad 42), .inr (12, [.ref (ad 43), .int 0, .int 0, .int 0, .int 0, .int 0, .int 0, .ref (ad 44), .ref (ad 45), .ref (ad 46), .ref (ad 47), .ref (ad 48), .ref (ad 49), .ref (ad 50), .ref (ad 51), .ref (ad 52), .ref (ad 53), .ref (ad 54), .int 0, .int 0, .int 0, .int 0, .int 0, .int 0, .int 0, .int 0, .int 0, .ref (ad 55), .int 0, .int 0, .int 0, .int 0, .int 0, .int 0, .int 0, .int 0, .int 0, .int 0, .int 0, .int 0, .int 0, .ref (ad 56), .ref (ad 57), .ref (ad 58), .ref (ad 59), .ref (ad 60), .ref (ad 61), .ref (ad 62), .int 0, .int 0, .ref (ad 63), .ref (ad 64), .ref (ad 65), .ref (ad 66), .ref (ad 67), .ref (ad 68), .ref (ad 69), .ref (ad 70), .ref (ad 71), .ref (ad 72), .int 0, .int 0, .int 0, .ref (ad 73), .ref (ad 74), .ref (ad 75), .ref (ad 76)]))] := hV.sub [0, 27, 42] rfl rfl
  clear hV
  refine lv_aload_n hx hb dL_law_873 rfl (lv_at hl 2 rfl) ?_
  refine lv_aload_n hx hb dL_law_874 rfl (lv_at hl 3 rfl) ?_
  refine lv_iload_n hx hb dL_law_875 rfl (lv_at hl 0 rfl) ?_
  refine lv_iconst (v := 1) hx hb dL_law_876 (by decide) ?_
  refine lv_iadd hx hb dL_law_877 ?_
  refine ksld X hX hbl hbA hV0 (v := xs 1) (vp_in_iff.mpr (by decide)) (congrArg xs (by decide)) dL_law_878 ?_
  refine lv_aload_n hx hb dL_law_879 rfl (lv_at hl 3 rfl) ?_
  refine lv_iload_n hx hb dL_law_880 rfl (lv_at hl 0 rfl) ?_
  refine lv_iconst (v := 2) hx hb dL_law_881 (by decide) ?_
  refine lv_iadd hx hb dL_law_882 ?_
  refine ksld X hX hbl hbA hV0 (v := xs 2) (vp_in_iff.mpr (by decide)) (congrArg xs (by decide)) dL_law_883 ?_
  refine lv_aload_n hx hb dL_law_884 rfl (lv_at hl 3 rfl) ?_
  refine lv_iload_n hx hb dL_law_885 rfl (lv_at hl 0 rfl) ?_
  refine lv_iconst (v := 3) hx hb dL_law_886 (by decide) ?_
  refine lv_iadd hx hb dL_law_887 ?_
  refine ksld X hX hbl hbA hV0 (v := xs 3) (vp_in_iff.mpr (by decide)) (congrArg xs (by decide)) dL_law_888 ?_
  refine lv_aload_n hx hb dL_law_889 rfl (lv_at hl 3 rfl) ?_
  refine lv_iload_n hx hb dL_law_890 rfl (lv_at hl 0 rfl) ?_
  refine lv_iconst (v := 4) hx hb dL_law_891 (by decide) ?_
  refine lv_iadd hx hb dL_law_892 ?_
  refine ksld X hX hbl hbA hV0 (v := xs 4) (vp_in_iff.mpr (by decide)) (congrArg xs (by decide)) dL_law_893 ?_
  refine kgoiE (krunV (rest := []) X hV0 [0, 1] (c_X11_beats l E _ (ad 0) (ad 27) (.ref (ad 1)) (.ref (ad 3)) (.ref (ad 8)) (.ref (ad 13)) (.ref (ad 21)) (.ref (ad 22)) (.ref (ad 30)) (.ref (ad 38)) (.ref (ad 28)) (.ref (ad 29)) (.int 0) (.int (-1)) (.int (-1)) 0 (xs 1) (xs 2) (xs 3) (xs 4) r hfx) mw_1019 kb_X11_beats (ci := 11) rfl rfl (by decide) rfl rfl hl.1 rfl (Nat.le_of_ble_eq_true rfl) dL_law_894 (by decide)) X hV0 [0, 1] [2] rfl rfl rfl (by decide) (fun u894 H locs hV1 => ?_)
  have hV1 : kV E A s.heap H locs [((ad 0), .inr (11, [.ref (ad 1), .ref (ad 3), .ref (ad 8), .ref (ad 13), .ref (ad 21), .ref (ad 22), .ref (ad 27), .ref (ad 30), .ref (ad 38)])), ((ad 27), .inr (0, [.ref (ad 28), .ref (ad 29), .int 0, .int 0, .int (-1), .int (-1)])), ((ad 42), .inr (12, [.ref (ad 43), .int 0, .int 0, .int 0, .int 0, .int 0, .int 0, .ref (ad 44), .ref (ad 45), .ref (ad 46), .ref (ad 47), .ref (ad 48), .ref (ad 49), .ref (ad 50), .ref (ad 51), .ref (ad 52), .ref (ad 53), .ref (ad 54), .int 0, .int 0, .int 0, .int 0, .int 0, .int 0, .int 0, .int 0, .int 0, .ref (ad 55), .int 0, .int 0, .int 0, .int 0, .int 0, .int 0, .int 0, .int 0, .int 0, .int 0, .int 0, .int 0, .int 0, .ref (ad 56), .ref (ad 57), .ref (ad 58), .ref (ad 59), .ref (ad 60), .ref (ad 61), .ref (ad 62), .int 0, .int 0, .ref (ad 63), .ref (ad 64), .ref (ad 65), .ref (ad 66), .ref (ad 67), .ref (ad 68), .ref (ad 69), .ref (ad 70), .ref (ad 71), .ref (ad 72), .int 0, .int 0, .int 0, .ref (ad 73), .ref (ad 74), .ref (ad 75), .ref (ad 76)]))] := hV1.sub [1, 2, 0] rfl rfl
  clear hV0
  refine lv_aload_n hx hb dL_law_897 rfl (lv_at hl 1 rfl) ?_
  refine lv_aload_n hx hb dL_law_898 rfl (lv_at hl 3 rfl) ?_
  refine lv_iload_n hx hb dL_law_899 rfl (lv_at hl 0 rfl) ?_
  refine lv_iconst (v := 1) hx hb dL_law_900 (by decide) ?_
  refine lv_iadd hx hb dL_law_901 ?_
  refine ksld X hX hbl hbA hV1 (v := xs 1) (vp_in_iff.mpr (by decide)) (congrArg xs (by decide)) dL_law_902 ?_
  refine lv_aload_n hx hb dL_law_903 rfl (lv_at hl 3 rfl) ?_
  refine lv_iload_n hx hb dL_law_904 rfl (lv_at hl 0 rfl) ?_
  refine lv_iconst (v := 2) hx hb dL_law_905 (by decide) ?_
  refine lv_iadd hx hb dL_law_906 ?_
  refine ksld X hX hbl hbA hV1 (v := xs 2) (vp_in_iff.mpr (by decide)) (congrArg xs (by decide)) dL_law_907 ?_
  refine lv_aload_n hx hb dL_law_908 rfl (lv_at hl 3 rfl) ?_
  refine lv_iload_n hx hb dL_law_909 rfl (lv_at hl 0 rfl) ?_
  refine lv_iconst (v := 3) hx hb dL_law_910 (by decide) ?_
  refine lv_iadd hx hb dL_law_911 ?_
  refine ksld X hX hbl hbA hV1 (v := xs 3) (vp_in_iff.mpr (by decide)) (congrArg xs (by decide)) dL_law_912 ?_
  refine lv_aload_n hx hb dL_law_913 rfl (lv_at hl 3 rfl) ?_
  refine lv_iload_n hx hb dL_law_914 rfl (lv_at hl 0 rfl) ?_
  refine lv_iconst (v := 4) hx hb dL_law_915 (by decide) ?_
  refine lv_iadd hx hb dL_law_916 ?_
  refine ksld X hX hbl hbA hV1 (v := xs 4) (vp_in_iff.mpr (by decide)) (congrArg xs (by decide)) dL_law_917 ?_
  refine kgoiE (krunV (rest := [.int r]) X hV1 [2] (c_X12_beats l E _ (ad 42) (.ref (ad 43)) (.int 0) (.int 0) (.int 0) (.int 0) (.int 0) (.ref (ad 44)) (.ref (ad 45)) (.ref (ad 46)) (.ref (ad 47)) (.ref (ad 48)) (.ref (ad 49)) (.ref (ad 50)) (.ref (ad 51)) (.ref (ad 52)) (.ref (ad 53)) (.ref (ad 54)) (.int 0) (.int 0) (.int 0) (.int 0) (.int 0) (.int 0) (.int 0) (.int 0) (.int 0) (.ref (ad 55)) (.int 0) (.int 0) (.int 0) (.int 0) (.int 0) (.int 0) (.int 0) (.int 0) (.int 0) (.int 0) (.int 0) (.int 0) (.int 0) (.ref (ad 56)) (.ref (ad 57)) (.ref (ad 58)) (.ref (ad 59)) (.ref (ad 60)) (.ref (ad 61)) (.ref (ad 62)) (.int 0) (.int 0) (.ref (ad 63)) (.ref (ad 64)) (.ref (ad 65)) (.ref (ad 66)) (.ref (ad 67)) (.ref (ad 68)) (.ref (ad 69)) (.ref (ad 70)) (.ref (ad 71)) (.ref (ad 72)) (.int 0) (.int 0) (.int 0) (.ref (ad 73)) (.ref (ad 74)) (.ref (ad 75)) (.ref (ad 76)) 0 (xs 1) (xs 2) (xs 3) (xs 4) r hfm) mw_1035 kb_X12_beats (ci := 12) rfl rfl (by decide) rfl rfl hl.1 rfl (Nat.le_of_ble_eq_true rfl) dL_law_918 (by decide)) X hV1 [2] [0, 1] rfl rfl rfl (by decide) (fun u918 H locs hV2 => ?_)
  have hV2 : kV E A s.heap H locs [((ad 0), .inr (11, [.ref (ad 1), .ref (ad 3), .ref (ad 8), .ref (ad 13), .ref (ad 21), .ref (ad 22), .ref (ad 27), .ref (ad 30), .ref (ad 38)])), ((ad 27), .inr (0, [.ref (ad 28), .ref (ad 29), .int 0, .int 0, .int (-1), .int (-1)])), ((ad 42), .inr (12, [.ref (ad 43), .int 0, .int 0, .int 0, .int 0, .int 0, .int 0, .ref (ad 44), .ref (ad 45), .ref (ad 46), .ref (ad 47), .ref (ad 48), .ref (ad 49), .ref (ad 50), .ref (ad 51), .ref (ad 52), .ref (ad 53), .ref (ad 54), .int 0, .int 0, .int 0, .int 0, .int 0, .int 0, .int 0, .int 0, .int 0, .ref (ad 55), .int 0, .int 0, .int 0, .int 0, .int 0, .int 0, .int 0, .int 0, .int 0, .int 0, .int 0, .int 0, .int 0, .ref (ad 56), .ref (ad 57), .ref (ad 58), .ref (ad 59), .ref (ad 60), .ref (ad 61), .ref (ad 62), .int 0, .int 0, .ref (ad 63), .ref (ad 64), .ref (ad 65), .ref (ad 66), .ref (ad 67), .ref (ad 68), .ref (ad 69), .ref (ad 70), .ref (ad 71), .ref (ad 72), .int 0, .int 0, .int 0, .ref (ad 73), .ref (ad 74), .ref (ad 75), .ref (ad 76)]))] := hV2.sub [0, 1, 2] rfl rfl
  clear hV1
  refine lv_icmp_eq (tgt := 1479) hx hb dL_law_921 (by decide) (fun _ => ?_) (fun c3 => absurd rfl c3)
  refine W.widen (k := 1000) (n := 100000) (by decide) (by decide) ?_
  exact T _ _ _ hV2.2.2 hl
set_option maxHeartbeats 4000000 in
set_option maxRecDepth 100000 in
theorem lc_18 {p : Program} {l : Launch} {e : Env} {s : State} {m : MethodId} {below : List Frame} {meth : Method} {c : Code} {E : kE} {A : Nat → Prop} {b : Nat} {xs : Nat → Int32} {Q : State → Prop} {H : Heap} {locs : List Loc} {ls : Array Slot} {ad : Nat → Nat} (X : kC p s m c code 4 RL #[Value.ref b] E A) (hX : va_X b 6 xs s s.heap) (hbl : b < s.heap.size) (hbA : ¬ A b) (hV : kV E A s.heap H locs (lW E ad)) (hl : lv_has ls 4 [(3, .int 0), (2, .ref (ad 42)), (1, .ref (ad 0)), (0, .ref b)]) (r : Int32) (hfx : f_X11_counted 0 (xs 1) (xs 2) = some (r)) (hfm : f_X12_counted 0 (xs 1) (xs 2) = some (r)) (T : ∀ (H : Heap) (locs : List Loc) (ls : Array Slot), va_S A s.heap H locs → lv_has ls 4 [(3, .int 0), (2, .ref (ad 42)), (1, .ref (ad 0)), (0, .ref b)] → W p l e room_1 s m #[Value.ref b] below meth c H locs 1000 100000 Q (F0 m 1479 ls [])) : W p l e room_1 s m #[Value.ref b] below meth c H locs 900 90000 Q (F0 m 926 ls []) := by
  have hx := X.1
  have hb := X.2.1
  have hV0 : kV E A s.heap H locs [((ad 0), .inr (11, [.ref (ad 1), .ref (ad 3), .ref (ad 8), .ref (ad 13), .ref (ad 21), .ref (ad 22), .ref (ad 27), .ref (ad 30), .ref (ad 38)])), ((ad 27), .inr (0, [.ref (ad 28), .ref (ad 29), .int 0, .int 0, .int (-1), .int (-1)])), ((ad 42), .inr (12, [.ref (ad 43), .int 0, .int 0, .int 0, .int 0, .int 0, .int 0, .ref (ad 44), .ref (ad 45), .ref (ad 46), .ref (ad 47), .ref (ad 48), .ref (ad 49), .ref (ad 50), .ref (ad 51), .ref (ad 52), .ref (ad 53), .ref (ad 54), .int 0, .int 0, .int 0, .int 0, .int 0, .int 0, .int 0, .int 0, .int 0, .ref (ad 55), .int 0, .int 0, .int 0, .int 0, .int 0, .int 0, .int 0, .int 0, .int 0, .int 0, .int 0, .int 0, .int 0, .ref (ad 56), .ref (ad 57), .ref (ad 58), .ref (ad 59), .ref (ad 60), .ref (ad 61), .ref (ad 62), .int 0, .int 0, .ref (ad 63), .ref (ad 64), .ref (ad 65), .ref (ad 66), .ref (ad 67), .ref (ad 68), .ref (ad 69), .ref (ad 70), .ref (ad 71), .ref (ad 72), .int 0, .int 0, .int 0, .ref (ad 73), .ref (ad 74), .ref (ad 75), .ref (ad 76)]))] := hV.sub [0, 27, 42] rfl rfl
  clear hV
  refine lv_aload_n hx hb dL_law_926 rfl (lv_at hl 2 rfl) ?_
  refine lv_aload_n hx hb dL_law_927 rfl (lv_at hl 3 rfl) ?_
  refine lv_iload_n hx hb dL_law_928 rfl (lv_at hl 0 rfl) ?_
  refine lv_iconst (v := 1) hx hb dL_law_929 (by decide) ?_
  refine lv_iadd hx hb dL_law_930 ?_
  refine ksld X hX hbl hbA hV0 (v := xs 1) (vp_in_iff.mpr (by decide)) (congrArg xs (by decide)) dL_law_931 ?_
  refine lv_aload_n hx hb dL_law_932 rfl (lv_at hl 3 rfl) ?_
  refine lv_iload_n hx hb dL_law_933 rfl (lv_at hl 0 rfl) ?_
  refine lv_iconst (v := 2) hx hb dL_law_934 (by decide) ?_
  refine lv_iadd hx hb dL_law_935 ?_
  refine ksld X hX hbl hbA hV0 (v := xs 2) (vp_in_iff.mpr (by decide)) (congrArg xs (by decide)) dL_law_936 ?_
  refine kgoiE (krunV (rest := []) X hV0 [0, 1] (c_X11_counted l E _ (ad 0) (ad 27) (.ref (ad 1)) (.ref (ad 3)) (.ref (ad 8)) (.ref (ad 13)) (.ref (ad 21)) (.ref (ad 22)) (.ref (ad 30)) (.ref (ad 38)) (.ref (ad 28)) (.ref (ad 29)) (.int 0) (.int (-1)) (.int (-1)) 0 (xs 1) (xs 2) r hfx) mw_1050 kb_X11_counted (ci := 11) rfl rfl (by decide) rfl rfl hl.1 rfl (Nat.le_of_ble_eq_true rfl) dL_law_937 (by decide)) X hV0 [0, 1] [2] rfl rfl rfl (by decide) (fun u937 H locs hV1 => ?_)
  have hV1 : kV E A s.heap H locs [((ad 0), .inr (11, [.ref (ad 1), .ref (ad 3), .ref (ad 8), .ref (ad 13), .ref (ad 21), .ref (ad 22), .ref (ad 27), .ref (ad 30), .ref (ad 38)])), ((ad 27), .inr (0, [.ref (ad 28), .ref (ad 29), .int 0, .int 0, .int (-1), .int (-1)])), ((ad 42), .inr (12, [.ref (ad 43), .int 0, .int 0, .int 0, .int 0, .int 0, .int 0, .ref (ad 44), .ref (ad 45), .ref (ad 46), .ref (ad 47), .ref (ad 48), .ref (ad 49), .ref (ad 50), .ref (ad 51), .ref (ad 52), .ref (ad 53), .ref (ad 54), .int 0, .int 0, .int 0, .int 0, .int 0, .int 0, .int 0, .int 0, .int 0, .ref (ad 55), .int 0, .int 0, .int 0, .int 0, .int 0, .int 0, .int 0, .int 0, .int 0, .int 0, .int 0, .int 0, .int 0, .ref (ad 56), .ref (ad 57), .ref (ad 58), .ref (ad 59), .ref (ad 60), .ref (ad 61), .ref (ad 62), .int 0, .int 0, .ref (ad 63), .ref (ad 64), .ref (ad 65), .ref (ad 66), .ref (ad 67), .ref (ad 68), .ref (ad 69), .ref (ad 70), .ref (ad 71), .ref (ad 72), .int 0, .int 0, .int 0, .ref (ad 73), .ref (ad 74), .ref (ad 75), .ref (ad 76)]))] := hV1.sub [1, 2, 0] rfl rfl
  clear hV0
  refine lv_aload_n hx hb dL_law_940 rfl (lv_at hl 1 rfl) ?_
  refine lv_aload_n hx hb dL_law_941 rfl (lv_at hl 3 rfl) ?_
  refine lv_iload_n hx hb dL_law_942 rfl (lv_at hl 0 rfl) ?_
  refine lv_iconst (v := 1) hx hb dL_law_943 (by decide) ?_
  refine lv_iadd hx hb dL_law_944 ?_
  refine ksld X hX hbl hbA hV1 (v := xs 1) (vp_in_iff.mpr (by decide)) (congrArg xs (by decide)) dL_law_945 ?_
  refine lv_aload_n hx hb dL_law_946 rfl (lv_at hl 3 rfl) ?_
  refine lv_iload_n hx hb dL_law_947 rfl (lv_at hl 0 rfl) ?_
  refine lv_iconst (v := 2) hx hb dL_law_948 (by decide) ?_
  refine lv_iadd hx hb dL_law_949 ?_
  refine ksld X hX hbl hbA hV1 (v := xs 2) (vp_in_iff.mpr (by decide)) (congrArg xs (by decide)) dL_law_950 ?_
  refine kgoiE (krunV (rest := [.int r]) X hV1 [2] (c_X12_counted l E _ (ad 42) (.ref (ad 43)) (.int 0) (.int 0) (.int 0) (.int 0) (.int 0) (.ref (ad 44)) (.ref (ad 45)) (.ref (ad 46)) (.ref (ad 47)) (.ref (ad 48)) (.ref (ad 49)) (.ref (ad 50)) (.ref (ad 51)) (.ref (ad 52)) (.ref (ad 53)) (.ref (ad 54)) (.int 0) (.int 0) (.int 0) (.int 0) (.int 0) (.int 0) (.int 0) (.int 0) (.int 0) (.ref (ad 55)) (.int 0) (.int 0) (.int 0) (.int 0) (.int 0) (.int 0) (.int 0) (.int 0) (.int 0) (.int 0) (.int 0) (.int 0) (.int 0) (.ref (ad 56)) (.ref (ad 57)) (.ref (ad 58)) (.ref (ad 59)) (.ref (ad 60)) (.ref (ad 61)) (.ref (ad 62)) (.int 0) (.int 0) (.ref (ad 63)) (.ref (ad 64)) (.ref (ad 65)) (.ref (ad 66)) (.ref (ad 67)) (.ref (ad 68)) (.ref (ad 69)) (.ref (ad 70)) (.ref (ad 71)) (.ref (ad 72)) (.int 0) (.int 0) (.int 0) (.ref (ad 73)) (.ref (ad 74)) (.ref (ad 75)) (.ref (ad 76)) 0 (xs 1) (xs 2) r hfm) mw_1059 kb_X12_counted (ci := 12) rfl rfl (by decide) rfl rfl hl.1 rfl (Nat.le_of_ble_eq_true rfl) dL_law_951 (by decide)) X hV1 [2] [0, 1] rfl rfl rfl (by decide) (fun u951 H locs hV2 => ?_)
  have hV2 : kV E A s.heap H locs [((ad 0), .inr (11, [.ref (ad 1), .ref (ad 3), .ref (ad 8), .ref (ad 13), .ref (ad 21), .ref (ad 22), .ref (ad 27), .ref (ad 30), .ref (ad 38)])), ((ad 27), .inr (0, [.ref (ad 28), .ref (ad 29), .int 0, .int 0, .int (-1), .int (-1)])), ((ad 42), .inr (12, [.ref (ad 43), .int 0, .int 0, .int 0, .int 0, .int 0, .int 0, .ref (ad 44), .ref (ad 45), .ref (ad 46), .ref (ad 47), .ref (ad 48), .ref (ad 49), .ref (ad 50), .ref (ad 51), .ref (ad 52), .ref (ad 53), .ref (ad 54), .int 0, .int 0, .int 0, .int 0, .int 0, .int 0, .int 0, .int 0, .int 0, .ref (ad 55), .int 0, .int 0, .int 0, .int 0, .int 0, .int 0, .int 0, .int 0, .int 0, .int 0, .int 0, .int 0, .int 0, .ref (ad 56), .ref (ad 57), .ref (ad 58), .ref (ad 59), .ref (ad 60), .ref (ad 61), .ref (ad 62), .int 0, .int 0, .ref (ad 63), .ref (ad 64), .ref (ad 65), .ref (ad 66), .ref (ad 67), .ref (ad 68), .ref (ad 69), .ref (ad 70), .ref (ad 71), .ref (ad 72), .int 0, .int 0, .int 0, .ref (ad 73), .ref (ad 74), .ref (ad 75), .ref (ad 76)]))] := hV2.sub [0, 1, 2] rfl rfl
  clear hV1
  refine lv_icmp_eq (tgt := 1479) hx hb dL_law_954 (by decide) (fun _ => ?_) (fun c3 => absurd rfl c3)
  refine W.widen (k := 1000) (n := 100000) (by decide) (by decide) ?_
  exact T _ _ _ hV2.2.2 hl
set_option maxHeartbeats 4000000 in
set_option maxRecDepth 100000 in
theorem lc_19 {p : Program} {l : Launch} {e : Env} {s : State} {m : MethodId} {below : List Frame} {meth : Method} {c : Code} {E : kE} {A : Nat → Prop} {b : Nat} {xs : Nat → Int32} {Q : State → Prop} {H : Heap} {locs : List Loc} {ls : Array Slot} {ad : Nat → Nat} (X : kC p s m c code 4 RL #[Value.ref b] E A) (hX : va_X b 6 xs s s.heap) (hbl : b < s.heap.size) (hbA : ¬ A b) (hV : kV E A s.heap H locs (lW E ad)) (hl : lv_has ls 4 [(3, .int 0), (2, .ref (ad 42)), (1, .ref (ad 0)), (0, .ref b)]) (r : Int32) (hfx : f_X11_sure 0 (xs 1) (xs 2) (xs 3) = some (r)) (hfm : f_X12_sure 0 (xs 1) (xs 2) (xs 3) = some (r)) (T : ∀ (H : Heap) (locs : List Loc) (ls : Array Slot), va_S A s.heap H locs → lv_has ls 4 [(3, .int 0), (2, .ref (ad 42)), (1, .ref (ad 0)), (0, .ref b)] → W p l e room_1 s m #[Value.ref b] below meth c H locs 1000 100000 Q (F0 m 1479 ls [])) : W p l e room_1 s m #[Value.ref b] below meth c H locs 900 90000 Q (F0 m 959 ls []) := by
  have hx := X.1
  have hb := X.2.1
  have hV0 : kV E A s.heap H locs [((ad 0), .inr (11, [.ref (ad 1), .ref (ad 3), .ref (ad 8), .ref (ad 13), .ref (ad 21), .ref (ad 22), .ref (ad 27), .ref (ad 30), .ref (ad 38)])), ((ad 27), .inr (0, [.ref (ad 28), .ref (ad 29), .int 0, .int 0, .int (-1), .int (-1)])), ((ad 42), .inr (12, [.ref (ad 43), .int 0, .int 0, .int 0, .int 0, .int 0, .int 0, .ref (ad 44), .ref (ad 45), .ref (ad 46), .ref (ad 47), .ref (ad 48), .ref (ad 49), .ref (ad 50), .ref (ad 51), .ref (ad 52), .ref (ad 53), .ref (ad 54), .int 0, .int 0, .int 0, .int 0, .int 0, .int 0, .int 0, .int 0, .int 0, .ref (ad 55), .int 0, .int 0, .int 0, .int 0, .int 0, .int 0, .int 0, .int 0, .int 0, .int 0, .int 0, .int 0, .int 0, .ref (ad 56), .ref (ad 57), .ref (ad 58), .ref (ad 59), .ref (ad 60), .ref (ad 61), .ref (ad 62), .int 0, .int 0, .ref (ad 63), .ref (ad 64), .ref (ad 65), .ref (ad 66), .ref (ad 67), .ref (ad 68), .ref (ad 69), .ref (ad 70), .ref (ad 71), .ref (ad 72), .int 0, .int 0, .int 0, .ref (ad 73), .ref (ad 74), .ref (ad 75), .ref (ad 76)]))] := hV.sub [0, 27, 42] rfl rfl
  clear hV
  refine lv_aload_n hx hb dL_law_959 rfl (lv_at hl 2 rfl) ?_
  refine lv_aload_n hx hb dL_law_960 rfl (lv_at hl 3 rfl) ?_
  refine lv_iload_n hx hb dL_law_961 rfl (lv_at hl 0 rfl) ?_
  refine lv_iconst (v := 1) hx hb dL_law_962 (by decide) ?_
  refine lv_iadd hx hb dL_law_963 ?_
  refine ksld X hX hbl hbA hV0 (v := xs 1) (vp_in_iff.mpr (by decide)) (congrArg xs (by decide)) dL_law_964 ?_
  refine lv_aload_n hx hb dL_law_965 rfl (lv_at hl 3 rfl) ?_
  refine lv_iload_n hx hb dL_law_966 rfl (lv_at hl 0 rfl) ?_
  refine lv_iconst (v := 2) hx hb dL_law_967 (by decide) ?_
  refine lv_iadd hx hb dL_law_968 ?_
  refine ksld X hX hbl hbA hV0 (v := xs 2) (vp_in_iff.mpr (by decide)) (congrArg xs (by decide)) dL_law_969 ?_
  refine lv_aload_n hx hb dL_law_970 rfl (lv_at hl 3 rfl) ?_
  refine lv_iload_n hx hb dL_law_971 rfl (lv_at hl 0 rfl) ?_
  refine lv_iconst (v := 3) hx hb dL_law_972 (by decide) ?_
  refine lv_iadd hx hb dL_law_973 ?_
  refine ksld X hX hbl hbA hV0 (v := xs 3) (vp_in_iff.mpr (by decide)) (congrArg xs (by decide)) dL_law_974 ?_
  refine kgoiE (krunV (rest := []) X hV0 [0, 1] (c_X11_sure l E _ (ad 0) (ad 27) (.ref (ad 1)) (.ref (ad 3)) (.ref (ad 8)) (.ref (ad 13)) (.ref (ad 21)) (.ref (ad 22)) (.ref (ad 30)) (.ref (ad 38)) (.ref (ad 28)) (.ref (ad 29)) (.int 0) (.int (-1)) (.int (-1)) 0 (xs 1) (xs 2) (xs 3) r hfx) mw_1067 kb_X11_sure (ci := 11) rfl rfl (by decide) rfl rfl hl.1 rfl (Nat.le_of_ble_eq_true rfl) dL_law_975 (by decide)) X hV0 [0, 1] [2] rfl rfl rfl (by decide) (fun u975 H locs hV1 => ?_)
  have hV1 : kV E A s.heap H locs [((ad 0), .inr (11, [.ref (ad 1), .ref (ad 3), .ref (ad 8), .ref (ad 13), .ref (ad 21), .ref (ad 22), .ref (ad 27), .ref (ad 30), .ref (ad 38)])), ((ad 27), .inr (0, [.ref (ad 28), .ref (ad 29), .int 0, .int 0, .int (-1), .int (-1)])), ((ad 42), .inr (12, [.ref (ad 43), .int 0, .int 0, .int 0, .int 0, .int 0, .int 0, .ref (ad 44), .ref (ad 45), .ref (ad 46), .ref (ad 47), .ref (ad 48), .ref (ad 49), .ref (ad 50), .ref (ad 51), .ref (ad 52), .ref (ad 53), .ref (ad 54), .int 0, .int 0, .int 0, .int 0, .int 0, .int 0, .int 0, .int 0, .int 0, .ref (ad 55), .int 0, .int 0, .int 0, .int 0, .int 0, .int 0, .int 0, .int 0, .int 0, .int 0, .int 0, .int 0, .int 0, .ref (ad 56), .ref (ad 57), .ref (ad 58), .ref (ad 59), .ref (ad 60), .ref (ad 61), .ref (ad 62), .int 0, .int 0, .ref (ad 63), .ref (ad 64), .ref (ad 65), .ref (ad 66), .ref (ad 67), .ref (ad 68), .ref (ad 69), .ref (ad 70), .ref (ad 71), .ref (ad 72), .int 0, .int 0, .int 0, .ref (ad 73), .ref (ad 74), .ref (ad 75), .ref (ad 76)]))] := hV1.sub [1, 2, 0] rfl rfl
  clear hV0
  refine lv_aload_n hx hb dL_law_978 rfl (lv_at hl 1 rfl) ?_
  refine lv_aload_n hx hb dL_law_979 rfl (lv_at hl 3 rfl) ?_
  refine lv_iload_n hx hb dL_law_980 rfl (lv_at hl 0 rfl) ?_
  refine lv_iconst (v := 1) hx hb dL_law_981 (by decide) ?_
  refine lv_iadd hx hb dL_law_982 ?_
  refine ksld X hX hbl hbA hV1 (v := xs 1) (vp_in_iff.mpr (by decide)) (congrArg xs (by decide)) dL_law_983 ?_
  refine lv_aload_n hx hb dL_law_984 rfl (lv_at hl 3 rfl) ?_
  refine lv_iload_n hx hb dL_law_985 rfl (lv_at hl 0 rfl) ?_
  refine lv_iconst (v := 2) hx hb dL_law_986 (by decide) ?_
  refine lv_iadd hx hb dL_law_987 ?_
  refine ksld X hX hbl hbA hV1 (v := xs 2) (vp_in_iff.mpr (by decide)) (congrArg xs (by decide)) dL_law_988 ?_
  refine lv_aload_n hx hb dL_law_989 rfl (lv_at hl 3 rfl) ?_
  refine lv_iload_n hx hb dL_law_990 rfl (lv_at hl 0 rfl) ?_
  refine lv_iconst (v := 3) hx hb dL_law_991 (by decide) ?_
  refine lv_iadd hx hb dL_law_992 ?_
  refine ksld X hX hbl hbA hV1 (v := xs 3) (vp_in_iff.mpr (by decide)) (congrArg xs (by decide)) dL_law_993 ?_
  refine kgoiE (krunV (rest := [.int r]) X hV1 [2] (c_X12_sure l E _ (ad 42) (.ref (ad 43)) (.int 0) (.int 0) (.int 0) (.int 0) (.int 0) (.ref (ad 44)) (.ref (ad 45)) (.ref (ad 46)) (.ref (ad 47)) (.ref (ad 48)) (.ref (ad 49)) (.ref (ad 50)) (.ref (ad 51)) (.ref (ad 52)) (.ref (ad 53)) (.ref (ad 54)) (.int 0) (.int 0) (.int 0) (.int 0) (.int 0) (.int 0) (.int 0) (.int 0) (.int 0) (.ref (ad 55)) (.int 0) (.int 0) (.int 0) (.int 0) (.int 0) (.int 0) (.int 0) (.int 0) (.int 0) (.int 0) (.int 0) (.int 0) (.int 0) (.ref (ad 56)) (.ref (ad 57)) (.ref (ad 58)) (.ref (ad 59)) (.ref (ad 60)) (.ref (ad 61)) (.ref (ad 62)) (.int 0) (.int 0) (.ref (ad 63)) (.ref (ad 64)) (.ref (ad 65)) (.ref (ad 66)) (.ref (ad 67)) (.ref (ad 68)) (.ref (ad 69)) (.ref (ad 70)) (.ref (ad 71)) (.ref (ad 72)) (.int 0) (.int 0) (.int 0) (.ref (ad 73)) (.ref (ad 74)) (.ref (ad 75)) (.ref (ad 76)) 0 (xs 1) (xs 2) (xs 3) r hfm) mw_1076 kb_X12_sure (ci := 12) rfl rfl (by decide) rfl rfl hl.1 rfl (Nat.le_of_ble_eq_true rfl) dL_law_994 (by decide)) X hV1 [2] [0, 1] rfl rfl rfl (by decide) (fun u994 H locs hV2 => ?_)
  have hV2 : kV E A s.heap H locs [((ad 0), .inr (11, [.ref (ad 1), .ref (ad 3), .ref (ad 8), .ref (ad 13), .ref (ad 21), .ref (ad 22), .ref (ad 27), .ref (ad 30), .ref (ad 38)])), ((ad 27), .inr (0, [.ref (ad 28), .ref (ad 29), .int 0, .int 0, .int (-1), .int (-1)])), ((ad 42), .inr (12, [.ref (ad 43), .int 0, .int 0, .int 0, .int 0, .int 0, .int 0, .ref (ad 44), .ref (ad 45), .ref (ad 46), .ref (ad 47), .ref (ad 48), .ref (ad 49), .ref (ad 50), .ref (ad 51), .ref (ad 52), .ref (ad 53), .ref (ad 54), .int 0, .int 0, .int 0, .int 0, .int 0, .int 0, .int 0, .int 0, .int 0, .ref (ad 55), .int 0, .int 0, .int 0, .int 0, .int 0, .int 0, .int 0, .int 0, .int 0, .int 0, .int 0, .int 0, .int 0, .ref (ad 56), .ref (ad 57), .ref (ad 58), .ref (ad 59), .ref (ad 60), .ref (ad 61), .ref (ad 62), .int 0, .int 0, .ref (ad 63), .ref (ad 64), .ref (ad 65), .ref (ad 66), .ref (ad 67), .ref (ad 68), .ref (ad 69), .ref (ad 70), .ref (ad 71), .ref (ad 72), .int 0, .int 0, .int 0, .ref (ad 73), .ref (ad 74), .ref (ad 75), .ref (ad 76)]))] := hV2.sub [0, 1, 2] rfl rfl
  clear hV1
  refine lv_icmp_eq (tgt := 1479) hx hb dL_law_997 (by decide) (fun _ => ?_) (fun c3 => absurd rfl c3)
  refine W.widen (k := 1000) (n := 100000) (by decide) (by decide) ?_
  exact T _ _ _ hV2.2.2 hl
set_option maxHeartbeats 4000000 in
set_option maxRecDepth 100000 in
theorem lc_20 {p : Program} {l : Launch} {e : Env} {s : State} {m : MethodId} {below : List Frame} {meth : Method} {c : Code} {E : kE} {A : Nat → Prop} {b : Nat} {xs : Nat → Int32} {Q : State → Prop} {H : Heap} {locs : List Loc} {ls : Array Slot} {ad : Nat → Nat} (X : kC p s m c code 4 RL #[Value.ref b] E A) (hX : va_X b 6 xs s s.heap) (hbl : b < s.heap.size) (hbA : ¬ A b) (hV : kV E A s.heap H locs (lW E ad)) (hl : lv_has ls 4 [(3, .int 0), (2, .ref (ad 42)), (1, .ref (ad 0)), (0, .ref b)]) (r : Int32) (hfx : f_X11_lost 0 (xs 1) (xs 2) (xs 3) = some (r)) (hfm : f_X12_lost 0 (xs 1) (xs 2) (xs 3) = some (r)) (T : ∀ (H : Heap) (locs : List Loc) (ls : Array Slot), va_S A s.heap H locs → lv_has ls 4 [(3, .int 0), (2, .ref (ad 42)), (1, .ref (ad 0)), (0, .ref b)] → W p l e room_1 s m #[Value.ref b] below meth c H locs 1000 100000 Q (F0 m 1479 ls [])) : W p l e room_1 s m #[Value.ref b] below meth c H locs 900 90000 Q (F0 m 1002 ls []) := by
  have hx := X.1
  have hb := X.2.1
  have hV0 : kV E A s.heap H locs [((ad 0), .inr (11, [.ref (ad 1), .ref (ad 3), .ref (ad 8), .ref (ad 13), .ref (ad 21), .ref (ad 22), .ref (ad 27), .ref (ad 30), .ref (ad 38)])), ((ad 27), .inr (0, [.ref (ad 28), .ref (ad 29), .int 0, .int 0, .int (-1), .int (-1)])), ((ad 42), .inr (12, [.ref (ad 43), .int 0, .int 0, .int 0, .int 0, .int 0, .int 0, .ref (ad 44), .ref (ad 45), .ref (ad 46), .ref (ad 47), .ref (ad 48), .ref (ad 49), .ref (ad 50), .ref (ad 51), .ref (ad 52), .ref (ad 53), .ref (ad 54), .int 0, .int 0, .int 0, .int 0, .int 0, .int 0, .int 0, .int 0, .int 0, .ref (ad 55), .int 0, .int 0, .int 0, .int 0, .int 0, .int 0, .int 0, .int 0, .int 0, .int 0, .int 0, .int 0, .int 0, .ref (ad 56), .ref (ad 57), .ref (ad 58), .ref (ad 59), .ref (ad 60), .ref (ad 61), .ref (ad 62), .int 0, .int 0, .ref (ad 63), .ref (ad 64), .ref (ad 65), .ref (ad 66), .ref (ad 67), .ref (ad 68), .ref (ad 69), .ref (ad 70), .ref (ad 71), .ref (ad 72), .int 0, .int 0, .int 0, .ref (ad 73), .ref (ad 74), .ref (ad 75), .ref (ad 76)]))] := hV.sub [0, 27, 42] rfl rfl
  clear hV
  refine lv_aload_n hx hb dL_law_1002 rfl (lv_at hl 2 rfl) ?_
  refine lv_aload_n hx hb dL_law_1003 rfl (lv_at hl 3 rfl) ?_
  refine lv_iload_n hx hb dL_law_1004 rfl (lv_at hl 0 rfl) ?_
  refine lv_iconst (v := 1) hx hb dL_law_1005 (by decide) ?_
  refine lv_iadd hx hb dL_law_1006 ?_
  refine ksld X hX hbl hbA hV0 (v := xs 1) (vp_in_iff.mpr (by decide)) (congrArg xs (by decide)) dL_law_1007 ?_
  refine lv_aload_n hx hb dL_law_1008 rfl (lv_at hl 3 rfl) ?_
  refine lv_iload_n hx hb dL_law_1009 rfl (lv_at hl 0 rfl) ?_
  refine lv_iconst (v := 2) hx hb dL_law_1010 (by decide) ?_
  refine lv_iadd hx hb dL_law_1011 ?_
  refine ksld X hX hbl hbA hV0 (v := xs 2) (vp_in_iff.mpr (by decide)) (congrArg xs (by decide)) dL_law_1012 ?_
  refine lv_aload_n hx hb dL_law_1013 rfl (lv_at hl 3 rfl) ?_
  refine lv_iload_n hx hb dL_law_1014 rfl (lv_at hl 0 rfl) ?_
  refine lv_iconst (v := 3) hx hb dL_law_1015 (by decide) ?_
  refine lv_iadd hx hb dL_law_1016 ?_
  refine ksld X hX hbl hbA hV0 (v := xs 3) (vp_in_iff.mpr (by decide)) (congrArg xs (by decide)) dL_law_1017 ?_
  refine kgoiE (krunV (rest := []) X hV0 [0, 1] (c_X11_lost l E _ (ad 0) (ad 27) (.ref (ad 1)) (.ref (ad 3)) (.ref (ad 8)) (.ref (ad 13)) (.ref (ad 21)) (.ref (ad 22)) (.ref (ad 30)) (.ref (ad 38)) (.ref (ad 28)) (.ref (ad 29)) (.int 0) (.int (-1)) (.int (-1)) 0 (xs 1) (xs 2) (xs 3) r hfx) mw_1080 kb_X11_lost (ci := 11) rfl rfl (by decide) rfl rfl hl.1 rfl (Nat.le_of_ble_eq_true rfl) dL_law_1018 (by decide)) X hV0 [0, 1] [2] rfl rfl rfl (by decide) (fun u1018 H locs hV1 => ?_)
  have hV1 : kV E A s.heap H locs [((ad 0), .inr (11, [.ref (ad 1), .ref (ad 3), .ref (ad 8), .ref (ad 13), .ref (ad 21), .ref (ad 22), .ref (ad 27), .ref (ad 30), .ref (ad 38)])), ((ad 27), .inr (0, [.ref (ad 28), .ref (ad 29), .int 0, .int 0, .int (-1), .int (-1)])), ((ad 42), .inr (12, [.ref (ad 43), .int 0, .int 0, .int 0, .int 0, .int 0, .int 0, .ref (ad 44), .ref (ad 45), .ref (ad 46), .ref (ad 47), .ref (ad 48), .ref (ad 49), .ref (ad 50), .ref (ad 51), .ref (ad 52), .ref (ad 53), .ref (ad 54), .int 0, .int 0, .int 0, .int 0, .int 0, .int 0, .int 0, .int 0, .int 0, .ref (ad 55), .int 0, .int 0, .int 0, .int 0, .int 0, .int 0, .int 0, .int 0, .int 0, .int 0, .int 0, .int 0, .int 0, .ref (ad 56), .ref (ad 57), .ref (ad 58), .ref (ad 59), .ref (ad 60), .ref (ad 61), .ref (ad 62), .int 0, .int 0, .ref (ad 63), .ref (ad 64), .ref (ad 65), .ref (ad 66), .ref (ad 67), .ref (ad 68), .ref (ad 69), .ref (ad 70), .ref (ad 71), .ref (ad 72), .int 0, .int 0, .int 0, .ref (ad 73), .ref (ad 74), .ref (ad 75), .ref (ad 76)]))] := hV1.sub [1, 2, 0] rfl rfl
  clear hV0
  refine lv_aload_n hx hb dL_law_1021 rfl (lv_at hl 1 rfl) ?_
  refine lv_aload_n hx hb dL_law_1022 rfl (lv_at hl 3 rfl) ?_
  refine lv_iload_n hx hb dL_law_1023 rfl (lv_at hl 0 rfl) ?_
  refine lv_iconst (v := 1) hx hb dL_law_1024 (by decide) ?_
  refine lv_iadd hx hb dL_law_1025 ?_
  refine ksld X hX hbl hbA hV1 (v := xs 1) (vp_in_iff.mpr (by decide)) (congrArg xs (by decide)) dL_law_1026 ?_
  refine lv_aload_n hx hb dL_law_1027 rfl (lv_at hl 3 rfl) ?_
  refine lv_iload_n hx hb dL_law_1028 rfl (lv_at hl 0 rfl) ?_
  refine lv_iconst (v := 2) hx hb dL_law_1029 (by decide) ?_
  refine lv_iadd hx hb dL_law_1030 ?_
  refine ksld X hX hbl hbA hV1 (v := xs 2) (vp_in_iff.mpr (by decide)) (congrArg xs (by decide)) dL_law_1031 ?_
  refine lv_aload_n hx hb dL_law_1032 rfl (lv_at hl 3 rfl) ?_
  refine lv_iload_n hx hb dL_law_1033 rfl (lv_at hl 0 rfl) ?_
  refine lv_iconst (v := 3) hx hb dL_law_1034 (by decide) ?_
  refine lv_iadd hx hb dL_law_1035 ?_
  refine ksld X hX hbl hbA hV1 (v := xs 3) (vp_in_iff.mpr (by decide)) (congrArg xs (by decide)) dL_law_1036 ?_
  refine kgoiE (krunV (rest := [.int r]) X hV1 [2] (c_X12_lost l E _ (ad 42) (.ref (ad 43)) (.int 0) (.int 0) (.int 0) (.int 0) (.int 0) (.ref (ad 44)) (.ref (ad 45)) (.ref (ad 46)) (.ref (ad 47)) (.ref (ad 48)) (.ref (ad 49)) (.ref (ad 50)) (.ref (ad 51)) (.ref (ad 52)) (.ref (ad 53)) (.ref (ad 54)) (.int 0) (.int 0) (.int 0) (.int 0) (.int 0) (.int 0) (.int 0) (.int 0) (.int 0) (.ref (ad 55)) (.int 0) (.int 0) (.int 0) (.int 0) (.int 0) (.int 0) (.int 0) (.int 0) (.int 0) (.int 0) (.int 0) (.int 0) (.int 0) (.ref (ad 56)) (.ref (ad 57)) (.ref (ad 58)) (.ref (ad 59)) (.ref (ad 60)) (.ref (ad 61)) (.ref (ad 62)) (.int 0) (.int 0) (.ref (ad 63)) (.ref (ad 64)) (.ref (ad 65)) (.ref (ad 66)) (.ref (ad 67)) (.ref (ad 68)) (.ref (ad 69)) (.ref (ad 70)) (.ref (ad 71)) (.ref (ad 72)) (.int 0) (.int 0) (.int 0) (.ref (ad 73)) (.ref (ad 74)) (.ref (ad 75)) (.ref (ad 76)) 0 (xs 1) (xs 2) (xs 3) r hfm) mw_1088 kb_X12_lost (ci := 12) rfl rfl (by decide) rfl rfl hl.1 rfl (Nat.le_of_ble_eq_true rfl) dL_law_1037 (by decide)) X hV1 [2] [0, 1] rfl rfl rfl (by decide) (fun u1037 H locs hV2 => ?_)
  have hV2 : kV E A s.heap H locs [((ad 0), .inr (11, [.ref (ad 1), .ref (ad 3), .ref (ad 8), .ref (ad 13), .ref (ad 21), .ref (ad 22), .ref (ad 27), .ref (ad 30), .ref (ad 38)])), ((ad 27), .inr (0, [.ref (ad 28), .ref (ad 29), .int 0, .int 0, .int (-1), .int (-1)])), ((ad 42), .inr (12, [.ref (ad 43), .int 0, .int 0, .int 0, .int 0, .int 0, .int 0, .ref (ad 44), .ref (ad 45), .ref (ad 46), .ref (ad 47), .ref (ad 48), .ref (ad 49), .ref (ad 50), .ref (ad 51), .ref (ad 52), .ref (ad 53), .ref (ad 54), .int 0, .int 0, .int 0, .int 0, .int 0, .int 0, .int 0, .int 0, .int 0, .ref (ad 55), .int 0, .int 0, .int 0, .int 0, .int 0, .int 0, .int 0, .int 0, .int 0, .int 0, .int 0, .int 0, .int 0, .ref (ad 56), .ref (ad 57), .ref (ad 58), .ref (ad 59), .ref (ad 60), .ref (ad 61), .ref (ad 62), .int 0, .int 0, .ref (ad 63), .ref (ad 64), .ref (ad 65), .ref (ad 66), .ref (ad 67), .ref (ad 68), .ref (ad 69), .ref (ad 70), .ref (ad 71), .ref (ad 72), .int 0, .int 0, .int 0, .ref (ad 73), .ref (ad 74), .ref (ad 75), .ref (ad 76)]))] := hV2.sub [0, 1, 2] rfl rfl
  clear hV1
  refine lv_icmp_eq (tgt := 1479) hx hb dL_law_1040 (by decide) (fun _ => ?_) (fun c3 => absurd rfl c3)
  refine W.widen (k := 1000) (n := 100000) (by decide) (by decide) ?_
  exact T _ _ _ hV2.2.2 hl
set_option maxHeartbeats 4000000 in
set_option maxRecDepth 100000 in
theorem lc_21 {p : Program} {l : Launch} {e : Env} {s : State} {m : MethodId} {below : List Frame} {meth : Method} {c : Code} {E : kE} {A : Nat → Prop} {b : Nat} {xs : Nat → Int32} {Q : State → Prop} {H : Heap} {locs : List Loc} {ls : Array Slot} {ad : Nat → Nat} (X : kC p s m c code 4 RL #[Value.ref b] E A) (hX : va_X b 6 xs s s.heap) (hbl : b < s.heap.size) (hbA : ¬ A b) (hV : kV E A s.heap H locs (lW E ad)) (hl : lv_has ls 4 [(3, .int 0), (2, .ref (ad 42)), (1, .ref (ad 0)), (0, .ref b)]) (r : Int32) (x_o_nights_many : Int32) (x_o_nights_days : Nat → Int32) (x_o_nights_shifts : Nat → Int32) (m_o_nights : Int32) (m_o_found : Nat → Int32) (m_o_nightDay : Nat → Int32) (hfx : f_X11_night 0 (fun _ => 0) (fun _ => 0) (xs 1) (xs 2) = some (r, x_o_nights_many, x_o_nights_days, x_o_nights_shifts)) (hfm : f_X12_night 0 (fun _ => 0) (fun _ => 0) (xs 1) (xs 2) = some (r, m_o_nights, m_o_found, m_o_nightDay)) (T : ∀ (H : Heap) (locs : List Loc) (ls : Array Slot), va_S A s.heap H locs → lv_has ls 4 [(3, .int 0), (2, .ref (ad 42)), (1, .ref (ad 0)), (0, .ref b)] → W p l e room_1 s m #[Value.ref b] below meth c H locs 1000 100000 Q (F0 m 1479 ls [])) : W p l e room_1 s m #[Value.ref b] below meth c H locs 900 90000 Q (F0 m 1045 ls []) := by
  have hx := X.1
  have hb := X.2.1
  have hV0 : kV E A s.heap H locs [((ad 0), .inr (11, [.ref (ad 1), .ref (ad 3), .ref (ad 8), .ref (ad 13), .ref (ad 21), .ref (ad 22), .ref (ad 27), .ref (ad 30), .ref (ad 38)])), ((ad 30), .inr (2, [.ref (ad 31), .ref (ad 32), .ref (ad 33), .ref (ad 34), .ref (ad 37), .int 0])), ((ad 31), .inl (E.2 0, 30, .inl (fun _ => 0))), ((ad 32), .inl (E.2 0, 30, .inl (fun _ => 0))), ((ad 42), .inr (12, [.ref (ad 43), .int 0, .int 0, .int 0, .int 0, .int 0, .int 0, .ref (ad 44), .ref (ad 45), .ref (ad 46), .ref (ad 47), .ref (ad 48), .ref (ad 49), .ref (ad 50), .ref (ad 51), .ref (ad 52), .ref (ad 53), .ref (ad 54), .int 0, .int 0, .int 0, .int 0, .int 0, .int 0, .int 0, .int 0, .int 0, .ref (ad 55), .int 0, .int 0, .int 0, .int 0, .int 0, .int 0, .int 0, .int 0, .int 0, .int 0, .int 0, .int 0, .int 0, .ref (ad 56), .ref (ad 57), .ref (ad 58), .ref (ad 59), .ref (ad 60), .ref (ad 61), .ref (ad 62), .int 0, .int 0, .ref (ad 63), .ref (ad 64), .ref (ad 65), .ref (ad 66), .ref (ad 67), .ref (ad 68), .ref (ad 69), .ref (ad 70), .ref (ad 71), .ref (ad 72), .int 0, .int 0, .int 0, .ref (ad 73), .ref (ad 74), .ref (ad 75), .ref (ad 76)])), ((ad 74), .inl (E.2 0, 30, .inl (fun _ => 0))), ((ad 73), .inl (E.2 0, 30, .inl (fun _ => 0)))] := hV.sub [0, 30, 31, 32, 42, 74, 73] rfl rfl
  clear hV
  refine lv_aload_n hx hb dL_law_1045 rfl (lv_at hl 2 rfl) ?_
  refine lv_aload_n hx hb dL_law_1046 rfl (lv_at hl 3 rfl) ?_
  refine lv_iload_n hx hb dL_law_1047 rfl (lv_at hl 0 rfl) ?_
  refine lv_iconst (v := 1) hx hb dL_law_1048 (by decide) ?_
  refine lv_iadd hx hb dL_law_1049 ?_
  refine ksld X hX hbl hbA hV0 (v := xs 1) (vp_in_iff.mpr (by decide)) (congrArg xs (by decide)) dL_law_1050 ?_
  refine lv_aload_n hx hb dL_law_1051 rfl (lv_at hl 3 rfl) ?_
  refine lv_iload_n hx hb dL_law_1052 rfl (lv_at hl 0 rfl) ?_
  refine lv_iconst (v := 2) hx hb dL_law_1053 (by decide) ?_
  refine lv_iadd hx hb dL_law_1054 ?_
  refine ksld X hX hbl hbA hV0 (v := xs 2) (vp_in_iff.mpr (by decide)) (congrArg xs (by decide)) dL_law_1055 ?_
  refine kgoiE (krunV (rest := []) X hV0 [0, 1, 2, 3] (c_X11_night l E _ (ad 0) (ad 30) (ad 31) (ad 32) (.ref (ad 1)) (.ref (ad 3)) (.ref (ad 8)) (.ref (ad 13)) (.ref (ad 21)) (.ref (ad 22)) (.ref (ad 27)) (.ref (ad 38)) (.ref (ad 33)) (.ref (ad 34)) (.ref (ad 37)) 0 (fun _ => 0) (fun _ => 0) (xs 1) (xs 2) r x_o_nights_many x_o_nights_days x_o_nights_shifts hfx) mw_1092 kb_X11_night (ci := 11) rfl rfl (by decide) rfl rfl hl.1 rfl (Nat.le_of_ble_eq_true rfl) dL_law_1056 (by decide)) X hV0 [0, 1, 2, 3] [4, 5, 6] rfl rfl rfl (by decide) (fun u1056 H locs hV1 => ?_)
  have hV1 : kV E A s.heap H locs [((ad 0), .inr (11, [.ref (ad 1), .ref (ad 3), .ref (ad 8), .ref (ad 13), .ref (ad 21), .ref (ad 22), .ref (ad 27), .ref (ad 30), .ref (ad 38)])), ((ad 30), .inr (2, [.ref (ad 31), .ref (ad 32), .ref (ad 33), .ref (ad 34), .ref (ad 37), .int x_o_nights_many])), (ad 31, .inl (E.2 0, 30, .inl x_o_nights_days)), (ad 32, .inl (E.2 0, 30, .inl x_o_nights_shifts)), ((ad 42), .inr (12, [.ref (ad 43), .int 0, .int 0, .int 0, .int 0, .int 0, .int 0, .ref (ad 44), .ref (ad 45), .ref (ad 46), .ref (ad 47), .ref (ad 48), .ref (ad 49), .ref (ad 50), .ref (ad 51), .ref (ad 52), .ref (ad 53), .ref (ad 54), .int 0, .int 0, .int 0, .int 0, .int 0, .int 0, .int 0, .int 0, .int 0, .ref (ad 55), .int 0, .int 0, .int 0, .int 0, .int 0, .int 0, .int 0, .int 0, .int 0, .int 0, .int 0, .int 0, .int 0, .ref (ad 56), .ref (ad 57), .ref (ad 58), .ref (ad 59), .ref (ad 60), .ref (ad 61), .ref (ad 62), .int 0, .int 0, .ref (ad 63), .ref (ad 64), .ref (ad 65), .ref (ad 66), .ref (ad 67), .ref (ad 68), .ref (ad 69), .ref (ad 70), .ref (ad 71), .ref (ad 72), .int 0, .int 0, .int 0, .ref (ad 73), .ref (ad 74), .ref (ad 75), .ref (ad 76)])), ((ad 74), .inl (E.2 0, 30, .inl (fun _ => 0))), ((ad 73), .inl (E.2 0, 30, .inl (fun _ => 0)))] := hV1.sub [3, 4, 5, 6, 0, 1, 2] rfl rfl
  clear hV0
  refine lv_aload_n hx hb dL_law_1059 rfl (lv_at hl 1 rfl) ?_
  refine lv_aload_n hx hb dL_law_1060 rfl (lv_at hl 3 rfl) ?_
  refine lv_iload_n hx hb dL_law_1061 rfl (lv_at hl 0 rfl) ?_
  refine lv_iconst (v := 1) hx hb dL_law_1062 (by decide) ?_
  refine lv_iadd hx hb dL_law_1063 ?_
  refine ksld X hX hbl hbA hV1 (v := xs 1) (vp_in_iff.mpr (by decide)) (congrArg xs (by decide)) dL_law_1064 ?_
  refine lv_aload_n hx hb dL_law_1065 rfl (lv_at hl 3 rfl) ?_
  refine lv_iload_n hx hb dL_law_1066 rfl (lv_at hl 0 rfl) ?_
  refine lv_iconst (v := 2) hx hb dL_law_1067 (by decide) ?_
  refine lv_iadd hx hb dL_law_1068 ?_
  refine ksld X hX hbl hbA hV1 (v := xs 2) (vp_in_iff.mpr (by decide)) (congrArg xs (by decide)) dL_law_1069 ?_
  refine kgoiE (krunV (rest := [.int r]) X hV1 [4, 5, 6] (c_X12_night l E _ (ad 42) (ad 74) (ad 73) (.ref (ad 43)) (.int 0) (.int 0) (.int 0) (.int 0) (.int 0) (.ref (ad 44)) (.ref (ad 45)) (.ref (ad 46)) (.ref (ad 47)) (.ref (ad 48)) (.ref (ad 49)) (.ref (ad 50)) (.ref (ad 51)) (.ref (ad 52)) (.ref (ad 53)) (.ref (ad 54)) (.int 0) (.int 0) (.int 0) (.int 0) (.int 0) (.int 0) (.int 0) (.int 0) (.int 0) (.ref (ad 55)) (.int 0) (.int 0) (.int 0) (.int 0) (.int 0) (.int 0) (.int 0) (.int 0) (.int 0) (.int 0) (.int 0) (.int 0) (.int 0) (.ref (ad 56)) (.ref (ad 57)) (.ref (ad 58)) (.ref (ad 59)) (.ref (ad 60)) (.ref (ad 61)) (.ref (ad 62)) (.int 0) (.int 0) (.ref (ad 63)) (.ref (ad 64)) (.ref (ad 65)) (.ref (ad 66)) (.ref (ad 67)) (.ref (ad 68)) (.ref (ad 69)) (.ref (ad 70)) (.ref (ad 71)) (.ref (ad 72)) (.int 0) (.int 0) (.int 0) (.ref (ad 75)) (.ref (ad 76)) 0 (fun _ => 0) (fun _ => 0) (xs 1) (xs 2) r m_o_nights m_o_found m_o_nightDay hfm) mw_1102 kb_X12_night (ci := 12) rfl rfl (by decide) rfl rfl hl.1 rfl (Nat.le_of_ble_eq_true rfl) dL_law_1070 (by decide)) X hV1 [4, 5, 6] [0, 1, 2, 3] rfl rfl rfl (by decide) (fun u1070 H locs hV2 => ?_)
  have hV2 : kV E A s.heap H locs [((ad 0), .inr (11, [.ref (ad 1), .ref (ad 3), .ref (ad 8), .ref (ad 13), .ref (ad 21), .ref (ad 22), .ref (ad 27), .ref (ad 30), .ref (ad 38)])), ((ad 30), .inr (2, [.ref (ad 31), .ref (ad 32), .ref (ad 33), .ref (ad 34), .ref (ad 37), .int x_o_nights_many])), (ad 31, .inl (E.2 0, 30, .inl x_o_nights_days)), (ad 32, .inl (E.2 0, 30, .inl x_o_nights_shifts)), ((ad 42), .inr (12, [.ref (ad 43), .int 0, .int 0, .int 0, .int 0, .int 0, .int m_o_nights, .ref (ad 44), .ref (ad 45), .ref (ad 46), .ref (ad 47), .ref (ad 48), .ref (ad 49), .ref (ad 50), .ref (ad 51), .ref (ad 52), .ref (ad 53), .ref (ad 54), .int 0, .int 0, .int 0, .int 0, .int 0, .int 0, .int 0, .int 0, .int 0, .ref (ad 55), .int 0, .int 0, .int 0, .int 0, .int 0, .int 0, .int 0, .int 0, .int 0, .int 0, .int 0, .int 0, .int 0, .ref (ad 56), .ref (ad 57), .ref (ad 58), .ref (ad 59), .ref (ad 60), .ref (ad 61), .ref (ad 62), .int 0, .int 0, .ref (ad 63), .ref (ad 64), .ref (ad 65), .ref (ad 66), .ref (ad 67), .ref (ad 68), .ref (ad 69), .ref (ad 70), .ref (ad 71), .ref (ad 72), .int 0, .int 0, .int 0, .ref (ad 73), .ref (ad 74), .ref (ad 75), .ref (ad 76)])), (ad 74, .inl (E.2 0, 30, .inl m_o_found)), (ad 73, .inl (E.2 0, 30, .inl m_o_nightDay))] := hV2.sub [0, 1, 2, 3, 4, 5, 6] rfl rfl
  clear hV1
  refine lv_icmp_eq (tgt := 1479) hx hb dL_law_1073 (by decide) (fun _ => ?_) (fun c3 => absurd rfl c3)
  refine W.widen (k := 1000) (n := 100000) (by decide) (by decide) ?_
  exact T _ _ _ hV2.2.2 hl
set_option maxHeartbeats 4000000 in
set_option maxRecDepth 100000 in
theorem lc_22 {p : Program} {l : Launch} {e : Env} {s : State} {m : MethodId} {below : List Frame} {meth : Method} {c : Code} {E : kE} {A : Nat → Prop} {b : Nat} {xs : Nat → Int32} {Q : State → Prop} {H : Heap} {locs : List Loc} {ls : Array Slot} {ad : Nat → Nat} (X : kC p s m c code 4 RL #[Value.ref b] E A) (hX : va_X b 6 xs s s.heap) (hbl : b < s.heap.size) (hbA : ¬ A b) (hV : kV E A s.heap H locs (lW E ad)) (hl : lv_has ls 4 [(3, .int 0), (2, .ref (ad 42)), (1, .ref (ad 0)), (0, .ref b)]) (r : Int32) (hfx : f_X11_says (fun _ => none) (xs 1) (xs 2) = some (r)) (hfm : f_X12_says 0 (fun _ => 0) (xs 1) (xs 2) = some (r)) (T : ∀ (H : Heap) (locs : List Loc) (ls : Array Slot), va_S A s.heap H locs → lv_has ls 4 [(3, .int 0), (2, .ref (ad 42)), (1, .ref (ad 0)), (0, .ref b)] → W p l e room_1 s m #[Value.ref b] below meth c H locs 1000 100000 Q (F0 m 1479 ls [])) : W p l e room_1 s m #[Value.ref b] below meth c H locs 900 90000 Q (F0 m 1078 ls []) := by
  have hx := X.1
  have hb := X.2.1
  have hV0 : kV E A s.heap H locs [((ad 0), .inr (11, [.ref (ad 1), .ref (ad 3), .ref (ad 8), .ref (ad 13), .ref (ad 21), .ref (ad 22), .ref (ad 27), .ref (ad 30), .ref (ad 38)])), ((ad 30), .inr (2, [.ref (ad 31), .ref (ad 32), .ref (ad 33), .ref (ad 34), .ref (ad 37), .int 0])), ((ad 37), .inl (E.2 4, 6, .inr (.inr (.inr (.inr (fun _ => none)))))), ((ad 42), .inr (12, [.ref (ad 43), .int 0, .int 0, .int 0, .int 0, .int 0, .int 0, .ref (ad 44), .ref (ad 45), .ref (ad 46), .ref (ad 47), .ref (ad 48), .ref (ad 49), .ref (ad 50), .ref (ad 51), .ref (ad 52), .ref (ad 53), .ref (ad 54), .int 0, .int 0, .int 0, .int 0, .int 0, .int 0, .int 0, .int 0, .int 0, .ref (ad 55), .int 0, .int 0, .int 0, .int 0, .int 0, .int 0, .int 0, .int 0, .int 0, .int 0, .int 0, .int 0, .int 0, .ref (ad 56), .ref (ad 57), .ref (ad 58), .ref (ad 59), .ref (ad 60), .ref (ad 61), .ref (ad 62), .int 0, .int 0, .ref (ad 63), .ref (ad 64), .ref (ad 65), .ref (ad 66), .ref (ad 67), .ref (ad 68), .ref (ad 69), .ref (ad 70), .ref (ad 71), .ref (ad 72), .int 0, .int 0, .int 0, .ref (ad 73), .ref (ad 74), .ref (ad 75), .ref (ad 76)])), ((ad 44), .inl (E.2 0, 20, .inl (fun _ => 0)))] := hV.sub [0, 30, 37, 42, 44] rfl rfl
  clear hV
  refine lv_aload_n hx hb dL_law_1078 rfl (lv_at hl 2 rfl) ?_
  refine lv_aload_n hx hb dL_law_1079 rfl (lv_at hl 3 rfl) ?_
  refine lv_iload_n hx hb dL_law_1080 rfl (lv_at hl 0 rfl) ?_
  refine lv_iconst (v := 1) hx hb dL_law_1081 (by decide) ?_
  refine lv_iadd hx hb dL_law_1082 ?_
  refine ksld X hX hbl hbA hV0 (v := xs 1) (vp_in_iff.mpr (by decide)) (congrArg xs (by decide)) dL_law_1083 ?_
  refine lv_aload_n hx hb dL_law_1084 rfl (lv_at hl 3 rfl) ?_
  refine lv_iload_n hx hb dL_law_1085 rfl (lv_at hl 0 rfl) ?_
  refine lv_iconst (v := 2) hx hb dL_law_1086 (by decide) ?_
  refine lv_iadd hx hb dL_law_1087 ?_
  refine ksld X hX hbl hbA hV0 (v := xs 2) (vp_in_iff.mpr (by decide)) (congrArg xs (by decide)) dL_law_1088 ?_
  refine kgoiE (krunV (rest := []) X hV0 [0, 1, 2] (c_X11_says l E _ (ad 0) (ad 30) (ad 37) (.ref (ad 1)) (.ref (ad 3)) (.ref (ad 8)) (.ref (ad 13)) (.ref (ad 21)) (.ref (ad 22)) (.ref (ad 27)) (.ref (ad 38)) (.ref (ad 31)) (.ref (ad 32)) (.ref (ad 33)) (.ref (ad 34)) (.int 0) (fun _ => none) (xs 1) (xs 2) r hfx) mw_1109 kb_X11_says (ci := 11) rfl rfl (by decide) rfl rfl hl.1 rfl (Nat.le_of_ble_eq_true rfl) dL_law_1089 (by decide)) X hV0 [0, 1, 2] [3, 4] rfl rfl rfl (by decide) (fun u1089 H locs hV1 => ?_)
  have hV1 : kV E A s.heap H locs [((ad 0), .inr (11, [.ref (ad 1), .ref (ad 3), .ref (ad 8), .ref (ad 13), .ref (ad 21), .ref (ad 22), .ref (ad 27), .ref (ad 30), .ref (ad 38)])), ((ad 30), .inr (2, [.ref (ad 31), .ref (ad 32), .ref (ad 33), .ref (ad 34), .ref (ad 37), .int 0])), ((ad 37), .inl (E.2 4, 6, .inr (.inr (.inr (.inr (fun _ => none)))))), ((ad 42), .inr (12, [.ref (ad 43), .int 0, .int 0, .int 0, .int 0, .int 0, .int 0, .ref (ad 44), .ref (ad 45), .ref (ad 46), .ref (ad 47), .ref (ad 48), .ref (ad 49), .ref (ad 50), .ref (ad 51), .ref (ad 52), .ref (ad 53), .ref (ad 54), .int 0, .int 0, .int 0, .int 0, .int 0, .int 0, .int 0, .int 0, .int 0, .ref (ad 55), .int 0, .int 0, .int 0, .int 0, .int 0, .int 0, .int 0, .int 0, .int 0, .int 0, .int 0, .int 0, .int 0, .ref (ad 56), .ref (ad 57), .ref (ad 58), .ref (ad 59), .ref (ad 60), .ref (ad 61), .ref (ad 62), .int 0, .int 0, .ref (ad 63), .ref (ad 64), .ref (ad 65), .ref (ad 66), .ref (ad 67), .ref (ad 68), .ref (ad 69), .ref (ad 70), .ref (ad 71), .ref (ad 72), .int 0, .int 0, .int 0, .ref (ad 73), .ref (ad 74), .ref (ad 75), .ref (ad 76)])), ((ad 44), .inl (E.2 0, 20, .inl (fun _ => 0)))] := hV1.sub [2, 3, 4, 0, 1] rfl rfl
  clear hV0
  refine lv_aload_n hx hb dL_law_1092 rfl (lv_at hl 1 rfl) ?_
  refine lv_aload_n hx hb dL_law_1093 rfl (lv_at hl 3 rfl) ?_
  refine lv_iload_n hx hb dL_law_1094 rfl (lv_at hl 0 rfl) ?_
  refine lv_iconst (v := 1) hx hb dL_law_1095 (by decide) ?_
  refine lv_iadd hx hb dL_law_1096 ?_
  refine ksld X hX hbl hbA hV1 (v := xs 1) (vp_in_iff.mpr (by decide)) (congrArg xs (by decide)) dL_law_1097 ?_
  refine lv_aload_n hx hb dL_law_1098 rfl (lv_at hl 3 rfl) ?_
  refine lv_iload_n hx hb dL_law_1099 rfl (lv_at hl 0 rfl) ?_
  refine lv_iconst (v := 2) hx hb dL_law_1100 (by decide) ?_
  refine lv_iadd hx hb dL_law_1101 ?_
  refine ksld X hX hbl hbA hV1 (v := xs 2) (vp_in_iff.mpr (by decide)) (congrArg xs (by decide)) dL_law_1102 ?_
  refine kgoiE (krunV (rest := [.int r]) X hV1 [3, 4] (c_X12_says l E _ (ad 42) (ad 44) (.ref (ad 43)) (.int 0) (.int 0) (.int 0) (.int 0) (.int 0) (.ref (ad 45)) (.ref (ad 46)) (.ref (ad 47)) (.ref (ad 48)) (.ref (ad 49)) (.ref (ad 50)) (.ref (ad 51)) (.ref (ad 52)) (.ref (ad 53)) (.ref (ad 54)) (.int 0) (.int 0) (.int 0) (.int 0) (.int 0) (.int 0) (.int 0) (.int 0) (.int 0) (.ref (ad 55)) (.int 0) (.int 0) (.int 0) (.int 0) (.int 0) (.int 0) (.int 0) (.int 0) (.int 0) (.int 0) (.int 0) (.int 0) (.int 0) (.ref (ad 56)) (.ref (ad 57)) (.ref (ad 58)) (.ref (ad 59)) (.ref (ad 60)) (.ref (ad 61)) (.ref (ad 62)) (.int 0) (.int 0) (.ref (ad 63)) (.ref (ad 64)) (.ref (ad 65)) (.ref (ad 66)) (.ref (ad 67)) (.ref (ad 68)) (.ref (ad 69)) (.ref (ad 70)) (.ref (ad 71)) (.ref (ad 72)) (.int 0) (.int 0) (.int 0) (.ref (ad 73)) (.ref (ad 74)) (.ref (ad 75)) (.ref (ad 76)) 0 (fun _ => 0) (xs 1) (xs 2) r hfm) mw_1125 kb_X12_says (ci := 12) rfl rfl (by decide) rfl rfl hl.1 rfl (Nat.le_of_ble_eq_true rfl) dL_law_1103 (by decide)) X hV1 [3, 4] [0, 1, 2] rfl rfl rfl (by decide) (fun u1103 H locs hV2 => ?_)
  have hV2 : kV E A s.heap H locs [((ad 0), .inr (11, [.ref (ad 1), .ref (ad 3), .ref (ad 8), .ref (ad 13), .ref (ad 21), .ref (ad 22), .ref (ad 27), .ref (ad 30), .ref (ad 38)])), ((ad 30), .inr (2, [.ref (ad 31), .ref (ad 32), .ref (ad 33), .ref (ad 34), .ref (ad 37), .int 0])), ((ad 37), .inl (E.2 4, 6, .inr (.inr (.inr (.inr (fun _ => none)))))), ((ad 42), .inr (12, [.ref (ad 43), .int 0, .int 0, .int 0, .int 0, .int 0, .int 0, .ref (ad 44), .ref (ad 45), .ref (ad 46), .ref (ad 47), .ref (ad 48), .ref (ad 49), .ref (ad 50), .ref (ad 51), .ref (ad 52), .ref (ad 53), .ref (ad 54), .int 0, .int 0, .int 0, .int 0, .int 0, .int 0, .int 0, .int 0, .int 0, .ref (ad 55), .int 0, .int 0, .int 0, .int 0, .int 0, .int 0, .int 0, .int 0, .int 0, .int 0, .int 0, .int 0, .int 0, .ref (ad 56), .ref (ad 57), .ref (ad 58), .ref (ad 59), .ref (ad 60), .ref (ad 61), .ref (ad 62), .int 0, .int 0, .ref (ad 63), .ref (ad 64), .ref (ad 65), .ref (ad 66), .ref (ad 67), .ref (ad 68), .ref (ad 69), .ref (ad 70), .ref (ad 71), .ref (ad 72), .int 0, .int 0, .int 0, .ref (ad 73), .ref (ad 74), .ref (ad 75), .ref (ad 76)])), ((ad 44), .inl (E.2 0, 20, .inl (fun _ => 0)))] := hV2.sub [0, 1, 2, 3, 4] rfl rfl
  clear hV1
  refine lv_icmp_eq (tgt := 1479) hx hb dL_law_1106 (by decide) (fun _ => ?_) (fun c3 => absurd rfl c3)
  refine W.widen (k := 1000) (n := 100000) (by decide) (by decide) ?_
  exact T _ _ _ hV2.2.2 hl
set_option maxHeartbeats 4000000 in
set_option maxRecDepth 100000 in
theorem lc_23 {p : Program} {l : Launch} {e : Env} {s : State} {m : MethodId} {below : List Frame} {meth : Method} {c : Code} {E : kE} {A : Nat → Prop} {b : Nat} {xs : Nat → Int32} {Q : State → Prop} {H : Heap} {locs : List Loc} {ls : Array Slot} {ad : Nat → Nat} (X : kC p s m c code 4 RL #[Value.ref b] E A) (hX : va_X b 6 xs s s.heap) (hbl : b < s.heap.size) (hbA : ¬ A b) (hV : kV E A s.heap H locs (lW E ad)) (hl : lv_has ls 4 [(3, .int 0), (2, .ref (ad 42)), (1, .ref (ad 0)), (0, .ref b)]) (r : Int32) (hfx : f_X11_falls (fun _ => none) (xs 1) (xs 2) = some (r)) (hfm : f_X12_falls (fun _ => 0) (xs 1) (xs 2) = some (r)) (T : ∀ (H : Heap) (locs : List Loc) (ls : Array Slot), va_S A s.heap H locs → lv_has ls 4 [(3, .int 0), (2, .ref (ad 42)), (1, .ref (ad 0)), (0, .ref b)] → W p l e room_1 s m #[Value.ref b] below meth c H locs 1000 100000 Q (F0 m 1479 ls [])) : W p l e room_1 s m #[Value.ref b] below meth c H locs 900 90000 Q (F0 m 1111 ls []) := by
  have hx := X.1
  have hb := X.2.1
  have hV0 : kV E A s.heap H locs [((ad 0), .inr (11, [.ref (ad 1), .ref (ad 3), .ref (ad 8), .ref (ad 13), .ref (ad 21), .ref (ad 22), .ref (ad 27), .ref (ad 30), .ref (ad 38)])), ((ad 30), .inr (2, [.ref (ad 31), .ref (ad 32), .ref (ad 33), .ref (ad 34), .ref (ad 37), .int 0])), ((ad 37), .inl (E.2 4, 6, .inr (.inr (.inr (.inr (fun _ => none)))))), ((ad 42), .inr (12, [.ref (ad 43), .int 0, .int 0, .int 0, .int 0, .int 0, .int 0, .ref (ad 44), .ref (ad 45), .ref (ad 46), .ref (ad 47), .ref (ad 48), .ref (ad 49), .ref (ad 50), .ref (ad 51), .ref (ad 52), .ref (ad 53), .ref (ad 54), .int 0, .int 0, .int 0, .int 0, .int 0, .int 0, .int 0, .int 0, .int 0, .ref (ad 55), .int 0, .int 0, .int 0, .int 0, .int 0, .int 0, .int 0, .int 0, .int 0, .int 0, .int 0, .int 0, .int 0, .ref (ad 56), .ref (ad 57), .ref (ad 58), .ref (ad 59), .ref (ad 60), .ref (ad 61), .ref (ad 62), .int 0, .int 0, .ref (ad 63), .ref (ad 64), .ref (ad 65), .ref (ad 66), .ref (ad 67), .ref (ad 68), .ref (ad 69), .ref (ad 70), .ref (ad 71), .ref (ad 72), .int 0, .int 0, .int 0, .ref (ad 73), .ref (ad 74), .ref (ad 75), .ref (ad 76)])), ((ad 44), .inl (E.2 0, 20, .inl (fun _ => 0)))] := hV.sub [0, 30, 37, 42, 44] rfl rfl
  clear hV
  refine lv_aload_n hx hb dL_law_1111 rfl (lv_at hl 2 rfl) ?_
  refine lv_aload_n hx hb dL_law_1112 rfl (lv_at hl 3 rfl) ?_
  refine lv_iload_n hx hb dL_law_1113 rfl (lv_at hl 0 rfl) ?_
  refine lv_iconst (v := 1) hx hb dL_law_1114 (by decide) ?_
  refine lv_iadd hx hb dL_law_1115 ?_
  refine ksld X hX hbl hbA hV0 (v := xs 1) (vp_in_iff.mpr (by decide)) (congrArg xs (by decide)) dL_law_1116 ?_
  refine lv_aload_n hx hb dL_law_1117 rfl (lv_at hl 3 rfl) ?_
  refine lv_iload_n hx hb dL_law_1118 rfl (lv_at hl 0 rfl) ?_
  refine lv_iconst (v := 2) hx hb dL_law_1119 (by decide) ?_
  refine lv_iadd hx hb dL_law_1120 ?_
  refine ksld X hX hbl hbA hV0 (v := xs 2) (vp_in_iff.mpr (by decide)) (congrArg xs (by decide)) dL_law_1121 ?_
  refine kgoiE (krunV (rest := []) X hV0 [0, 1, 2] (c_X11_falls l E _ (ad 0) (ad 30) (ad 37) (.ref (ad 1)) (.ref (ad 3)) (.ref (ad 8)) (.ref (ad 13)) (.ref (ad 21)) (.ref (ad 22)) (.ref (ad 27)) (.ref (ad 38)) (.ref (ad 31)) (.ref (ad 32)) (.ref (ad 33)) (.ref (ad 34)) (.int 0) (fun _ => none) (xs 1) (xs 2) r hfx) mw_1142 kb_X11_falls (ci := 11) rfl rfl (by decide) rfl rfl hl.1 rfl (Nat.le_of_ble_eq_true rfl) dL_law_1122 (by decide)) X hV0 [0, 1, 2] [3, 4] rfl rfl rfl (by decide) (fun u1122 H locs hV1 => ?_)
  have hV1 : kV E A s.heap H locs [((ad 0), .inr (11, [.ref (ad 1), .ref (ad 3), .ref (ad 8), .ref (ad 13), .ref (ad 21), .ref (ad 22), .ref (ad 27), .ref (ad 30), .ref (ad 38)])), ((ad 30), .inr (2, [.ref (ad 31), .ref (ad 32), .ref (ad 33), .ref (ad 34), .ref (ad 37), .int 0])), ((ad 37), .inl (E.2 4, 6, .inr (.inr (.inr (.inr (fun _ => none)))))), ((ad 42), .inr (12, [.ref (ad 43), .int 0, .int 0, .int 0, .int 0, .int 0, .int 0, .ref (ad 44), .ref (ad 45), .ref (ad 46), .ref (ad 47), .ref (ad 48), .ref (ad 49), .ref (ad 50), .ref (ad 51), .ref (ad 52), .ref (ad 53), .ref (ad 54), .int 0, .int 0, .int 0, .int 0, .int 0, .int 0, .int 0, .int 0, .int 0, .ref (ad 55), .int 0, .int 0, .int 0, .int 0, .int 0, .int 0, .int 0, .int 0, .int 0, .int 0, .int 0, .int 0, .int 0, .ref (ad 56), .ref (ad 57), .ref (ad 58), .ref (ad 59), .ref (ad 60), .ref (ad 61), .ref (ad 62), .int 0, .int 0, .ref (ad 63), .ref (ad 64), .ref (ad 65), .ref (ad 66), .ref (ad 67), .ref (ad 68), .ref (ad 69), .ref (ad 70), .ref (ad 71), .ref (ad 72), .int 0, .int 0, .int 0, .ref (ad 73), .ref (ad 74), .ref (ad 75), .ref (ad 76)])), ((ad 44), .inl (E.2 0, 20, .inl (fun _ => 0)))] := hV1.sub [2, 3, 4, 0, 1] rfl rfl
  clear hV0
  refine lv_aload_n hx hb dL_law_1125 rfl (lv_at hl 1 rfl) ?_
  refine lv_aload_n hx hb dL_law_1126 rfl (lv_at hl 3 rfl) ?_
  refine lv_iload_n hx hb dL_law_1127 rfl (lv_at hl 0 rfl) ?_
  refine lv_iconst (v := 1) hx hb dL_law_1128 (by decide) ?_
  refine lv_iadd hx hb dL_law_1129 ?_
  refine ksld X hX hbl hbA hV1 (v := xs 1) (vp_in_iff.mpr (by decide)) (congrArg xs (by decide)) dL_law_1130 ?_
  refine lv_aload_n hx hb dL_law_1131 rfl (lv_at hl 3 rfl) ?_
  refine lv_iload_n hx hb dL_law_1132 rfl (lv_at hl 0 rfl) ?_
  refine lv_iconst (v := 2) hx hb dL_law_1133 (by decide) ?_
  refine lv_iadd hx hb dL_law_1134 ?_
  refine ksld X hX hbl hbA hV1 (v := xs 2) (vp_in_iff.mpr (by decide)) (congrArg xs (by decide)) dL_law_1135 ?_
  refine kgoiE (krunV (rest := [.int r]) X hV1 [3, 4] (c_X12_falls l E _ (ad 42) (ad 44) (.ref (ad 43)) (.int 0) (.int 0) (.int 0) (.int 0) (.int 0) (.int 0) (.ref (ad 45)) (.ref (ad 46)) (.ref (ad 47)) (.ref (ad 48)) (.ref (ad 49)) (.ref (ad 50)) (.ref (ad 51)) (.ref (ad 52)) (.ref (ad 53)) (.ref (ad 54)) (.int 0) (.int 0) (.int 0) (.int 0) (.int 0) (.int 0) (.int 0) (.int 0) (.int 0) (.ref (ad 55)) (.int 0) (.int 0) (.int 0) (.int 0) (.int 0) (.int 0) (.int 0) (.int 0) (.int 0) (.int 0) (.int 0) (.int 0) (.int 0) (.ref (ad 56)) (.ref (ad 57)) (.ref (ad 58)) (.ref (ad 59)) (.ref (ad 60)) (.ref (ad 61)) (.ref (ad 62)) (.int 0) (.int 0) (.ref (ad 63)) (.ref (ad 64)) (.ref (ad 65)) (.ref (ad 66)) (.ref (ad 67)) (.ref (ad 68)) (.ref (ad 69)) (.ref (ad 70)) (.ref (ad 71)) (.ref (ad 72)) (.int 0) (.int 0) (.int 0) (.ref (ad 73)) (.ref (ad 74)) (.ref (ad 75)) (.ref (ad 76)) (fun _ => 0) (xs 1) (xs 2) r hfm) mw_1157 kb_X12_falls (ci := 12) rfl rfl (by decide) rfl rfl hl.1 rfl (Nat.le_of_ble_eq_true rfl) dL_law_1136 (by decide)) X hV1 [3, 4] [0, 1, 2] rfl rfl rfl (by decide) (fun u1136 H locs hV2 => ?_)
  have hV2 : kV E A s.heap H locs [((ad 0), .inr (11, [.ref (ad 1), .ref (ad 3), .ref (ad 8), .ref (ad 13), .ref (ad 21), .ref (ad 22), .ref (ad 27), .ref (ad 30), .ref (ad 38)])), ((ad 30), .inr (2, [.ref (ad 31), .ref (ad 32), .ref (ad 33), .ref (ad 34), .ref (ad 37), .int 0])), ((ad 37), .inl (E.2 4, 6, .inr (.inr (.inr (.inr (fun _ => none)))))), ((ad 42), .inr (12, [.ref (ad 43), .int 0, .int 0, .int 0, .int 0, .int 0, .int 0, .ref (ad 44), .ref (ad 45), .ref (ad 46), .ref (ad 47), .ref (ad 48), .ref (ad 49), .ref (ad 50), .ref (ad 51), .ref (ad 52), .ref (ad 53), .ref (ad 54), .int 0, .int 0, .int 0, .int 0, .int 0, .int 0, .int 0, .int 0, .int 0, .ref (ad 55), .int 0, .int 0, .int 0, .int 0, .int 0, .int 0, .int 0, .int 0, .int 0, .int 0, .int 0, .int 0, .int 0, .ref (ad 56), .ref (ad 57), .ref (ad 58), .ref (ad 59), .ref (ad 60), .ref (ad 61), .ref (ad 62), .int 0, .int 0, .ref (ad 63), .ref (ad 64), .ref (ad 65), .ref (ad 66), .ref (ad 67), .ref (ad 68), .ref (ad 69), .ref (ad 70), .ref (ad 71), .ref (ad 72), .int 0, .int 0, .int 0, .ref (ad 73), .ref (ad 74), .ref (ad 75), .ref (ad 76)])), ((ad 44), .inl (E.2 0, 20, .inl (fun _ => 0)))] := hV2.sub [0, 1, 2, 3, 4] rfl rfl
  clear hV1
  refine lv_icmp_eq (tgt := 1479) hx hb dL_law_1139 (by decide) (fun _ => ?_) (fun c3 => absurd rfl c3)
  refine W.widen (k := 1000) (n := 100000) (by decide) (by decide) ?_
  exact T _ _ _ hV2.2.2 hl
