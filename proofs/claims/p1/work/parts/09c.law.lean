section KLH
variable {p : Program} {l : Launch} {e : Env} {s : State} {m : MethodId} {below : List Frame} {meth : Method} {c : Code} {E : kE} {A : Nat → Prop} {b L : Nat} {xs : Nat → Int32} {H : Heap} {locs : List Loc} {ls : Array Slot} {k n x y : Nat}
theorem l_fin (X : kC p s m c code 4 RL #[Value.ref b] E A) (hr : meth.sig.returnType = ret) (hlocks : meth.locks = false) (hAs : ∀ q, A q → s.heap.size ≤ q) (hk : k ≤ 600000) (hn : n ≤ 7302250) (hS : va_S A s.heap H locs) : W p l e room_1 s m #[Value.ref b] below meth c H locs k n (lw_Z below #[Value.ref b] s) (F0 m 1485 ls []) := by
  refine lv_iconst (v := 1) X.1 X.2.1 dL_law_1485 (by decide) ?_
  refine va_forget (fun q h => hAs _ (hS.2.2 q h)) ?_
  refine W.widen (k := 600000) (n := 7302250) hk hn ?_
  exact lw_ret X.1 X.2.1 hr hlocks dL_law_1486
theorem l_head (X : kC p s m c code 4 RL #[Value.ref b] E A) (hr : meth.sig.returnType = ret) (hlocks : meth.locks = false) (hAs : ∀ q, A q → s.heap.size ≤ q) (hX : va_X b L xs s s.heap) (hbl : b < s.heap.size) (hbA : ¬ A b) (hk : k ≤ 600000) (hn : n ≤ 7302250) (hS : va_S A s.heap H locs) {v : Int32} (hl : lv_has ls 4 [(3, .int v), (2, .ref y), (1, .ref x), (0, .ref b)])
    (h1 : ¬ (Int32.ofNat L - 6 < v) → W p l e room_1 s m #[Value.ref b] below meth c H locs k n (lw_Z below #[Value.ref b] s) (F0 m 27 ls [])) : W p l e room_1 s m #[Value.ref b] below meth c H locs k n (lw_Z below #[Value.ref b] s) (F0 m 18 ls []) := by
  refine lv_iload_n X.1 X.2.1 dL_law_18 rfl (lv_at hl 0 rfl) ?_
  refine lv_aload_n X.1 X.2.1 dL_law_19 rfl (lv_at hl 3 rfl) ?_
  refine va_slen X.1 X.2.1 hX hbl hbA hS dL_law_20 ?_
  refine lv_bipush (v := 6) X.1 X.2.1 dL_law_21 (by decide) ?_
  refine lv_isub X.1 X.2.1 dL_law_23 ?_
  refine lv_icmp_gt (tgt := 1485) X.1 X.2.1 dL_law_24 (by decide) (fun _ => ?_) h1
  exact l_fin X hr hlocks hAs hk hn hS
theorem l_tail (X : kC p s m c code 4 RL #[Value.ref b] E A) (hr : meth.sig.returnType = ret) (hlocks : meth.locks = false) (hAs : ∀ q, A q → s.heap.size ≤ q) (hX : va_X b 6 xs s s.heap) (hbl : b < s.heap.size) (hbA : ¬ A b) (hk : k ≤ 600000) (hn : n ≤ 7302250) (hS : va_S A s.heap H locs) (hl : lv_has ls 4 [(3, .int 0), (2, .ref y), (1, .ref x), (0, .ref b)]) : W p l e room_1 s m #[Value.ref b] below meth c H locs k n (lw_Z below #[Value.ref b] s) (F0 m 1479 ls []) := by
  refine lv_iinc (v := 6) (lv' := [(3, .int 6), (2, .ref y), (1, .ref x), (0, .ref b)]) X.1 X.2.1 dL_law_1479 hl (k := 0) rfl (by decide) (by decide) rfl (fun ls hl => ?_)
  refine lv_goto (tgt := 18) X.1 X.2.1 dL_law_1482 (by decide) ?_
  exact l_head X hr hlocks hAs hX hbl hbA hk hn hS hl (fun h => absurd (by decide) h)
end KLH
