section KR2
variable {p : Program} {l : Launch} {e : Env} {R : Room} {s : State} {m : MethodId} {args : Array Value} {below : List Frame} {meth : Method} {c : Code} {H : Heap} {locs : List Loc} {cells slots : Nat} {Q : State → Prop} {E : kE} {A : Nat → Prop} {cc : ByteArray} {nL pc : Nat} {own : String} {ls : Array Slot} {rest : List Value} {wr : va_W} {a : Nat}
variable {mc ms : Nat} {Wc : va_W} {st0 : List Value} {av : Array Value} {S : Type} {W1 : S → va_W}
theorem kgoi2 {post : Int32 → S → Prop} (hr : va_Run p l e R s m args below meth c H locs cells slots mc ms (F0 m pc ls st0) rest (va_Qi post (fun u t => kB E (va_A Wc H.size) (W1 u) t) (va_A Wc H.size) av) (va_A Wc H.size)) (X : kC p s m c cc nL own args E A) (hV : kV E A s.heap H locs (Wc ++ wr))
    (kk : ∀ (r : Int32) (u : S) (H1 : Heap) (locs1 : List Loc), post r u → kV E A s.heap H1 locs1 (wr ++ W1 u) → W p l e R s m args below meth c H1 locs1 (cells + mc) (slots + ms) Q (F0 m (pc + 3) ls (.int r :: rest))) : W p l e R s m args below meth c H locs cells slots Q (F0 m pc ls st0) :=
  kgoi hr X hV (List.range Wc.length) ((List.range wr.length).map (fun i => Wc.length + i)) (krg Wc wr) (by rw [kfm (krg2 Wc wr)]; exact krg2 Wc wr) (kndR2 _ _) (kdisR _ _) (fun r u H1 locs1 hp hV => kk r u H1 locs1 hp (by rw [kfm (krg2 Wc wr)] at hV; exact hV))
theorem kgol2 {post : Int64 → S → Prop} (hr : va_Run p l e R s m args below meth c H locs cells slots mc ms (F0 m pc ls st0) rest (va_Ql post (fun u t => kB E (va_A Wc H.size) (W1 u) t) (va_A Wc H.size) av) (va_A Wc H.size)) (X : kC p s m c cc nL own args E A) (hV : kV E A s.heap H locs (Wc ++ wr))
    (kk : ∀ (r : Int64) (u : S) (H1 : Heap) (locs1 : List Loc), post r u → kV E A s.heap H1 locs1 (wr ++ W1 u) → W p l e R s m args below meth c H1 locs1 (cells + mc) (slots + ms) Q (F0 m (pc + 3) ls (.long r :: rest))) : W p l e R s m args below meth c H locs cells slots Q (F0 m pc ls st0) :=
  kgol hr X hV (List.range Wc.length) ((List.range wr.length).map (fun i => Wc.length + i)) (krg Wc wr) (by rw [kfm (krg2 Wc wr)]; exact krg2 Wc wr) (kndR2 _ _) (kdisR _ _) (fun r u H1 locs1 hp hV => kk r u H1 locs1 hp (by rw [kfm (krg2 Wc wr)] at hV; exact hV))
theorem kgoq2 {post : Option Nat → S → Prop} (hr : va_Run p l e R s m args below meth c H locs cells slots mc ms (F0 m pc ls st0) rest (va_Qq post (fun u t => kB E (va_A Wc H.size) (W1 u) t) (va_A Wc H.size) av) (va_A Wc H.size)) (X : kC p s m c cc nL own args E A) (hV : kV E A s.heap H locs (Wc ++ wr))
    (kk : ∀ (r : Option Nat) (u : S) (H1 : Heap) (locs1 : List Loc), post r u → kV E A s.heap H1 locs1 (wr ++ W1 u) → W p l e R s m args below meth c H1 locs1 (cells + mc) (slots + ms) Q (F0 m (pc + 3) ls (va_rf r :: rest))) : W p l e R s m args below meth c H locs cells slots Q (F0 m pc ls st0) :=
  kgoq hr X hV (List.range Wc.length) ((List.range wr.length).map (fun i => Wc.length + i)) (krg Wc wr) (by rw [kfm (krg2 Wc wr)]; exact krg2 Wc wr) (kndR2 _ _) (kdisR _ _) (fun r u H1 locs1 hp hV => kk r u H1 locs1 hp (by rw [kfm (krg2 Wc wr)] at hV; exact hV))
theorem kgov2 {post : S → Prop} (hr : va_Run p l e R s m args below meth c H locs cells slots mc ms (F0 m pc ls st0) rest (va_Qv post (fun u t => kB E (va_A Wc H.size) (W1 u) t) (va_A Wc H.size) av) (va_A Wc H.size)) (X : kC p s m c cc nL own args E A) (hV : kV E A s.heap H locs (Wc ++ wr))
    (kk : ∀ (u : S) (H1 : Heap) (locs1 : List Loc), post u → kV E A s.heap H1 locs1 (wr ++ W1 u) → W p l e R s m args below meth c H1 locs1 (cells + mc) (slots + ms) Q (F0 m (pc + 3) ls rest)) : W p l e R s m args below meth c H locs cells slots Q (F0 m pc ls st0) :=
  kgov hr X hV (List.range Wc.length) ((List.range wr.length).map (fun i => Wc.length + i)) (krg Wc wr) (by rw [kfm (krg2 Wc wr)]; exact krg2 Wc wr) (kndR2 _ _) (kdisR _ _) (fun u H1 locs1 hp hV => kk u H1 locs1 hp (by rw [kfm (krg2 Wc wr)] at hV; exact hV))
end KR2
section KEntF
variable {l : Launch} {y : MethodName} {bytes : ByteArray} {maxL : Nat} {ret : Option FieldType} {rm : Room} {as : List Value} {E : kE} {W0 : va_W} {sz mc ms : Nat} {S : Type} {W1 : S → va_W}
theorem kentF {Qc : (Nat → Prop) → Array Value → State → Outcome → State → Prop} (hy : plainFor y = true) (hl : (lg_sl as).length ≤ maxL)
    (body : ∀ (p : Program) (e : Env) (s : State) (m : MethodId) (args : Array Value) (below : List Frame) (meth : Method) (c : Code) (ls : Array Slot) (A : Nat → Prop), kC p s m c bytes maxL y.cls args E A → meth.name = y.name → meth.sig.returnType = ret → meth.locks = false → kV E A s.heap s.heap [] W0 → lv_has ls maxL (lv_args 0 as) → W p l e rm s m args below meth c s.heap [] 0 0 (MQ below (Qc A) args s mc ms A) (F0 m 0 ls [])) :
    Met l y (kW y bytes maxL ret) rm (va_Pc as (kP E W0 sz)) (Qc (va_A W0 sz)) mc ms (va_A W0 sz) := by
  refine va_MetF (cc := bytes) (maxL := maxL) (ret := ret) hy rfl ?_
  intro p e s m args below meth c s₁ B hml hv
  obtain ⟨rfl, hsz, hP, hX, hD0, hStr⟩ := hv
  subst hsz
  have hts := atoms_spec (ws := kW y bytes maxL ret) B.pre
  have hle := lv_entry as (n := maxL) hl
  rw [lg_entry_eq]
  exact body p e s m _ below meth c _ (va_A W0 s.heap.size) ⟨B.exec, B.bytes, hml, findClass_of_methodNamed B.named, fun w h => hts w (List.mem_cons_of_mem _ h), hX, fun q h => Or.inr h, hStr⟩ (name_of_methodNamed B.named B.method).1 B.returns B.notSynchronized ⟨hP, hD0.self, va_S.rf⟩ hle
theorem kmetiF {post : Int32 → S → Prop} {rt : FieldType} (hy : plainFor y = true) (hl : (lg_sl as).length ≤ maxL)
    (body : ∀ (p : Program) (e : Env) (s : State) (m : MethodId) (args : Array Value) (below : List Frame) (meth : Method) (c : Code) (ls : Array Slot) (A : Nat → Prop) (Q : State → Prop), kC p s m c bytes maxL y.cls args E A → kV E A s.heap s.heap [] W0 →
      (∀ (v : Int32) (u : S) (H : Heap) (locs : List Loc) (pc : Nat) (ls : Array Slot), post v u → narrow rt (.int v) = .int v → kV E A s.heap H locs (W1 u) → decode bytes pc = .ok (.ireturn, 1) → W p l e rm s m args below meth c H locs mc ms Q (F0 m pc ls [.int v])) →
      lv_has ls maxL (lv_args 0 as) → W p l e rm s m args below meth c s.heap [] 0 0 Q (F0 m 0 ls [])) :
    kMi l y bytes maxL (some rt) rm as E W0 sz mc ms post W1 := by
  refine kentF (Qc := fun A => va_Qi post (fun u t => kB E A (W1 u) t) A) hy hl ?_
  intro p e s m args below meth c ls A X _ hr hlk hV hl0
  refine body p e s m args below meth c ls A _ X hV ?_ hl0
  intro v u H locs pc ls hp hn hV hdg
  exact W.zret X.1 X.2.1 hr hn (fun t ht _ => ⟨⟨v, u, rfl, hp, by rw [ht]; exact hV.1, hV.2.1⟩, hV.2.2.F ht⟩) hV.2.2.2.2 hdg hlk
end KEntF
