/-! a world with a tail, and references that may be null -/
theorem kpm {ws ws' : va_W} (is : List Nat) (hp : List.isPerm is (List.range ws.length) = true) (hs : is.map (fun i => ws[i]?) = ws'.map some) : List.Perm ws ws' := by
  have h1 : List.Perm (is.filterMap (fun i => ws[i]?)) ((List.range ws.length).filterMap (fun i => ws[i]?)) := (List.isPerm_iff.mp hp).filterMap _
  have h2 : (List.range ws.length).filterMap (fun i => ws[i]?) = ws := by
    have := kfm (krg ws [])
    rw [List.append_nil] at this
    exact this
  rw [kfm hs, h2] at h1
  exact h1.symm
section KTail
variable {p : Program} {l : Launch} {e : Env} {R : Room} {s : State} {m : MethodId} {args : Array Value} {below : List Frame} {meth : Method} {c : Code} {H : Heap} {locs : List Loc} {cells slots : Nat} {Q : State → Prop} {E : kE} {A : Nat → Prop} {cc : ByteArray} {nL pc : Nat} {own : String} {ls : Array Slot} {rest : List Value} {wr P : va_W} {a : Nat}
variable {mc ms : Nat} {Wc : va_W} {st0 : List Value} {av : Array Value} {S : Type} {W1 : S → va_W}
theorem kV.swapT {H0 : Heap} {C X T : va_W} (h : kV E A H0 H locs ((C ++ X) ++ T)) : kV E A H0 H locs (C ++ (X ++ T)) := by rw [← List.append_assoc]; exact h
theorem kgoiT {r0 : Int32} (hr : va_Run p l e R s m args below meth c H locs cells slots mc ms (F0 m pc ls st0) rest (va_Qi (fun x (_ : S) => x = r0) (fun u t => kB E (va_A Wc H.size) (W1 u) t) (va_A Wc H.size) av) (va_A Wc H.size)) (X : kC p s m c cc nL own args E A) (hV : kV E A s.heap H locs (Wc ++ (wr ++ P)))
    (kk : ∀ (u : S) (H1 : Heap) (locs1 : List Loc), kV E A s.heap H1 locs1 ((wr ++ W1 u) ++ P) → W p l e R s m args below meth c H1 locs1 (cells + mc) (slots + ms) Q (F0 m (pc + 3) ls (.int r0 :: rest))) : W p l e R s m args below meth c H locs cells slots Q (F0 m pc ls st0) :=
  kgoi2 hr X hV (fun r u H1 locs1 hp hV => by rw [hp]; exact kk u H1 locs1 hV.swap)
theorem kgolT {r0 : Int64} (hr : va_Run p l e R s m args below meth c H locs cells slots mc ms (F0 m pc ls st0) rest (va_Ql (fun x (_ : S) => x = r0) (fun u t => kB E (va_A Wc H.size) (W1 u) t) (va_A Wc H.size) av) (va_A Wc H.size)) (X : kC p s m c cc nL own args E A) (hV : kV E A s.heap H locs (Wc ++ (wr ++ P)))
    (kk : ∀ (u : S) (H1 : Heap) (locs1 : List Loc), kV E A s.heap H1 locs1 ((wr ++ W1 u) ++ P) → W p l e R s m args below meth c H1 locs1 (cells + mc) (slots + ms) Q (F0 m (pc + 3) ls (.long r0 :: rest))) : W p l e R s m args below meth c H locs cells slots Q (F0 m pc ls st0) :=
  kgol2 hr X hV (fun r u H1 locs1 hp hV => by rw [hp]; exact kk u H1 locs1 hV.swap)
theorem kgoqT {post : Option Nat → S → Prop} (hr : va_Run p l e R s m args below meth c H locs cells slots mc ms (F0 m pc ls st0) rest (va_Qq post (fun u t => kB E (va_A Wc H.size) (W1 u) t) (va_A Wc H.size) av) (va_A Wc H.size)) (X : kC p s m c cc nL own args E A) (hV : kV E A s.heap H locs (Wc ++ (wr ++ P)))
    (kk : ∀ (r : Option Nat) (u : S) (H1 : Heap) (locs1 : List Loc), post r u → kV E A s.heap H1 locs1 ((wr ++ W1 u) ++ P) → W p l e R s m args below meth c H1 locs1 (cells + mc) (slots + ms) Q (F0 m (pc + 3) ls (va_rf r :: rest))) : W p l e R s m args below meth c H locs cells slots Q (F0 m pc ls st0) :=
  kgoq2 hr X hV (fun r u H1 locs1 hp hV => kk r u H1 locs1 hp hV.swap)
theorem kgovT {post : S → Prop} (hr : va_Run p l e R s m args below meth c H locs cells slots mc ms (F0 m pc ls st0) rest (va_Qv post (fun u t => kB E (va_A Wc H.size) (W1 u) t) (va_A Wc H.size) av) (va_A Wc H.size)) (X : kC p s m c cc nL own args E A) (hV : kV E A s.heap H locs (Wc ++ (wr ++ P)))
    (kk : ∀ (u : S) (H1 : Heap) (locs1 : List Loc), kV E A s.heap H1 locs1 ((wr ++ W1 u) ++ P) → W p l e R s m args below meth c H1 locs1 (cells + mc) (slots + ms) Q (F0 m (pc + 3) ls rest)) : W p l e R s m args below meth c H locs cells slots Q (F0 m pc ls st0) :=
  kgov2 hr X hV (fun u H1 locs1 _ hV => kk u H1 locs1 hV.swap)
theorem kgoiP {r0 : Int32} (hr : va_Run p l e R s m args below meth c H locs cells slots mc ms (F0 m pc ls st0) rest (va_Qi (fun x (_ : S) => x = r0) (fun u t => kB E (va_A Wc H.size) (W1 u) t) (va_A Wc H.size) av) (va_A Wc H.size)) (X : kC p s m c cc nL own args E A) (hV : kV E A s.heap H locs (Wc ++ wr))
    (kk : ∀ (u : S) (H1 : Heap) (locs1 : List Loc), kV E A s.heap H1 locs1 (wr ++ W1 u) → W p l e R s m args below meth c H1 locs1 (cells + mc) (slots + ms) Q (F0 m (pc + 3) ls (.int r0 :: rest))) : W p l e R s m args below meth c H locs cells slots Q (F0 m pc ls st0) :=
  kgoi2 hr X hV (fun r u H1 locs1 hp hV => by rw [hp]; exact kk u H1 locs1 hV)
theorem kgovP {post : S → Prop} (hr : va_Run p l e R s m args below meth c H locs cells slots mc ms (F0 m pc ls st0) rest (va_Qv post (fun u t => kB E (va_A Wc H.size) (W1 u) t) (va_A Wc H.size) av) (va_A Wc H.size)) (X : kC p s m c cc nL own args E A) (hV : kV E A s.heap H locs (Wc ++ wr))
    (kk : ∀ (u : S) (H1 : Heap) (locs1 : List Loc), kV E A s.heap H1 locs1 (wr ++ W1 u) → W p l e R s m args below meth c H1 locs1 (cells + mc) (slots + ms) Q (F0 m (pc + 3) ls rest)) : W p l e R s m args below meth c H locs cells slots Q (F0 m pc ls st0) :=
  kgov2 hr X hV (fun u H1 locs1 _ hV => kk u H1 locs1 hV)
end KTail
abbrev kgA (G : kG) : Nat → Option Nat := fun i => (G.1 i).map (fun s => s.1)
abbrev kgX (G : kG) : Nat → Option Nat := fun k => (G.2 k).map kta
def oS {β : Type} (G : kG) (r : Option Nat) (nb : Option β) (sb : Nat → kSr → Option β) : Option β := match r with
  | none => nb
  | some i => if i < 10 then (match G.1 i with
    | none => nb
    | some s => sb i s) else none
def oT {β : Type} (G : kG) (r : Option Nat) (nb : Option β) (tb : Nat → kTx → Option β) : Option β := match r with
  | none => nb
  | some k => if k < 20 then (match G.2 k with
    | none => nb
    | some t => tb k t) else none
theorem oS_s {β : Type} {G : kG} {r : Option Nat} {nb : Option β} {sb : Nat → kSr → Option β} {y : β} (h : oS G r nb sb = some y) : (r.bind (kgA G) = none ∧ nb = some y) ∨ ∃ (i : Nat) (s : kSr), r = some i ∧ r.bind (kgA G) = some s.1 ∧ i < 10 ∧ G.1 i = some s ∧ sb i s = some y := by
  cases r with
  | none => exact Or.inl ⟨rfl, h⟩
  | some i =>
    have h : (if i < 10 then (match G.1 i with
      | none => nb
      | some s => sb i s) else none) = some y := h
    by_cases hi : i < 10
    · rw [if_pos hi] at h
      cases hG : G.1 i with
      | none => rw [hG] at h; exact Or.inl ⟨by simp [hG], h⟩
      | some s => rw [hG] at h; exact Or.inr ⟨i, s, rfl, by simp [hG], hi, hG, h⟩
    · rw [if_neg hi] at h; exact nomatch h
theorem oT_s {β : Type} {G : kG} {r : Option Nat} {nb : Option β} {tb : Nat → kTx → Option β} {y : β} (h : oT G r nb tb = some y) : (r.bind (kgX G) = none ∧ nb = some y) ∨ ∃ (k : Nat) (t : kTx), r = some k ∧ r.bind (kgX G) = some (kta t) ∧ k < 20 ∧ G.2 k = some t ∧ tb k t = some y := by
  cases r with
  | none => exact Or.inl ⟨rfl, h⟩
  | some k =>
    have h : (if k < 20 then (match G.2 k with
      | none => nb
      | some t => tb k t) else none) = some y := h
    by_cases hi : k < 20
    · rw [if_pos hi] at h
      cases hG : G.2 k with
      | none => rw [hG] at h; exact Or.inl ⟨by simp [hG], h⟩
      | some t => rw [hG] at h; exact Or.inr ⟨k, t, rfl, by simp [hG], hi, hG, h⟩
    · rw [if_neg hi] at h; exact nomatch h
theorem kgXn {G : kG} {k : Nat} (h : (some k).bind (kgX G) = none) : G.2 k = none := by simpa using h
/-- a text's contents, without addresses -/
abbrev kTv : Type := Int32 × (Nat × (Nat → Int32)) × (Nat × (Nat → Int32)) × (Nat × (Nat → Int32))
def oN {β : Type} (r : Option kTv) (nb : Option β) (sb : kTv → Option β) : Option β := match r with
  | none => nb
  | some v => sb v
theorem oN_s {β : Type} {r : Option kTv} {nb : Option β} {sb : kTv → Option β} {y : β} (h : oN r nb sb = some y) : (r = none ∧ nb = some y) ∨ ∃ v, r = some v ∧ sb v = some y := by
  cases r with
  | none => exact Or.inl ⟨rfl, h⟩
  | some v => exact Or.inr ⟨v, rfl, h⟩
theorem kgWup {G : kG} {k : Nat} {t : kTx} : va_up (kgW G) k (some (kta t)) = kgW (kuT G (10 + k) t) := by
  funext j
  by_cases h : j = k
  · subst h; simp [va_up, kuT, kgW]
  · have h2 : ¬ 10 + j = 10 + k := by omega
    simp [va_up, kuT, kgW, h, h2]
theorem kgTup {G : kG} {k : Nat} {t : kTx} : va_up (kgT G) k (some (kta t)) = kgT (kuT G (14 + k) t) := by
  funext j
  by_cases h : j = k
  · subst h; simp [va_up, kuT, kgT]
  · have h2 : ¬ 14 + j = 14 + k := by omega
    simp [va_up, kuT, kgT, h, h2]
theorem kgAup {G : kG} {i : Nat} {s : kSr} : va_up (kgA G) i (some s.1) = kgA (kuS G i s) := by
  funext j
  by_cases h : j = i
  · subst h; simp [va_up, kuS, kgA]
  · simp [va_up, kuS, kgA, h]
theorem ktN {u : Option kTx} {nt : Option kTv} (h : u.map (fun t => t.2) = nt) (h2 : nt = none) : u = none := by
  subst h2
  simpa using h
theorem ktS {u : Option kTx} {nt : Option kTv} {v : kTv} (h : u.map (fun t => t.2) = nt) (h2 : nt = some v) : ∃ ta : Nat × Nat × Nat × Nat, u = some (ta, v) := by
  subst h2
  cases u with
  | none => simp at h
  | some t =>
    simp at h
    exact ⟨t.1, by rw [← h]⟩
theorem kvn {i : Int32} {n : Nat} (h : vp_in i n) : i.toNatClampNeg < n := by
  have h1 := vp_in_iff.mp h
  have h2 : i.toNatClampNeg = i.toInt.toNat := rfl
  omega
def kGT (G : kG) (nt : Option (Nat × kTv)) (G' : kG) : Prop := match nt with
  | none => G' = G
  | some q => ∃ ta : Nat × Nat × Nat × Nat, G' = kuT G q.1 (ta, q.2)
def kGS (G : kG) (ns : Option (Nat × Int32 × Int32 × Int32 × Int32 × Int32 × Int32)) (G' : kG) : Prop := match ns with
  | none => G' = G
  | some q => ∃ a : Nat, G' = kuS G q.1 (a, q.2)
