/-! safety: a pure function has an answer, and what holds of it -/
def Sf {β : Type} (o : Option β) (P : β → Prop) : Prop := ∃ y, o = some y ∧ P y
section SF
variable {α β : Type} {P Q : β → Prop} {o : Option β}
theorem Sf_some {y : β} (h : P y) : Sf (some y) P := ⟨y, rfl, h⟩
theorem Sf_mono (h : Sf o P) (hp : ∀ y, P y → Q y) : Sf o Q := by
  obtain ⟨y, e, h1⟩ := h
  exact ⟨y, e, hp y h1⟩
theorem Sf_nmI {e : Int32} {k : Int32 → Option β} (h : ∀ v, v = e → Sf (k v) P) : Sf (nmI e k) P := h e rfl
theorem Sf_nmL {e : Int64} {k : Int64 → Option β} (h : ∀ v, v = e → Sf (k v) P) : Sf (nmL e k) P := h e rfl
theorem Sf_ite {c : Prop} {_ : Decidable c} {a b : Option β} (h1 : c → Sf a P) (h2 : ¬ c → Sf b P) : Sf (if c then a else b) P := by
  by_cases h : c
  · rw [if_pos h]; exact h1 h
  · rw [if_neg h]; exact h2 h
theorem jin_of {i : Int32} {n : Nat} (h1 : 0 ≤ i.toInt) (h2 : i.toInt < n) : jin i n = true := by
  unfold jin
  rw [Bool.and_eq_true, decide_eq_true_iff, decide_eq_true_iff]
  exact ⟨h1, h2⟩
theorem Sf_rdI {f : Nat → Int32} {n : Nat} {i : Int32} {k : Int32 → Option β} (h1 : 0 ≤ i.toInt) (h2 : i.toInt < n) (h : ∀ v, v = f i.toNatClampNeg → Sf (k v) P) : Sf (rdI f n i k) P := by
  unfold rdI
  rw [if_pos (jin_of h1 h2)]
  exact h _ rfl
theorem Sf_wrI {f : Nat → Int32} {n : Nat} {i x : Int32} {k : (Nat → Int32) → Option β} (h1 : 0 ≤ i.toInt) (h2 : i.toInt < n) (h : ∀ g, g = upd f i.toNatClampNeg x → Sf (k g) P) : Sf (wrI f n i x k) P := by
  unfold wrI
  rw [if_pos (jin_of h1 h2)]
  exact h _ rfl
theorem Sf_wrB {f : Nat → Int32} {n : Nat} {i x : Int32} {k : (Nat → Int32) → Option β} (h1 : 0 ≤ i.toInt) (h2 : i.toInt < n) (h : ∀ g, g = upd f i.toNatClampNeg (vp_nar .byte x) → Sf (k g) P) : Sf (wrB f n i x k) P := by
  unfold wrB
  rw [if_pos (jin_of h1 h2)]
  exact h _ rfl
theorem Sf_wrZ {f : Nat → Int32} {n : Nat} {i x : Int32} {k : (Nat → Int32) → Option β} (h1 : 0 ≤ i.toInt) (h2 : i.toInt < n) (h : ∀ g, g = upd f i.toNatClampNeg (vp_nar .boolean x) → Sf (k g) P) : Sf (wrZ f n i x k) P := by
  unfold wrZ
  rw [if_pos (jin_of h1 h2)]
  exact h _ rfl
theorem Sf_gdN {n : Nat} {i : Int32} {k : Option β} (h1 : 0 ≤ i.toInt) (h2 : i.toInt < n) (h : Sf k P) : Sf (gdN n i k) P := by
  unfold gdN
  rw [if_pos (jin_of h1 h2)]
  exact h
theorem Sf_dvI {y : Int32} {k : Option β} (h1 : ¬ y.toInt = 0) (h : Sf k P) : Sf (dvI y k) P := by
  unfold dvI
  rw [if_neg (fun e => h1 (by rw [e]; decide))]
  exact h
theorem Sf_dvL {y : Int64} {k : Option β} (h1 : ¬ y.toInt = 0) (h : Sf k P) : Sf (dvL y k) P := by
  unfold dvL
  rw [if_neg (fun e => h1 (by rw [e]; decide))]
  exact h
theorem Sf_bo {v : Int32} {k : Option β} (h1 : v.toInt = 0 ∨ v.toInt = 1) (h : Sf k P) : Sf (bo v k) P := by
  unfold bo
  rw [if_pos (h1.imp (fun e => Int32.toInt_inj.mp (e.trans (by decide))) (fun e => Int32.toInt_inj.mp (e.trans (by decide))))]
  exact h
theorem Sf_oS {G : kG} {r : Option Nat} {nb : Option β} {sb : Nat → kSr → Option β} (h0 : ∀ i, r = some i → i < 10) (h1 : (r = none ∨ ∃ i, r = some i ∧ G.1 i = none) → Sf nb P) (h2 : ∀ i s, r = some i → i < 10 → G.1 i = some s → Sf (sb i s) P) : Sf (oS G r nb sb) P := by
  unfold oS
  cases r with
  | none => exact h1 (Or.inl rfl)
  | some i =>
    show Sf (if i < 10 then (match G.1 i with
      | none => nb
      | some s => sb i s) else none) P
    rw [if_pos (h0 i rfl)]
    cases hG : G.1 i with
    | none => exact h1 (Or.inr ⟨i, rfl, hG⟩)
    | some s => exact h2 i s rfl (h0 i rfl) hG
theorem Sf_oT {G : kG} {r : Option Nat} {nb : Option β} {tb : Nat → kTx → Option β} (h0 : ∀ i, r = some i → i < 20) (h1 : (r = none ∨ ∃ i, r = some i ∧ G.2 i = none) → Sf nb P) (h2 : ∀ i t, r = some i → i < 20 → G.2 i = some t → Sf (tb i t) P) : Sf (oT G r nb tb) P := by
  unfold oT
  cases r with
  | none => exact h1 (Or.inl rfl)
  | some i =>
    show Sf (if i < 20 then (match G.2 i with
      | none => nb
      | some t => tb i t) else none) P
    rw [if_pos (h0 i rfl)]
    cases hG : G.2 i with
    | none => exact h1 (Or.inr ⟨i, rfl, hG⟩)
    | some t => exact h2 i t rfl (h0 i rfl) hG
theorem Sf_oN {r : Option kTv} {nb : Option β} {sb : kTv → Option β} (h1 : r = none → Sf nb P) (h2 : ∀ v, r = some v → Sf (sb v) P) : Sf (oN r nb sb) P := by
  unfold oN
  cases r with
  | none => exact h1 rfl
  | some v => exact h2 v rfl
theorem Sf_ckS {G : kG} {i : Nat} {k : Option β} (h1 : i < 10) (h2 : G.1 i = none) (h3 : G.2 i = none) (h : Sf k P) : Sf (ckS G i k) P := by
  unfold ckS
  rw [if_pos ⟨h1, by rw [h2]; rfl, by rw [h3]; rfl⟩]
  exact h
theorem Sf_cb1 {T1 : Type} {x : Option (T1)} {R : T1 → Prop} {k : T1 → Option β} (h : Sf x R) (hk : ∀ a1, R a1 → Sf (k a1) P) : Sf (cb1 x k) P := by
  obtain ⟨a1, e, hy⟩ := h
  subst e
  exact hk a1 hy
theorem Sf_cb2 {T1 T2 : Type} {x : Option (T1 × T2)} {R : (T1 × T2) → Prop} {k : T1 → T2 → Option β} (h : Sf x R) (hk : ∀ a1 a2, R (a1, a2) → Sf (k a1 a2) P) : Sf (cb2 x k) P := by
  obtain ⟨⟨a1, a2⟩, e, hy⟩ := h
  subst e
  exact hk a1 a2 hy
theorem Sf_cb3 {T1 T2 T3 : Type} {x : Option (T1 × T2 × T3)} {R : (T1 × T2 × T3) → Prop} {k : T1 → T2 → T3 → Option β} (h : Sf x R) (hk : ∀ a1 a2 a3, R (a1, a2, a3) → Sf (k a1 a2 a3) P) : Sf (cb3 x k) P := by
  obtain ⟨⟨a1, a2, a3⟩, e, hy⟩ := h
  subst e
  exact hk a1 a2 a3 hy
theorem Sf_cb4 {T1 T2 T3 T4 : Type} {x : Option (T1 × T2 × T3 × T4)} {R : (T1 × T2 × T3 × T4) → Prop} {k : T1 → T2 → T3 → T4 → Option β} (h : Sf x R) (hk : ∀ a1 a2 a3 a4, R (a1, a2, a3, a4) → Sf (k a1 a2 a3 a4) P) : Sf (cb4 x k) P := by
  obtain ⟨⟨a1, a2, a3, a4⟩, e, hy⟩ := h
  subst e
  exact hk a1 a2 a3 a4 hy
theorem Sf_cb5 {T1 T2 T3 T4 T5 : Type} {x : Option (T1 × T2 × T3 × T4 × T5)} {R : (T1 × T2 × T3 × T4 × T5) → Prop} {k : T1 → T2 → T3 → T4 → T5 → Option β} (h : Sf x R) (hk : ∀ a1 a2 a3 a4 a5, R (a1, a2, a3, a4, a5) → Sf (k a1 a2 a3 a4 a5) P) : Sf (cb5 x k) P := by
  obtain ⟨⟨a1, a2, a3, a4, a5⟩, e, hy⟩ := h
  subst e
  exact hk a1 a2 a3 a4 a5 hy
theorem Sf_cb6 {T1 T2 T3 T4 T5 T6 : Type} {x : Option (T1 × T2 × T3 × T4 × T5 × T6)} {R : (T1 × T2 × T3 × T4 × T5 × T6) → Prop} {k : T1 → T2 → T3 → T4 → T5 → T6 → Option β} (h : Sf x R) (hk : ∀ a1 a2 a3 a4 a5 a6, R (a1, a2, a3, a4, a5, a6) → Sf (k a1 a2 a3 a4 a5 a6) P) : Sf (cb6 x k) P := by
  obtain ⟨⟨a1, a2, a3, a4, a5, a6⟩, e, hy⟩ := h
  subst e
  exact hk a1 a2 a3 a4 a5 a6 hy
theorem Sf_cb7 {T1 T2 T3 T4 T5 T6 T7 : Type} {x : Option (T1 × T2 × T3 × T4 × T5 × T6 × T7)} {R : (T1 × T2 × T3 × T4 × T5 × T6 × T7) → Prop} {k : T1 → T2 → T3 → T4 → T5 → T6 → T7 → Option β} (h : Sf x R) (hk : ∀ a1 a2 a3 a4 a5 a6 a7, R (a1, a2, a3, a4, a5, a6, a7) → Sf (k a1 a2 a3 a4 a5 a6 a7) P) : Sf (cb7 x k) P := by
  obtain ⟨⟨a1, a2, a3, a4, a5, a6, a7⟩, e, hy⟩ := h
  subst e
  exact hk a1 a2 a3 a4 a5 a6 a7 hy
theorem Sf_cb8 {T1 T2 T3 T4 T5 T6 T7 T8 : Type} {x : Option (T1 × T2 × T3 × T4 × T5 × T6 × T7 × T8)} {R : (T1 × T2 × T3 × T4 × T5 × T6 × T7 × T8) → Prop} {k : T1 → T2 → T3 → T4 → T5 → T6 → T7 → T8 → Option β} (h : Sf x R) (hk : ∀ a1 a2 a3 a4 a5 a6 a7 a8, R (a1, a2, a3, a4, a5, a6, a7, a8) → Sf (k a1 a2 a3 a4 a5 a6 a7 a8) P) : Sf (cb8 x k) P := by
  obtain ⟨⟨a1, a2, a3, a4, a5, a6, a7, a8⟩, e, hy⟩ := h
  subst e
  exact hk a1 a2 a3 a4 a5 a6 a7 a8 hy
theorem Sf_cb9 {T1 T2 T3 T4 T5 T6 T7 T8 T9 : Type} {x : Option (T1 × T2 × T3 × T4 × T5 × T6 × T7 × T8 × T9)} {R : (T1 × T2 × T3 × T4 × T5 × T6 × T7 × T8 × T9) → Prop} {k : T1 → T2 → T3 → T4 → T5 → T6 → T7 → T8 → T9 → Option β} (h : Sf x R) (hk : ∀ a1 a2 a3 a4 a5 a6 a7 a8 a9, R (a1, a2, a3, a4, a5, a6, a7, a8, a9) → Sf (k a1 a2 a3 a4 a5 a6 a7 a8 a9) P) : Sf (cb9 x k) P := by
  obtain ⟨⟨a1, a2, a3, a4, a5, a6, a7, a8, a9⟩, e, hy⟩ := h
  subst e
  exact hk a1 a2 a3 a4 a5 a6 a7 a8 a9 hy
theorem Sf_cb10 {T1 T2 T3 T4 T5 T6 T7 T8 T9 T10 : Type} {x : Option (T1 × T2 × T3 × T4 × T5 × T6 × T7 × T8 × T9 × T10)} {R : (T1 × T2 × T3 × T4 × T5 × T6 × T7 × T8 × T9 × T10) → Prop} {k : T1 → T2 → T3 → T4 → T5 → T6 → T7 → T8 → T9 → T10 → Option β} (h : Sf x R) (hk : ∀ a1 a2 a3 a4 a5 a6 a7 a8 a9 a10, R (a1, a2, a3, a4, a5, a6, a7, a8, a9, a10) → Sf (k a1 a2 a3 a4 a5 a6 a7 a8 a9 a10) P) : Sf (cb10 x k) P := by
  obtain ⟨⟨a1, a2, a3, a4, a5, a6, a7, a8, a9, a10⟩, e, hy⟩ := h
  subst e
  exact hk a1 a2 a3 a4 a5 a6 a7 a8 a9 a10 hy
theorem Sf_cb11 {T1 T2 T3 T4 T5 T6 T7 T8 T9 T10 T11 : Type} {x : Option (T1 × T2 × T3 × T4 × T5 × T6 × T7 × T8 × T9 × T10 × T11)} {R : (T1 × T2 × T3 × T4 × T5 × T6 × T7 × T8 × T9 × T10 × T11) → Prop} {k : T1 → T2 → T3 → T4 → T5 → T6 → T7 → T8 → T9 → T10 → T11 → Option β} (h : Sf x R) (hk : ∀ a1 a2 a3 a4 a5 a6 a7 a8 a9 a10 a11, R (a1, a2, a3, a4, a5, a6, a7, a8, a9, a10, a11) → Sf (k a1 a2 a3 a4 a5 a6 a7 a8 a9 a10 a11) P) : Sf (cb11 x k) P := by
  obtain ⟨⟨a1, a2, a3, a4, a5, a6, a7, a8, a9, a10, a11⟩, e, hy⟩ := h
  subst e
  exact hk a1 a2 a3 a4 a5 a6 a7 a8 a9 a10 a11 hy
theorem Sf_cb12 {T1 T2 T3 T4 T5 T6 T7 T8 T9 T10 T11 T12 : Type} {x : Option (T1 × T2 × T3 × T4 × T5 × T6 × T7 × T8 × T9 × T10 × T11 × T12)} {R : (T1 × T2 × T3 × T4 × T5 × T6 × T7 × T8 × T9 × T10 × T11 × T12) → Prop} {k : T1 → T2 → T3 → T4 → T5 → T6 → T7 → T8 → T9 → T10 → T11 → T12 → Option β} (h : Sf x R) (hk : ∀ a1 a2 a3 a4 a5 a6 a7 a8 a9 a10 a11 a12, R (a1, a2, a3, a4, a5, a6, a7, a8, a9, a10, a11, a12) → Sf (k a1 a2 a3 a4 a5 a6 a7 a8 a9 a10 a11 a12) P) : Sf (cb12 x k) P := by
  obtain ⟨⟨a1, a2, a3, a4, a5, a6, a7, a8, a9, a10, a11, a12⟩, e, hy⟩ := h
  subst e
  exact hk a1 a2 a3 a4 a5 a6 a7 a8 a9 a10 a11 a12 hy
theorem Sf_cb13 {T1 T2 T3 T4 T5 T6 T7 T8 T9 T10 T11 T12 T13 : Type} {x : Option (T1 × T2 × T3 × T4 × T5 × T6 × T7 × T8 × T9 × T10 × T11 × T12 × T13)} {R : (T1 × T2 × T3 × T4 × T5 × T6 × T7 × T8 × T9 × T10 × T11 × T12 × T13) → Prop} {k : T1 → T2 → T3 → T4 → T5 → T6 → T7 → T8 → T9 → T10 → T11 → T12 → T13 → Option β} (h : Sf x R) (hk : ∀ a1 a2 a3 a4 a5 a6 a7 a8 a9 a10 a11 a12 a13, R (a1, a2, a3, a4, a5, a6, a7, a8, a9, a10, a11, a12, a13) → Sf (k a1 a2 a3 a4 a5 a6 a7 a8 a9 a10 a11 a12 a13) P) : Sf (cb13 x k) P := by
  obtain ⟨⟨a1, a2, a3, a4, a5, a6, a7, a8, a9, a10, a11, a12, a13⟩, e, hy⟩ := h
  subst e
  exact hk a1 a2 a3 a4 a5 a6 a7 a8 a9 a10 a11 a12 a13 hy
theorem Sf_cb14 {T1 T2 T3 T4 T5 T6 T7 T8 T9 T10 T11 T12 T13 T14 : Type} {x : Option (T1 × T2 × T3 × T4 × T5 × T6 × T7 × T8 × T9 × T10 × T11 × T12 × T13 × T14)} {R : (T1 × T2 × T3 × T4 × T5 × T6 × T7 × T8 × T9 × T10 × T11 × T12 × T13 × T14) → Prop} {k : T1 → T2 → T3 → T4 → T5 → T6 → T7 → T8 → T9 → T10 → T11 → T12 → T13 → T14 → Option β} (h : Sf x R) (hk : ∀ a1 a2 a3 a4 a5 a6 a7 a8 a9 a10 a11 a12 a13 a14, R (a1, a2, a3, a4, a5, a6, a7, a8, a9, a10, a11, a12, a13, a14) → Sf (k a1 a2 a3 a4 a5 a6 a7 a8 a9 a10 a11 a12 a13 a14) P) : Sf (cb14 x k) P := by
  obtain ⟨⟨a1, a2, a3, a4, a5, a6, a7, a8, a9, a10, a11, a12, a13, a14⟩, e, hy⟩ := h
  subst e
  exact hk a1 a2 a3 a4 a5 a6 a7 a8 a9 a10 a11 a12 a13 a14 hy
theorem Sf_cb15 {T1 T2 T3 T4 T5 T6 T7 T8 T9 T10 T11 T12 T13 T14 T15 : Type} {x : Option (T1 × T2 × T3 × T4 × T5 × T6 × T7 × T8 × T9 × T10 × T11 × T12 × T13 × T14 × T15)} {R : (T1 × T2 × T3 × T4 × T5 × T6 × T7 × T8 × T9 × T10 × T11 × T12 × T13 × T14 × T15) → Prop} {k : T1 → T2 → T3 → T4 → T5 → T6 → T7 → T8 → T9 → T10 → T11 → T12 → T13 → T14 → T15 → Option β} (h : Sf x R) (hk : ∀ a1 a2 a3 a4 a5 a6 a7 a8 a9 a10 a11 a12 a13 a14 a15, R (a1, a2, a3, a4, a5, a6, a7, a8, a9, a10, a11, a12, a13, a14, a15) → Sf (k a1 a2 a3 a4 a5 a6 a7 a8 a9 a10 a11 a12 a13 a14 a15) P) : Sf (cb15 x k) P := by
  obtain ⟨⟨a1, a2, a3, a4, a5, a6, a7, a8, a9, a10, a11, a12, a13, a14, a15⟩, e, hy⟩ := h
  subst e
  exact hk a1 a2 a3 a4 a5 a6 a7 a8 a9 a10 a11 a12 a13 a14 a15 hy
theorem Sf_cb16 {T1 T2 T3 T4 T5 T6 T7 T8 T9 T10 T11 T12 T13 T14 T15 T16 : Type} {x : Option (T1 × T2 × T3 × T4 × T5 × T6 × T7 × T8 × T9 × T10 × T11 × T12 × T13 × T14 × T15 × T16)} {R : (T1 × T2 × T3 × T4 × T5 × T6 × T7 × T8 × T9 × T10 × T11 × T12 × T13 × T14 × T15 × T16) → Prop} {k : T1 → T2 → T3 → T4 → T5 → T6 → T7 → T8 → T9 → T10 → T11 → T12 → T13 → T14 → T15 → T16 → Option β} (h : Sf x R) (hk : ∀ a1 a2 a3 a4 a5 a6 a7 a8 a9 a10 a11 a12 a13 a14 a15 a16, R (a1, a2, a3, a4, a5, a6, a7, a8, a9, a10, a11, a12, a13, a14, a15, a16) → Sf (k a1 a2 a3 a4 a5 a6 a7 a8 a9 a10 a11 a12 a13 a14 a15 a16) P) : Sf (cb16 x k) P := by
  obtain ⟨⟨a1, a2, a3, a4, a5, a6, a7, a8, a9, a10, a11, a12, a13, a14, a15, a16⟩, e, hy⟩ := h
  subst e
  exact hk a1 a2 a3 a4 a5 a6 a7 a8 a9 a10 a11 a12 a13 a14 a15 a16 hy
theorem Sf_cb17 {T1 T2 T3 T4 T5 T6 T7 T8 T9 T10 T11 T12 T13 T14 T15 T16 T17 : Type} {x : Option (T1 × T2 × T3 × T4 × T5 × T6 × T7 × T8 × T9 × T10 × T11 × T12 × T13 × T14 × T15 × T16 × T17)} {R : (T1 × T2 × T3 × T4 × T5 × T6 × T7 × T8 × T9 × T10 × T11 × T12 × T13 × T14 × T15 × T16 × T17) → Prop} {k : T1 → T2 → T3 → T4 → T5 → T6 → T7 → T8 → T9 → T10 → T11 → T12 → T13 → T14 → T15 → T16 → T17 → Option β} (h : Sf x R) (hk : ∀ a1 a2 a3 a4 a5 a6 a7 a8 a9 a10 a11 a12 a13 a14 a15 a16 a17, R (a1, a2, a3, a4, a5, a6, a7, a8, a9, a10, a11, a12, a13, a14, a15, a16, a17) → Sf (k a1 a2 a3 a4 a5 a6 a7 a8 a9 a10 a11 a12 a13 a14 a15 a16 a17) P) : Sf (cb17 x k) P := by
  obtain ⟨⟨a1, a2, a3, a4, a5, a6, a7, a8, a9, a10, a11, a12, a13, a14, a15, a16, a17⟩, e, hy⟩ := h
  subst e
  exact hk a1 a2 a3 a4 a5 a6 a7 a8 a9 a10 a11 a12 a13 a14 a15 a16 a17 hy
theorem Sf_cb18 {T1 T2 T3 T4 T5 T6 T7 T8 T9 T10 T11 T12 T13 T14 T15 T16 T17 T18 : Type} {x : Option (T1 × T2 × T3 × T4 × T5 × T6 × T7 × T8 × T9 × T10 × T11 × T12 × T13 × T14 × T15 × T16 × T17 × T18)} {R : (T1 × T2 × T3 × T4 × T5 × T6 × T7 × T8 × T9 × T10 × T11 × T12 × T13 × T14 × T15 × T16 × T17 × T18) → Prop} {k : T1 → T2 → T3 → T4 → T5 → T6 → T7 → T8 → T9 → T10 → T11 → T12 → T13 → T14 → T15 → T16 → T17 → T18 → Option β} (h : Sf x R) (hk : ∀ a1 a2 a3 a4 a5 a6 a7 a8 a9 a10 a11 a12 a13 a14 a15 a16 a17 a18, R (a1, a2, a3, a4, a5, a6, a7, a8, a9, a10, a11, a12, a13, a14, a15, a16, a17, a18) → Sf (k a1 a2 a3 a4 a5 a6 a7 a8 a9 a10 a11 a12 a13 a14 a15 a16 a17 a18) P) : Sf (cb18 x k) P := by
  obtain ⟨⟨a1, a2, a3, a4, a5, a6, a7, a8, a9, a10, a11, a12, a13, a14, a15, a16, a17, a18⟩, e, hy⟩ := h
  subst e
  exact hk a1 a2 a3 a4 a5 a6 a7 a8 a9 a10 a11 a12 a13 a14 a15 a16 a17 a18 hy
theorem Sf_cb19 {T1 T2 T3 T4 T5 T6 T7 T8 T9 T10 T11 T12 T13 T14 T15 T16 T17 T18 T19 : Type} {x : Option (T1 × T2 × T3 × T4 × T5 × T6 × T7 × T8 × T9 × T10 × T11 × T12 × T13 × T14 × T15 × T16 × T17 × T18 × T19)} {R : (T1 × T2 × T3 × T4 × T5 × T6 × T7 × T8 × T9 × T10 × T11 × T12 × T13 × T14 × T15 × T16 × T17 × T18 × T19) → Prop} {k : T1 → T2 → T3 → T4 → T5 → T6 → T7 → T8 → T9 → T10 → T11 → T12 → T13 → T14 → T15 → T16 → T17 → T18 → T19 → Option β} (h : Sf x R) (hk : ∀ a1 a2 a3 a4 a5 a6 a7 a8 a9 a10 a11 a12 a13 a14 a15 a16 a17 a18 a19, R (a1, a2, a3, a4, a5, a6, a7, a8, a9, a10, a11, a12, a13, a14, a15, a16, a17, a18, a19) → Sf (k a1 a2 a3 a4 a5 a6 a7 a8 a9 a10 a11 a12 a13 a14 a15 a16 a17 a18 a19) P) : Sf (cb19 x k) P := by
  obtain ⟨⟨a1, a2, a3, a4, a5, a6, a7, a8, a9, a10, a11, a12, a13, a14, a15, a16, a17, a18, a19⟩, e, hy⟩ := h
  subst e
  exact hk a1 a2 a3 a4 a5 a6 a7 a8 a9 a10 a11 a12 a13 a14 a15 a16 a17 a18 a19 hy
theorem Sf_cb20 {T1 T2 T3 T4 T5 T6 T7 T8 T9 T10 T11 T12 T13 T14 T15 T16 T17 T18 T19 T20 : Type} {x : Option (T1 × T2 × T3 × T4 × T5 × T6 × T7 × T8 × T9 × T10 × T11 × T12 × T13 × T14 × T15 × T16 × T17 × T18 × T19 × T20)} {R : (T1 × T2 × T3 × T4 × T5 × T6 × T7 × T8 × T9 × T10 × T11 × T12 × T13 × T14 × T15 × T16 × T17 × T18 × T19 × T20) → Prop} {k : T1 → T2 → T3 → T4 → T5 → T6 → T7 → T8 → T9 → T10 → T11 → T12 → T13 → T14 → T15 → T16 → T17 → T18 → T19 → T20 → Option β} (h : Sf x R) (hk : ∀ a1 a2 a3 a4 a5 a6 a7 a8 a9 a10 a11 a12 a13 a14 a15 a16 a17 a18 a19 a20, R (a1, a2, a3, a4, a5, a6, a7, a8, a9, a10, a11, a12, a13, a14, a15, a16, a17, a18, a19, a20) → Sf (k a1 a2 a3 a4 a5 a6 a7 a8 a9 a10 a11 a12 a13 a14 a15 a16 a17 a18 a19 a20) P) : Sf (cb20 x k) P := by
  obtain ⟨⟨a1, a2, a3, a4, a5, a6, a7, a8, a9, a10, a11, a12, a13, a14, a15, a16, a17, a18, a19, a20⟩, e, hy⟩ := h
  subst e
  exact hk a1 a2 a3 a4 a5 a6 a7 a8 a9 a10 a11 a12 a13 a14 a15 a16 a17 a18 a19 a20 hy
theorem Sf_cb21 {T1 T2 T3 T4 T5 T6 T7 T8 T9 T10 T11 T12 T13 T14 T15 T16 T17 T18 T19 T20 T21 : Type} {x : Option (T1 × T2 × T3 × T4 × T5 × T6 × T7 × T8 × T9 × T10 × T11 × T12 × T13 × T14 × T15 × T16 × T17 × T18 × T19 × T20 × T21)} {R : (T1 × T2 × T3 × T4 × T5 × T6 × T7 × T8 × T9 × T10 × T11 × T12 × T13 × T14 × T15 × T16 × T17 × T18 × T19 × T20 × T21) → Prop} {k : T1 → T2 → T3 → T4 → T5 → T6 → T7 → T8 → T9 → T10 → T11 → T12 → T13 → T14 → T15 → T16 → T17 → T18 → T19 → T20 → T21 → Option β} (h : Sf x R) (hk : ∀ a1 a2 a3 a4 a5 a6 a7 a8 a9 a10 a11 a12 a13 a14 a15 a16 a17 a18 a19 a20 a21, R (a1, a2, a3, a4, a5, a6, a7, a8, a9, a10, a11, a12, a13, a14, a15, a16, a17, a18, a19, a20, a21) → Sf (k a1 a2 a3 a4 a5 a6 a7 a8 a9 a10 a11 a12 a13 a14 a15 a16 a17 a18 a19 a20 a21) P) : Sf (cb21 x k) P := by
  obtain ⟨⟨a1, a2, a3, a4, a5, a6, a7, a8, a9, a10, a11, a12, a13, a14, a15, a16, a17, a18, a19, a20, a21⟩, e, hy⟩ := h
  subst e
  exact hk a1 a2 a3 a4 a5 a6 a7 a8 a9 a10 a11 a12 a13 a14 a15 a16 a17 a18 a19 a20 a21 hy
theorem Sf_cb22 {T1 T2 T3 T4 T5 T6 T7 T8 T9 T10 T11 T12 T13 T14 T15 T16 T17 T18 T19 T20 T21 T22 : Type} {x : Option (T1 × T2 × T3 × T4 × T5 × T6 × T7 × T8 × T9 × T10 × T11 × T12 × T13 × T14 × T15 × T16 × T17 × T18 × T19 × T20 × T21 × T22)} {R : (T1 × T2 × T3 × T4 × T5 × T6 × T7 × T8 × T9 × T10 × T11 × T12 × T13 × T14 × T15 × T16 × T17 × T18 × T19 × T20 × T21 × T22) → Prop} {k : T1 → T2 → T3 → T4 → T5 → T6 → T7 → T8 → T9 → T10 → T11 → T12 → T13 → T14 → T15 → T16 → T17 → T18 → T19 → T20 → T21 → T22 → Option β} (h : Sf x R) (hk : ∀ a1 a2 a3 a4 a5 a6 a7 a8 a9 a10 a11 a12 a13 a14 a15 a16 a17 a18 a19 a20 a21 a22, R (a1, a2, a3, a4, a5, a6, a7, a8, a9, a10, a11, a12, a13, a14, a15, a16, a17, a18, a19, a20, a21, a22) → Sf (k a1 a2 a3 a4 a5 a6 a7 a8 a9 a10 a11 a12 a13 a14 a15 a16 a17 a18 a19 a20 a21 a22) P) : Sf (cb22 x k) P := by
  obtain ⟨⟨a1, a2, a3, a4, a5, a6, a7, a8, a9, a10, a11, a12, a13, a14, a15, a16, a17, a18, a19, a20, a21, a22⟩, e, hy⟩ := h
  subst e
  exact hk a1 a2 a3 a4 a5 a6 a7 a8 a9 a10 a11 a12 a13 a14 a15 a16 a17 a18 a19 a20 a21 a22 hy
theorem Sf_cb23 {T1 T2 T3 T4 T5 T6 T7 T8 T9 T10 T11 T12 T13 T14 T15 T16 T17 T18 T19 T20 T21 T22 T23 : Type} {x : Option (T1 × T2 × T3 × T4 × T5 × T6 × T7 × T8 × T9 × T10 × T11 × T12 × T13 × T14 × T15 × T16 × T17 × T18 × T19 × T20 × T21 × T22 × T23)} {R : (T1 × T2 × T3 × T4 × T5 × T6 × T7 × T8 × T9 × T10 × T11 × T12 × T13 × T14 × T15 × T16 × T17 × T18 × T19 × T20 × T21 × T22 × T23) → Prop} {k : T1 → T2 → T3 → T4 → T5 → T6 → T7 → T8 → T9 → T10 → T11 → T12 → T13 → T14 → T15 → T16 → T17 → T18 → T19 → T20 → T21 → T22 → T23 → Option β} (h : Sf x R) (hk : ∀ a1 a2 a3 a4 a5 a6 a7 a8 a9 a10 a11 a12 a13 a14 a15 a16 a17 a18 a19 a20 a21 a22 a23, R (a1, a2, a3, a4, a5, a6, a7, a8, a9, a10, a11, a12, a13, a14, a15, a16, a17, a18, a19, a20, a21, a22, a23) → Sf (k a1 a2 a3 a4 a5 a6 a7 a8 a9 a10 a11 a12 a13 a14 a15 a16 a17 a18 a19 a20 a21 a22 a23) P) : Sf (cb23 x k) P := by
  obtain ⟨⟨a1, a2, a3, a4, a5, a6, a7, a8, a9, a10, a11, a12, a13, a14, a15, a16, a17, a18, a19, a20, a21, a22, a23⟩, e, hy⟩ := h
  subst e
  exact hk a1 a2 a3 a4 a5 a6 a7 a8 a9 a10 a11 a12 a13 a14 a15 a16 a17 a18 a19 a20 a21 a22 a23 hy
theorem Sf_cb24 {T1 T2 T3 T4 T5 T6 T7 T8 T9 T10 T11 T12 T13 T14 T15 T16 T17 T18 T19 T20 T21 T22 T23 T24 : Type} {x : Option (T1 × T2 × T3 × T4 × T5 × T6 × T7 × T8 × T9 × T10 × T11 × T12 × T13 × T14 × T15 × T16 × T17 × T18 × T19 × T20 × T21 × T22 × T23 × T24)} {R : (T1 × T2 × T3 × T4 × T5 × T6 × T7 × T8 × T9 × T10 × T11 × T12 × T13 × T14 × T15 × T16 × T17 × T18 × T19 × T20 × T21 × T22 × T23 × T24) → Prop} {k : T1 → T2 → T3 → T4 → T5 → T6 → T7 → T8 → T9 → T10 → T11 → T12 → T13 → T14 → T15 → T16 → T17 → T18 → T19 → T20 → T21 → T22 → T23 → T24 → Option β} (h : Sf x R) (hk : ∀ a1 a2 a3 a4 a5 a6 a7 a8 a9 a10 a11 a12 a13 a14 a15 a16 a17 a18 a19 a20 a21 a22 a23 a24, R (a1, a2, a3, a4, a5, a6, a7, a8, a9, a10, a11, a12, a13, a14, a15, a16, a17, a18, a19, a20, a21, a22, a23, a24) → Sf (k a1 a2 a3 a4 a5 a6 a7 a8 a9 a10 a11 a12 a13 a14 a15 a16 a17 a18 a19 a20 a21 a22 a23 a24) P) : Sf (cb24 x k) P := by
  obtain ⟨⟨a1, a2, a3, a4, a5, a6, a7, a8, a9, a10, a11, a12, a13, a14, a15, a16, a17, a18, a19, a20, a21, a22, a23, a24⟩, e, hy⟩ := h
  subst e
  exact hk a1 a2 a3 a4 a5 a6 a7 a8 a9 a10 a11 a12 a13 a14 a15 a16 a17 a18 a19 a20 a21 a22 a23 a24 hy
theorem Sf_cb25 {T1 T2 T3 T4 T5 T6 T7 T8 T9 T10 T11 T12 T13 T14 T15 T16 T17 T18 T19 T20 T21 T22 T23 T24 T25 : Type} {x : Option (T1 × T2 × T3 × T4 × T5 × T6 × T7 × T8 × T9 × T10 × T11 × T12 × T13 × T14 × T15 × T16 × T17 × T18 × T19 × T20 × T21 × T22 × T23 × T24 × T25)} {R : (T1 × T2 × T3 × T4 × T5 × T6 × T7 × T8 × T9 × T10 × T11 × T12 × T13 × T14 × T15 × T16 × T17 × T18 × T19 × T20 × T21 × T22 × T23 × T24 × T25) → Prop} {k : T1 → T2 → T3 → T4 → T5 → T6 → T7 → T8 → T9 → T10 → T11 → T12 → T13 → T14 → T15 → T16 → T17 → T18 → T19 → T20 → T21 → T22 → T23 → T24 → T25 → Option β} (h : Sf x R) (hk : ∀ a1 a2 a3 a4 a5 a6 a7 a8 a9 a10 a11 a12 a13 a14 a15 a16 a17 a18 a19 a20 a21 a22 a23 a24 a25, R (a1, a2, a3, a4, a5, a6, a7, a8, a9, a10, a11, a12, a13, a14, a15, a16, a17, a18, a19, a20, a21, a22, a23, a24, a25) → Sf (k a1 a2 a3 a4 a5 a6 a7 a8 a9 a10 a11 a12 a13 a14 a15 a16 a17 a18 a19 a20 a21 a22 a23 a24 a25) P) : Sf (cb25 x k) P := by
  obtain ⟨⟨a1, a2, a3, a4, a5, a6, a7, a8, a9, a10, a11, a12, a13, a14, a15, a16, a17, a18, a19, a20, a21, a22, a23, a24, a25⟩, e, hy⟩ := h
  subst e
  exact hk a1 a2 a3 a4 a5 a6 a7 a8 a9 a10 a11 a12 a13 a14 a15 a16 a17 a18 a19 a20 a21 a22 a23 a24 a25 hy
theorem Sf_cb26 {T1 T2 T3 T4 T5 T6 T7 T8 T9 T10 T11 T12 T13 T14 T15 T16 T17 T18 T19 T20 T21 T22 T23 T24 T25 T26 : Type} {x : Option (T1 × T2 × T3 × T4 × T5 × T6 × T7 × T8 × T9 × T10 × T11 × T12 × T13 × T14 × T15 × T16 × T17 × T18 × T19 × T20 × T21 × T22 × T23 × T24 × T25 × T26)} {R : (T1 × T2 × T3 × T4 × T5 × T6 × T7 × T8 × T9 × T10 × T11 × T12 × T13 × T14 × T15 × T16 × T17 × T18 × T19 × T20 × T21 × T22 × T23 × T24 × T25 × T26) → Prop} {k : T1 → T2 → T3 → T4 → T5 → T6 → T7 → T8 → T9 → T10 → T11 → T12 → T13 → T14 → T15 → T16 → T17 → T18 → T19 → T20 → T21 → T22 → T23 → T24 → T25 → T26 → Option β} (h : Sf x R) (hk : ∀ a1 a2 a3 a4 a5 a6 a7 a8 a9 a10 a11 a12 a13 a14 a15 a16 a17 a18 a19 a20 a21 a22 a23 a24 a25 a26, R (a1, a2, a3, a4, a5, a6, a7, a8, a9, a10, a11, a12, a13, a14, a15, a16, a17, a18, a19, a20, a21, a22, a23, a24, a25, a26) → Sf (k a1 a2 a3 a4 a5 a6 a7 a8 a9 a10 a11 a12 a13 a14 a15 a16 a17 a18 a19 a20 a21 a22 a23 a24 a25 a26) P) : Sf (cb26 x k) P := by
  obtain ⟨⟨a1, a2, a3, a4, a5, a6, a7, a8, a9, a10, a11, a12, a13, a14, a15, a16, a17, a18, a19, a20, a21, a22, a23, a24, a25, a26⟩, e, hy⟩ := h
  subst e
  exact hk a1 a2 a3 a4 a5 a6 a7 a8 a9 a10 a11 a12 a13 a14 a15 a16 a17 a18 a19 a20 a21 a22 a23 a24 a25 a26 hy
theorem Sf_cb27 {T1 T2 T3 T4 T5 T6 T7 T8 T9 T10 T11 T12 T13 T14 T15 T16 T17 T18 T19 T20 T21 T22 T23 T24 T25 T26 T27 : Type} {x : Option (T1 × T2 × T3 × T4 × T5 × T6 × T7 × T8 × T9 × T10 × T11 × T12 × T13 × T14 × T15 × T16 × T17 × T18 × T19 × T20 × T21 × T22 × T23 × T24 × T25 × T26 × T27)} {R : (T1 × T2 × T3 × T4 × T5 × T6 × T7 × T8 × T9 × T10 × T11 × T12 × T13 × T14 × T15 × T16 × T17 × T18 × T19 × T20 × T21 × T22 × T23 × T24 × T25 × T26 × T27) → Prop} {k : T1 → T2 → T3 → T4 → T5 → T6 → T7 → T8 → T9 → T10 → T11 → T12 → T13 → T14 → T15 → T16 → T17 → T18 → T19 → T20 → T21 → T22 → T23 → T24 → T25 → T26 → T27 → Option β} (h : Sf x R) (hk : ∀ a1 a2 a3 a4 a5 a6 a7 a8 a9 a10 a11 a12 a13 a14 a15 a16 a17 a18 a19 a20 a21 a22 a23 a24 a25 a26 a27, R (a1, a2, a3, a4, a5, a6, a7, a8, a9, a10, a11, a12, a13, a14, a15, a16, a17, a18, a19, a20, a21, a22, a23, a24, a25, a26, a27) → Sf (k a1 a2 a3 a4 a5 a6 a7 a8 a9 a10 a11 a12 a13 a14 a15 a16 a17 a18 a19 a20 a21 a22 a23 a24 a25 a26 a27) P) : Sf (cb27 x k) P := by
  obtain ⟨⟨a1, a2, a3, a4, a5, a6, a7, a8, a9, a10, a11, a12, a13, a14, a15, a16, a17, a18, a19, a20, a21, a22, a23, a24, a25, a26, a27⟩, e, hy⟩ := h
  subst e
  exact hk a1 a2 a3 a4 a5 a6 a7 a8 a9 a10 a11 a12 a13 a14 a15 a16 a17 a18 a19 a20 a21 a22 a23 a24 a25 a26 a27 hy
theorem Sf_cb28 {T1 T2 T3 T4 T5 T6 T7 T8 T9 T10 T11 T12 T13 T14 T15 T16 T17 T18 T19 T20 T21 T22 T23 T24 T25 T26 T27 T28 : Type} {x : Option (T1 × T2 × T3 × T4 × T5 × T6 × T7 × T8 × T9 × T10 × T11 × T12 × T13 × T14 × T15 × T16 × T17 × T18 × T19 × T20 × T21 × T22 × T23 × T24 × T25 × T26 × T27 × T28)} {R : (T1 × T2 × T3 × T4 × T5 × T6 × T7 × T8 × T9 × T10 × T11 × T12 × T13 × T14 × T15 × T16 × T17 × T18 × T19 × T20 × T21 × T22 × T23 × T24 × T25 × T26 × T27 × T28) → Prop} {k : T1 → T2 → T3 → T4 → T5 → T6 → T7 → T8 → T9 → T10 → T11 → T12 → T13 → T14 → T15 → T16 → T17 → T18 → T19 → T20 → T21 → T22 → T23 → T24 → T25 → T26 → T27 → T28 → Option β} (h : Sf x R) (hk : ∀ a1 a2 a3 a4 a5 a6 a7 a8 a9 a10 a11 a12 a13 a14 a15 a16 a17 a18 a19 a20 a21 a22 a23 a24 a25 a26 a27 a28, R (a1, a2, a3, a4, a5, a6, a7, a8, a9, a10, a11, a12, a13, a14, a15, a16, a17, a18, a19, a20, a21, a22, a23, a24, a25, a26, a27, a28) → Sf (k a1 a2 a3 a4 a5 a6 a7 a8 a9 a10 a11 a12 a13 a14 a15 a16 a17 a18 a19 a20 a21 a22 a23 a24 a25 a26 a27 a28) P) : Sf (cb28 x k) P := by
  obtain ⟨⟨a1, a2, a3, a4, a5, a6, a7, a8, a9, a10, a11, a12, a13, a14, a15, a16, a17, a18, a19, a20, a21, a22, a23, a24, a25, a26, a27, a28⟩, e, hy⟩ := h
  subst e
  exact hk a1 a2 a3 a4 a5 a6 a7 a8 a9 a10 a11 a12 a13 a14 a15 a16 a17 a18 a19 a20 a21 a22 a23 a24 a25 a26 a27 a28 hy
theorem Sf_cb29 {T1 T2 T3 T4 T5 T6 T7 T8 T9 T10 T11 T12 T13 T14 T15 T16 T17 T18 T19 T20 T21 T22 T23 T24 T25 T26 T27 T28 T29 : Type} {x : Option (T1 × T2 × T3 × T4 × T5 × T6 × T7 × T8 × T9 × T10 × T11 × T12 × T13 × T14 × T15 × T16 × T17 × T18 × T19 × T20 × T21 × T22 × T23 × T24 × T25 × T26 × T27 × T28 × T29)} {R : (T1 × T2 × T3 × T4 × T5 × T6 × T7 × T8 × T9 × T10 × T11 × T12 × T13 × T14 × T15 × T16 × T17 × T18 × T19 × T20 × T21 × T22 × T23 × T24 × T25 × T26 × T27 × T28 × T29) → Prop} {k : T1 → T2 → T3 → T4 → T5 → T6 → T7 → T8 → T9 → T10 → T11 → T12 → T13 → T14 → T15 → T16 → T17 → T18 → T19 → T20 → T21 → T22 → T23 → T24 → T25 → T26 → T27 → T28 → T29 → Option β} (h : Sf x R) (hk : ∀ a1 a2 a3 a4 a5 a6 a7 a8 a9 a10 a11 a12 a13 a14 a15 a16 a17 a18 a19 a20 a21 a22 a23 a24 a25 a26 a27 a28 a29, R (a1, a2, a3, a4, a5, a6, a7, a8, a9, a10, a11, a12, a13, a14, a15, a16, a17, a18, a19, a20, a21, a22, a23, a24, a25, a26, a27, a28, a29) → Sf (k a1 a2 a3 a4 a5 a6 a7 a8 a9 a10 a11 a12 a13 a14 a15 a16 a17 a18 a19 a20 a21 a22 a23 a24 a25 a26 a27 a28 a29) P) : Sf (cb29 x k) P := by
  obtain ⟨⟨a1, a2, a3, a4, a5, a6, a7, a8, a9, a10, a11, a12, a13, a14, a15, a16, a17, a18, a19, a20, a21, a22, a23, a24, a25, a26, a27, a28, a29⟩, e, hy⟩ := h
  subst e
  exact hk a1 a2 a3 a4 a5 a6 a7 a8 a9 a10 a11 a12 a13 a14 a15 a16 a17 a18 a19 a20 a21 a22 a23 a24 a25 a26 a27 a28 a29 hy
theorem Sf_cb30 {T1 T2 T3 T4 T5 T6 T7 T8 T9 T10 T11 T12 T13 T14 T15 T16 T17 T18 T19 T20 T21 T22 T23 T24 T25 T26 T27 T28 T29 T30 : Type} {x : Option (T1 × T2 × T3 × T4 × T5 × T6 × T7 × T8 × T9 × T10 × T11 × T12 × T13 × T14 × T15 × T16 × T17 × T18 × T19 × T20 × T21 × T22 × T23 × T24 × T25 × T26 × T27 × T28 × T29 × T30)} {R : (T1 × T2 × T3 × T4 × T5 × T6 × T7 × T8 × T9 × T10 × T11 × T12 × T13 × T14 × T15 × T16 × T17 × T18 × T19 × T20 × T21 × T22 × T23 × T24 × T25 × T26 × T27 × T28 × T29 × T30) → Prop} {k : T1 → T2 → T3 → T4 → T5 → T6 → T7 → T8 → T9 → T10 → T11 → T12 → T13 → T14 → T15 → T16 → T17 → T18 → T19 → T20 → T21 → T22 → T23 → T24 → T25 → T26 → T27 → T28 → T29 → T30 → Option β} (h : Sf x R) (hk : ∀ a1 a2 a3 a4 a5 a6 a7 a8 a9 a10 a11 a12 a13 a14 a15 a16 a17 a18 a19 a20 a21 a22 a23 a24 a25 a26 a27 a28 a29 a30, R (a1, a2, a3, a4, a5, a6, a7, a8, a9, a10, a11, a12, a13, a14, a15, a16, a17, a18, a19, a20, a21, a22, a23, a24, a25, a26, a27, a28, a29, a30) → Sf (k a1 a2 a3 a4 a5 a6 a7 a8 a9 a10 a11 a12 a13 a14 a15 a16 a17 a18 a19 a20 a21 a22 a23 a24 a25 a26 a27 a28 a29 a30) P) : Sf (cb30 x k) P := by
  obtain ⟨⟨a1, a2, a3, a4, a5, a6, a7, a8, a9, a10, a11, a12, a13, a14, a15, a16, a17, a18, a19, a20, a21, a22, a23, a24, a25, a26, a27, a28, a29, a30⟩, e, hy⟩ := h
  subst e
  exact hk a1 a2 a3 a4 a5 a6 a7 a8 a9 a10 a11 a12 a13 a14 a15 a16 a17 a18 a19 a20 a21 a22 a23 a24 a25 a26 a27 a28 a29 a30 hy
theorem Sf_cb31 {T1 T2 T3 T4 T5 T6 T7 T8 T9 T10 T11 T12 T13 T14 T15 T16 T17 T18 T19 T20 T21 T22 T23 T24 T25 T26 T27 T28 T29 T30 T31 : Type} {x : Option (T1 × T2 × T3 × T4 × T5 × T6 × T7 × T8 × T9 × T10 × T11 × T12 × T13 × T14 × T15 × T16 × T17 × T18 × T19 × T20 × T21 × T22 × T23 × T24 × T25 × T26 × T27 × T28 × T29 × T30 × T31)} {R : (T1 × T2 × T3 × T4 × T5 × T6 × T7 × T8 × T9 × T10 × T11 × T12 × T13 × T14 × T15 × T16 × T17 × T18 × T19 × T20 × T21 × T22 × T23 × T24 × T25 × T26 × T27 × T28 × T29 × T30 × T31) → Prop} {k : T1 → T2 → T3 → T4 → T5 → T6 → T7 → T8 → T9 → T10 → T11 → T12 → T13 → T14 → T15 → T16 → T17 → T18 → T19 → T20 → T21 → T22 → T23 → T24 → T25 → T26 → T27 → T28 → T29 → T30 → T31 → Option β} (h : Sf x R) (hk : ∀ a1 a2 a3 a4 a5 a6 a7 a8 a9 a10 a11 a12 a13 a14 a15 a16 a17 a18 a19 a20 a21 a22 a23 a24 a25 a26 a27 a28 a29 a30 a31, R (a1, a2, a3, a4, a5, a6, a7, a8, a9, a10, a11, a12, a13, a14, a15, a16, a17, a18, a19, a20, a21, a22, a23, a24, a25, a26, a27, a28, a29, a30, a31) → Sf (k a1 a2 a3 a4 a5 a6 a7 a8 a9 a10 a11 a12 a13 a14 a15 a16 a17 a18 a19 a20 a21 a22 a23 a24 a25 a26 a27 a28 a29 a30 a31) P) : Sf (cb31 x k) P := by
  obtain ⟨⟨a1, a2, a3, a4, a5, a6, a7, a8, a9, a10, a11, a12, a13, a14, a15, a16, a17, a18, a19, a20, a21, a22, a23, a24, a25, a26, a27, a28, a29, a30, a31⟩, e, hy⟩ := h
  subst e
  exact hk a1 a2 a3 a4 a5 a6 a7 a8 a9 a10 a11 a12 a13 a14 a15 a16 a17 a18 a19 a20 a21 a22 a23 a24 a25 a26 a27 a28 a29 a30 a31 hy
theorem Sf_cb32 {T1 T2 T3 T4 T5 T6 T7 T8 T9 T10 T11 T12 T13 T14 T15 T16 T17 T18 T19 T20 T21 T22 T23 T24 T25 T26 T27 T28 T29 T30 T31 T32 : Type} {x : Option (T1 × T2 × T3 × T4 × T5 × T6 × T7 × T8 × T9 × T10 × T11 × T12 × T13 × T14 × T15 × T16 × T17 × T18 × T19 × T20 × T21 × T22 × T23 × T24 × T25 × T26 × T27 × T28 × T29 × T30 × T31 × T32)} {R : (T1 × T2 × T3 × T4 × T5 × T6 × T7 × T8 × T9 × T10 × T11 × T12 × T13 × T14 × T15 × T16 × T17 × T18 × T19 × T20 × T21 × T22 × T23 × T24 × T25 × T26 × T27 × T28 × T29 × T30 × T31 × T32) → Prop} {k : T1 → T2 → T3 → T4 → T5 → T6 → T7 → T8 → T9 → T10 → T11 → T12 → T13 → T14 → T15 → T16 → T17 → T18 → T19 → T20 → T21 → T22 → T23 → T24 → T25 → T26 → T27 → T28 → T29 → T30 → T31 → T32 → Option β} (h : Sf x R) (hk : ∀ a1 a2 a3 a4 a5 a6 a7 a8 a9 a10 a11 a12 a13 a14 a15 a16 a17 a18 a19 a20 a21 a22 a23 a24 a25 a26 a27 a28 a29 a30 a31 a32, R (a1, a2, a3, a4, a5, a6, a7, a8, a9, a10, a11, a12, a13, a14, a15, a16, a17, a18, a19, a20, a21, a22, a23, a24, a25, a26, a27, a28, a29, a30, a31, a32) → Sf (k a1 a2 a3 a4 a5 a6 a7 a8 a9 a10 a11 a12 a13 a14 a15 a16 a17 a18 a19 a20 a21 a22 a23 a24 a25 a26 a27 a28 a29 a30 a31 a32) P) : Sf (cb32 x k) P := by
  obtain ⟨⟨a1, a2, a3, a4, a5, a6, a7, a8, a9, a10, a11, a12, a13, a14, a15, a16, a17, a18, a19, a20, a21, a22, a23, a24, a25, a26, a27, a28, a29, a30, a31, a32⟩, e, hy⟩ := h
  subst e
  exact hk a1 a2 a3 a4 a5 a6 a7 a8 a9 a10 a11 a12 a13 a14 a15 a16 a17 a18 a19 a20 a21 a22 a23 a24 a25 a26 a27 a28 a29 a30 a31 a32 hy
theorem Sf_cb33 {T1 T2 T3 T4 T5 T6 T7 T8 T9 T10 T11 T12 T13 T14 T15 T16 T17 T18 T19 T20 T21 T22 T23 T24 T25 T26 T27 T28 T29 T30 T31 T32 T33 : Type} {x : Option (T1 × T2 × T3 × T4 × T5 × T6 × T7 × T8 × T9 × T10 × T11 × T12 × T13 × T14 × T15 × T16 × T17 × T18 × T19 × T20 × T21 × T22 × T23 × T24 × T25 × T26 × T27 × T28 × T29 × T30 × T31 × T32 × T33)} {R : (T1 × T2 × T3 × T4 × T5 × T6 × T7 × T8 × T9 × T10 × T11 × T12 × T13 × T14 × T15 × T16 × T17 × T18 × T19 × T20 × T21 × T22 × T23 × T24 × T25 × T26 × T27 × T28 × T29 × T30 × T31 × T32 × T33) → Prop} {k : T1 → T2 → T3 → T4 → T5 → T6 → T7 → T8 → T9 → T10 → T11 → T12 → T13 → T14 → T15 → T16 → T17 → T18 → T19 → T20 → T21 → T22 → T23 → T24 → T25 → T26 → T27 → T28 → T29 → T30 → T31 → T32 → T33 → Option β} (h : Sf x R) (hk : ∀ a1 a2 a3 a4 a5 a6 a7 a8 a9 a10 a11 a12 a13 a14 a15 a16 a17 a18 a19 a20 a21 a22 a23 a24 a25 a26 a27 a28 a29 a30 a31 a32 a33, R (a1, a2, a3, a4, a5, a6, a7, a8, a9, a10, a11, a12, a13, a14, a15, a16, a17, a18, a19, a20, a21, a22, a23, a24, a25, a26, a27, a28, a29, a30, a31, a32, a33) → Sf (k a1 a2 a3 a4 a5 a6 a7 a8 a9 a10 a11 a12 a13 a14 a15 a16 a17 a18 a19 a20 a21 a22 a23 a24 a25 a26 a27 a28 a29 a30 a31 a32 a33) P) : Sf (cb33 x k) P := by
  obtain ⟨⟨a1, a2, a3, a4, a5, a6, a7, a8, a9, a10, a11, a12, a13, a14, a15, a16, a17, a18, a19, a20, a21, a22, a23, a24, a25, a26, a27, a28, a29, a30, a31, a32, a33⟩, e, hy⟩ := h
  subst e
  exact hk a1 a2 a3 a4 a5 a6 a7 a8 a9 a10 a11 a12 a13 a14 a15 a16 a17 a18 a19 a20 a21 a22 a23 a24 a25 a26 a27 a28 a29 a30 a31 a32 a33 hy
theorem Sf_cb34 {T1 T2 T3 T4 T5 T6 T7 T8 T9 T10 T11 T12 T13 T14 T15 T16 T17 T18 T19 T20 T21 T22 T23 T24 T25 T26 T27 T28 T29 T30 T31 T32 T33 T34 : Type} {x : Option (T1 × T2 × T3 × T4 × T5 × T6 × T7 × T8 × T9 × T10 × T11 × T12 × T13 × T14 × T15 × T16 × T17 × T18 × T19 × T20 × T21 × T22 × T23 × T24 × T25 × T26 × T27 × T28 × T29 × T30 × T31 × T32 × T33 × T34)} {R : (T1 × T2 × T3 × T4 × T5 × T6 × T7 × T8 × T9 × T10 × T11 × T12 × T13 × T14 × T15 × T16 × T17 × T18 × T19 × T20 × T21 × T22 × T23 × T24 × T25 × T26 × T27 × T28 × T29 × T30 × T31 × T32 × T33 × T34) → Prop} {k : T1 → T2 → T3 → T4 → T5 → T6 → T7 → T8 → T9 → T10 → T11 → T12 → T13 → T14 → T15 → T16 → T17 → T18 → T19 → T20 → T21 → T22 → T23 → T24 → T25 → T26 → T27 → T28 → T29 → T30 → T31 → T32 → T33 → T34 → Option β} (h : Sf x R) (hk : ∀ a1 a2 a3 a4 a5 a6 a7 a8 a9 a10 a11 a12 a13 a14 a15 a16 a17 a18 a19 a20 a21 a22 a23 a24 a25 a26 a27 a28 a29 a30 a31 a32 a33 a34, R (a1, a2, a3, a4, a5, a6, a7, a8, a9, a10, a11, a12, a13, a14, a15, a16, a17, a18, a19, a20, a21, a22, a23, a24, a25, a26, a27, a28, a29, a30, a31, a32, a33, a34) → Sf (k a1 a2 a3 a4 a5 a6 a7 a8 a9 a10 a11 a12 a13 a14 a15 a16 a17 a18 a19 a20 a21 a22 a23 a24 a25 a26 a27 a28 a29 a30 a31 a32 a33 a34) P) : Sf (cb34 x k) P := by
  obtain ⟨⟨a1, a2, a3, a4, a5, a6, a7, a8, a9, a10, a11, a12, a13, a14, a15, a16, a17, a18, a19, a20, a21, a22, a23, a24, a25, a26, a27, a28, a29, a30, a31, a32, a33, a34⟩, e, hy⟩ := h
  subst e
  exact hk a1 a2 a3 a4 a5 a6 a7 a8 a9 a10 a11 a12 a13 a14 a15 a16 a17 a18 a19 a20 a21 a22 a23 a24 a25 a26 a27 a28 a29 a30 a31 a32 a33 a34 hy
theorem Sf_cb35 {T1 T2 T3 T4 T5 T6 T7 T8 T9 T10 T11 T12 T13 T14 T15 T16 T17 T18 T19 T20 T21 T22 T23 T24 T25 T26 T27 T28 T29 T30 T31 T32 T33 T34 T35 : Type} {x : Option (T1 × T2 × T3 × T4 × T5 × T6 × T7 × T8 × T9 × T10 × T11 × T12 × T13 × T14 × T15 × T16 × T17 × T18 × T19 × T20 × T21 × T22 × T23 × T24 × T25 × T26 × T27 × T28 × T29 × T30 × T31 × T32 × T33 × T34 × T35)} {R : (T1 × T2 × T3 × T4 × T5 × T6 × T7 × T8 × T9 × T10 × T11 × T12 × T13 × T14 × T15 × T16 × T17 × T18 × T19 × T20 × T21 × T22 × T23 × T24 × T25 × T26 × T27 × T28 × T29 × T30 × T31 × T32 × T33 × T34 × T35) → Prop} {k : T1 → T2 → T3 → T4 → T5 → T6 → T7 → T8 → T9 → T10 → T11 → T12 → T13 → T14 → T15 → T16 → T17 → T18 → T19 → T20 → T21 → T22 → T23 → T24 → T25 → T26 → T27 → T28 → T29 → T30 → T31 → T32 → T33 → T34 → T35 → Option β} (h : Sf x R) (hk : ∀ a1 a2 a3 a4 a5 a6 a7 a8 a9 a10 a11 a12 a13 a14 a15 a16 a17 a18 a19 a20 a21 a22 a23 a24 a25 a26 a27 a28 a29 a30 a31 a32 a33 a34 a35, R (a1, a2, a3, a4, a5, a6, a7, a8, a9, a10, a11, a12, a13, a14, a15, a16, a17, a18, a19, a20, a21, a22, a23, a24, a25, a26, a27, a28, a29, a30, a31, a32, a33, a34, a35) → Sf (k a1 a2 a3 a4 a5 a6 a7 a8 a9 a10 a11 a12 a13 a14 a15 a16 a17 a18 a19 a20 a21 a22 a23 a24 a25 a26 a27 a28 a29 a30 a31 a32 a33 a34 a35) P) : Sf (cb35 x k) P := by
  obtain ⟨⟨a1, a2, a3, a4, a5, a6, a7, a8, a9, a10, a11, a12, a13, a14, a15, a16, a17, a18, a19, a20, a21, a22, a23, a24, a25, a26, a27, a28, a29, a30, a31, a32, a33, a34, a35⟩, e, hy⟩ := h
  subst e
  exact hk a1 a2 a3 a4 a5 a6 a7 a8 a9 a10 a11 a12 a13 a14 a15 a16 a17 a18 a19 a20 a21 a22 a23 a24 a25 a26 a27 a28 a29 a30 a31 a32 a33 a34 a35 hy
end SF
theorem rgI (x : Int32) : -2147483648 ≤ x.toInt ∧ x.toInt ≤ 2147483647 := by
  have h1 := Int32.le_toInt x
  have h2 := Int32.toInt_lt x
  omega
theorem bm (z : Int) : ∃ k : Int, z.bmod 4294967296 = z + 4294967296 * k := by
  refine ⟨-((z + 2147483648) / 4294967296), ?_⟩
  rw [Int.bmod_def]
  split <;> omega
theorem ad_ (x y : Int32) : ∃ k : Int, (x + y).toInt = x.toInt + y.toInt + 4294967296 * k := by
  rw [Int32.toInt_add]; exact bm _
theorem sb_ (x y : Int32) : ∃ k : Int, (x - y).toInt = x.toInt - y.toInt + 4294967296 * k := by
  rw [Int32.toInt_sub]; exact bm _
theorem ml_ (x y : Int32) : ∃ k : Int, (x * y).toInt = x.toInt * y.toInt + 4294967296 * k := by
  rw [Int32.toInt_mul]; exact bm _
theorem ng_ (x : Int32) : ∃ k : Int, (-x).toInt = -x.toInt + 4294967296 * k := by
  rw [Int32.toInt_neg]; exact bm _
theorem adX (x y : Int32) (h1 : -2147483648 ≤ x.toInt + y.toInt) (h2 : x.toInt + y.toInt ≤ 2147483647) : (x + y).toInt = x.toInt + y.toInt := by
  rw [Int32.toInt_add]; exact Int.bmod_eq_of_le (by omega) (by omega)
theorem adN (x y : Int32) (c : Int) (hy : y.toInt = c) (h1 : -2147483648 ≤ x.toInt + c) (h2 : x.toInt + c ≤ 2147483647) : (x + y).toInt = x.toInt + c := by
  rw [Int32.toInt_add, hy]; exact Int.bmod_eq_of_le (by omega) (by omega)
theorem sbN (x y : Int32) (c : Int) (hy : y.toInt = c) (h1 : -2147483648 ≤ x.toInt - c) (h2 : x.toInt - c ≤ 2147483647) : (x - y).toInt = x.toInt - c := by
  rw [Int32.toInt_sub, hy]; exact Int.bmod_eq_of_le (by omega) (by omega)
theorem ml4 (x : Int32) : ∃ k : Int, (4 * x).toInt = 4 * k := by
  have h4 : (4 : Int32).toInt = 4 := by decide
  obtain ⟨k, hk⟩ := bm (4 * x.toInt)
  refine ⟨x.toInt + 1073741824 * k, ?_⟩
  rw [Int32.toInt_mul, h4]
  have e : (4 * x.toInt).bmod 4294967296 = 4 * x.toInt + 4294967296 * k := hk
  exact e.trans (by omega)
theorem sbX (x y : Int32) (h1 : -2147483648 ≤ x.toInt - y.toInt) (h2 : x.toInt - y.toInt ≤ 2147483647) : (x - y).toInt = x.toInt - y.toInt := by
  rw [Int32.toInt_sub]; exact Int.bmod_eq_of_le (by omega) (by omega)
theorem mlX (x y : Int32) (c : Int) (hy : y.toInt = c) (h1 : -2147483648 ≤ x.toInt * c) (h2 : x.toInt * c ≤ 2147483647) : (x * y).toInt = x.toInt * c := by
  rw [Int32.toInt_mul, hy]; exact Int.bmod_eq_of_le (by omega) (by omega)
theorem mlY (x y : Int32) (c : Int) (hx : x.toInt = c) (h1 : -2147483648 ≤ c * y.toInt) (h2 : c * y.toInt ≤ 2147483647) : (x * y).toInt = c * y.toInt := by
  rw [Int32.toInt_mul, hx]; exact Int.bmod_eq_of_le (by omega) (by omega)
theorem ngX (x : Int32) (h : -2147483648 < x.toInt) : (-x).toInt = -x.toInt := by
  have := rgI x
  rw [Int32.toInt_neg]; exact Int.bmod_eq_of_le (by omega) (by omega)
/-- division and rest by a positive literal -/
theorem dv_ (x y : Int32) (c : Int) (hc : 0 < c) (hy : y.toInt = c) : (x / y).toInt = x.toInt.tdiv c := by
  have hx := rgI x
  rw [Int32.toInt_div, hy]
  have h1 : x.toInt.tdiv c ≤ x.toInt.natAbs := by
    have := Int.natAbs_tdiv_le_natAbs x.toInt c
    omega
  have h2 : -(x.toInt.natAbs : Int) ≤ x.toInt.tdiv c := by
    have := Int.natAbs_tdiv_le_natAbs x.toInt c
    omega
  by_cases h3 : x.toInt = -2147483648
  · by_cases h4 : c = 1
    · subst h4; rw [Int.tdiv_one, h3]; decide
    · have h5 : x.toInt.tdiv c ≤ 0 := by
        rw [h3]
        have : (-2147483648 : Int).tdiv c = -((2147483648 : Int).tdiv c) := Int.neg_tdiv _ _
        rw [this]
        have := Int.tdiv_nonneg (a := 2147483648) (b := c) (by omega) (by omega)
        omega
      exact Int.bmod_eq_of_le (by omega) (by omega)
  · exact Int.bmod_eq_of_le (by omega) (by omega)
theorem dn_ (x y : Int32) (c : Int) (hc : 0 < c) (hy : y.toInt = c) (h0 : 0 ≤ x.toInt) : c * (x / y).toInt ≤ x.toInt ∧ x.toInt < c * (x / y).toInt + c ∧ 0 ≤ (x / y).toInt := by
  rw [dv_ x y c hc hy, Int.tdiv_eq_ediv_of_nonneg h0]
  refine ⟨Int.mul_ediv_self_le (by omega), ?_, Int.ediv_nonneg h0 (by omega)⟩
  have := Int.lt_mul_ediv_self_add (x := x.toInt) hc
  omega
theorem ub (z c : Int) (hc : 0 < c) : -c < z - z.tdiv c * c ∧ z - z.tdiv c * c < c ∧ (0 ≤ z → 0 ≤ z - z.tdiv c * c) ∧ (z ≤ 0 → z - z.tdiv c * c ≤ 0) := by
  have e : z - z.tdiv c * c = z.tmod c := by
    have := Int.tmod_add_mul_tdiv z c
    rw [Int.mul_comm] at this
    omega
  rw [e]
  have h1 := Int.tmod_lt_of_pos z hc
  have h2 := Int.lt_tmod_of_pos z hc
  refine ⟨h2, h1, fun h => Int.tmod_nonneg c h, fun h => ?_⟩
  have := Int.tmod_nonneg c (a := -z) (by omega)
  rw [Int.neg_tmod] at this
  omega
/-- the rest by a positive number -/
theorem rm_ (x y : Int32) (hy : 0 < y.toInt) : -y.toInt < (jrem x y).toInt ∧ (jrem x y).toInt < y.toInt ∧ (0 ≤ x.toInt → 0 ≤ (jrem x y).toInt) ∧ (x.toInt ≤ 0 → (jrem x y).toInt ≤ 0) := by
  have hd := dv_ x y y.toInt hy rfl
  have h1 := ub x.toInt y.toInt hy
  have hr := rgI y
  unfold jrem
  have e : (x - x / y * y).toInt = x.toInt - x.toInt.tdiv y.toInt * y.toInt := by
    rw [Int32.toInt_sub, Int32.toInt_mul, hd, Int.sub_bmod_bmod]
    exact Int.bmod_eq_of_le (by omega) (by omega)
  rw [e]
  exact h1
theorem an_ (x y : Int32) (h : 0 ≤ y.toInt) : 0 ≤ (x &&& y).toInt ∧ (x &&& y).toInt ≤ y.toInt := by
  obtain ⟨b, hb⟩ : ∃ b : BitVec 32, b = x.toBitVec := ⟨_, rfl⟩
  obtain ⟨d, hd⟩ : ∃ d : BitVec 32, d = y.toBitVec := ⟨_, rfl⟩
  have e1 : (x &&& y).toInt = (b &&& d).toInt := by rw [hb, hd]; rfl
  have e2 : y.toInt = d.toInt := by rw [hd]; rfl
  rw [e2] at h
  rw [e1, e2]
  have hm : d.msb = false := by
    rw [BitVec.msb_eq_toInt]
    simp
    omega
  have hm2 : (b &&& d).msb = false := by rw [BitVec.msb_and, hm, Bool.and_false]
  rw [BitVec.toInt_eq_toNat_of_msb hm, BitVec.toInt_eq_toNat_of_msb hm2, BitVec.toNat_and]
  have := Nat.and_le_right (n := b.toNat) (m := d.toNat)
  omega
theorem ofN (n : Nat) (h : n < 2147483648) : (Int32.ofNat n).toInt = n := Int32.toInt_ofNat_of_lt (by omega)
theorem tN (x : Int32) (h : 0 ≤ x.toInt) : ((Int32.toNatClampNeg x : Nat) : Int) = x.toInt := by
  have : x.toNatClampNeg = x.toInt.toNat := rfl
  omega
theorem ltI {x y : Int32} (h : x < y) : x.toInt < y.toInt := Int32.lt_iff_toInt_lt.mp h
theorem leI {x y : Int32} (h : x ≤ y) : x.toInt ≤ y.toInt := Int32.le_iff_toInt_le.mp h
theorem nltI {x y : Int32} (h : ¬ x < y) : y.toInt ≤ x.toInt := by rw [Int32.lt_iff_toInt_lt] at h; omega
theorem nleI {x y : Int32} (h : ¬ x ≤ y) : y.toInt < x.toInt := by rw [Int32.le_iff_toInt_le] at h; omega
theorem eqI {x y : Int32} (h : x = y) : x.toInt = y.toInt := by rw [h]
theorem neI {x y : Int32} (h : ¬ x = y) : ¬ x.toInt = y.toInt := fun e => h (Int32.toInt_inj.mp e)
theorem lg_lt (x y : Int64) : (lg_cmp x y < 0) = (x.toInt < y.toInt) := by
  unfold lg_cmp
  simp only [gt_iff_lt, Int64.lt_iff_toInt_lt, ← Int64.toInt_inj]
  by_cases h1 : y.toInt < x.toInt
  · rw [if_pos h1]; simp only [eq_iff_iff]; constructor
    · intro h; exact absurd h (by decide)
    · intro h; omega
  · rw [if_neg h1]
    by_cases h2 : x.toInt = y.toInt
    · rw [if_pos h2]; simp only [eq_iff_iff]; constructor
      · intro h; exact absurd h (by decide)
      · intro h; omega
    · rw [if_neg h2]; simp only [eq_iff_iff]; constructor
      · intro h; omega
      · intro h; decide
theorem lg_gt (x y : Int64) : (0 < lg_cmp x y) = (y.toInt < x.toInt) := by
  unfold lg_cmp
  simp only [gt_iff_lt, Int64.lt_iff_toInt_lt, ← Int64.toInt_inj]
  by_cases h1 : y.toInt < x.toInt
  · rw [if_pos h1]; simp only [eq_iff_iff]; constructor
    · intro h; exact h1
    · intro h; decide
  · rw [if_neg h1]
    by_cases h2 : x.toInt = y.toInt
    · rw [if_pos h2]; simp only [eq_iff_iff]; constructor
      · intro h; exact absurd h (by decide)
      · intro h; omega
    · rw [if_neg h2]; simp only [eq_iff_iff]; constructor
      · intro h; exact absurd h (by decide)
      · intro h; omega
theorem xo_ (x y : Int32) (h : 0 ≤ y.toInt) : (0 ≤ (x ^^^ y).toInt ↔ 0 ≤ x.toInt) := by
  obtain ⟨b, hb⟩ : ∃ b : BitVec 32, b = x.toBitVec := ⟨_, rfl⟩
  obtain ⟨d, hd⟩ : ∃ d : BitVec 32, d = y.toBitVec := ⟨_, rfl⟩
  have e1 : (x ^^^ y).toInt = (b ^^^ d).toInt := by rw [hb, hd]; rfl
  have e2 : y.toInt = d.toInt := by rw [hd]; rfl
  have e3 : x.toInt = b.toInt := by rw [hb]; rfl
  rw [e2] at h
  rw [e1, e3]
  have hm : d.msb = false := by
    rw [BitVec.msb_eq_toInt]
    simp
    omega
  have h1 : (b ^^^ d).msb = b.msb := by rw [BitVec.msb_xor, hm, Bool.xor_false]
  have h2 := BitVec.msb_eq_toInt (x := b ^^^ d)
  have h3 := BitVec.msb_eq_toInt (x := b)
  rw [h1, h3] at h2
  have h4 : (b.toInt < 0) ↔ ((b ^^^ d).toInt < 0) := by simpa using h2
  omega
theorem dl_ (p : Int32) (h : 1 ≤ p.toInt) : ¬ (2 * Int32.toInt64 p).toInt = 0 := by
  have hr := rgI p
  have e2 : (2 : Int64).toInt = 2 := by decide
  rw [Int64.toInt_mul, Int32.toInt_toInt64, e2, Int.bmod_eq_of_le (by omega) (by omega)]
  omega
theorem jmaxL1 (x : Int64) : 1 ≤ (jmaxL 1 x).toInt := by
  unfold jmaxL
  by_cases h : x < 1
  · rw [if_pos h]; decide
  · rw [if_neg h]
    rw [Int64.lt_iff_toInt_lt] at h
    have : (1 : Int64).toInt = 1 := by decide
    omega
theorem lgz {x : Int64} (e : x.toInt = 0) : lg_cmp x 0 = 0 := by
  have : x = 0 := Int64.toInt_inj.mp (e.trans (by decide))
  subst this
  decide
/-- a text that is held; the pool -/
def tOK (v : kTv) : Prop := 1 ≤ v.1.toInt ∧ v.1.toInt ≤ 12 ∧ v.2.1.1 ≤ 120 ∧ (v.2.2.1.1 : Int) = v.1.toInt + 1 ∧ (v.2.2.2.1 : Int) = v.1.toInt ∧ (∀ j, 0 ≤ (v.2.2.1.2 j).toInt ∧ (v.2.2.1.2 j).toInt ≤ 120) ∧ (∀ j, 0 ≤ (v.2.2.2.2 j).toInt ∧ (v.2.2.2.2 j).toInt ≤ 120)
def gOK (G : kG) : Prop := (∀ (k : Nat) (t : kTx), G.2 k = some t → tOK t.2) ∧ ∀ (i : Nat) (s : kSr), G.1 i = some s → 0 ≤ s.2.2.2.2.1.toInt ∧ s.2.2.2.2.1.toInt ≤ 30
theorem s_X6_written (s_used : Int32) (s_code s_middles s_starts : Nat → Int32) (p1 : Int32) (h1 : 0 ≤ s_used.toInt) (h2 : s_used.toInt ≤ 120) (h3 : 1 ≤ p1.toInt) (h4 : p1.toInt ≤ 12) (h5 : ∀ j, 0 ≤ (s_middles j).toInt ∧ (s_middles j).toInt ≤ 120) (h6 : ∀ j, 0 ≤ (s_starts j).toInt ∧ (s_starts j).toInt ≤ 120) : Sf (f_X6_written s_used s_code s_middles s_starts p1) (fun y => ∀ v, y = some v → tOK v) := by
  unfold f_X6_written
  rw [if_pos ⟨h1, h2, h3, h4⟩]
  refine Sf_some (fun v hv => ?_)
  cases hv
  have g := rgI p1
  obtain ⟨k, e⟩ := ad_ p1 1
  have g2 := rgI (p1 + 1)
  have l1 : (1 : Int32).toInt = 1 := by decide
  have t1 := tN s_used h1
  have t2 := tN p1 (by omega)
  have t3 := tN (p1 + 1) (by omega)
  refine ⟨h3, h4, ?_, ?_, ?_, h6, h5⟩
  · show s_used.toNatClampNeg ≤ 120
    omega
  · show (((p1 + 1).toNatClampNeg : Nat) : Int) = p1.toInt + 1
    omega
  · show ((p1.toNatClampNeg : Nat) : Int) = p1.toInt
    omega
theorem jmin_ (x y : Int32) : ((jmin x y).toInt = x.toInt ∨ (jmin x y).toInt = y.toInt) ∧ (jmin x y).toInt ≤ x.toInt ∧ (jmin x y).toInt ≤ y.toInt := by
  unfold jmin
  by_cases h : y < x
  · rw [if_pos h]; have := ltI h; omega
  · rw [if_neg h]; have := nltI h; omega
theorem jmax_ (x y : Int32) : ((jmax x y).toInt = x.toInt ∨ (jmax x y).toInt = y.toInt) ∧ x.toInt ≤ (jmax x y).toInt ∧ y.toInt ≤ (jmax x y).toInt := by
  unfold jmax
  by_cases h : x < y
  · rw [if_pos h]; have := ltI h; omega
  · rw [if_neg h]; have := nltI h; omega
theorem t64 (x : Int32) : (Int32.toInt64 x).toInt = x.toInt := Int32.toInt_toInt64 x
