/-! the reference's parser: depth of the code that it makes -/
def bin (x : Int32) : Bool := x == 42 || x == 47 || x == 37 || x == 43 || x == 45 || x == 60 || x == 62 || x == 61 || x == 38 || x == 124
def nb (s : Nat → Int32) : Nat → Nat
  | 0 => 0
  | n + 1 => nb s n + (if bin (s n) = true then 1 else 0)
def stp (x : Int32) (d : Nat) : Option Nat := if 2 < x.toInt then (if 2 ≤ d then some (d - 1) else none) else if x.toInt = 2 then (if 1 ≤ d then some d else none) else some (d + 1)
def dep (c : Nat → Int32) (a : Nat) : Nat → Option Nat
  | 0 => some 0
  | n + 1 => (dep c a n).bind (stp (c (a + n)))
theorem nb_congr {s s' : Nat → Int32} : ∀ {n : Nat}, (∀ i, i < n → s i = s' i) → nb s n = nb s' n := by
  intro n
  induction n with
  | zero => intro _; rfl
  | succ n ih =>
    intro h
    show nb s n + _ = nb s' n + _
    rw [ih (fun i hi => h i (by omega)), h n (by omega)]
theorem dep_congr {c c' : Nat → Int32} {a : Nat} : ∀ {n : Nat}, (∀ i, i < n → c (a + i) = c' (a + i)) → dep c a n = dep c' a n := by
  intro n
  induction n with
  | zero => intro _; rfl
  | succ n ih =>
    intro h
    show (dep c a n).bind _ = (dep c' a n).bind _
    rw [ih (fun i hi => h i (by omega)), h n (by omega)]
theorem dep_upd {c : Nat → Int32} {a k : Nat} {x : Int32} (h : a ≤ k) : dep (upd c k x) a (k + 1 - a) = (dep c a (k - a)).bind (stp x) := by
  obtain ⟨n, rfl⟩ : ∃ n, k = a + n := ⟨k - a, by omega⟩
  rw [show a + n + 1 - a = n + 1 by omega, show a + n - a = n by omega]
  show (dep (upd c (a + n) x) a n).bind (stp (upd c (a + n) x (a + n))) = _
  rw [dep_congr (c' := c) (fun i hi => by unfold upd; rw [if_neg (by omega)])]
  unfold upd
  rw [if_pos rfl]
theorem dep_le {c : Nat → Int32} {a : Nat} : ∀ {n d : Nat}, dep c a n = some d → d ≤ n := by
  intro n
  induction n with
  | zero => intro d h; cases h; exact Nat.le_refl 0
  | succ n ih =>
    intro d h
    have h : (dep c a n).bind (stp (c (a + n))) = some d := h
    cases hd : dep c a n with
    | none => rw [hd] at h; exact nomatch h
    | some e =>
      rw [hd] at h
      have h1 := ih hd
      have h : stp (c (a + n)) e = some d := h
      unfold stp at h
      by_cases c1 : 2 < (c (a + n)).toInt
      · rw [if_pos c1] at h
        by_cases c2 : 2 ≤ e
        · rw [if_pos c2] at h; cases h; omega
        · rw [if_neg c2] at h; exact nomatch h
      · rw [if_neg c1] at h
        by_cases c3 : (c (a + n)).toInt = 2
        · rw [if_pos c3] at h
          by_cases c4 : 1 ≤ e
          · rw [if_pos c4] at h; cases h; omega
          · rw [if_neg c4] at h; exact nomatch h
        · rw [if_neg c3] at h; cases h; omega
/-- from b on the code is k - b long; m signs on the stack; its depth is that of the signs that wait, and one more behind an operand -/
def DP (b : Nat) (N : Nat → Int32) (k m : Nat) (nc st : Nat → Int32) (dl : Nat) : Prop := b ≤ k ∧ dep nc b (k - b) = some (nb st m + dl) ∧ ∀ i : Nat, i < b → nc i = N i
section DPs
variable {b k m dl : Nat} {N nc st : Nat → Int32} {x : Int32}
theorem NE_upd {k b : Nat} (h : ∀ i : Nat, i < b → nc i = N i) (hk : b ≤ k) : ∀ i : Nat, i < b → upd nc k x i = N i := fun i hi => by
  unfold upd
  rw [if_neg (by omega)]
  exact h i hi
theorem DP_bin (h : DP b N k (m + 1) nc st 1) (hb : bin (st m) = true) (hx : 2 < (st m).toInt) : DP b N (k + 1) m (upd nc k (st m)) st 1 := by
  refine ⟨by have := h.1; omega, ?_, NE_upd h.2.2 h.1⟩
  rw [dep_upd h.1, h.2.1]
  show stp (st m) (nb st m + (if bin (st m) = true then 1 else 0) + 1) = _
  rw [if_pos hb]
  unfold stp
  rw [if_pos hx, if_pos (by omega)]
  congr 1
theorem DP_not (h : DP b N k m nc st 1) : DP b N (k + 1) m (upd nc k 2) st 1 := by
  refine ⟨by have := h.1; omega, ?_, NE_upd h.2.2 h.1⟩
  rw [dep_upd h.1, h.2.1]
  show stp 2 (nb st m + 1) = _
  unfold stp
  rw [if_neg (by decide), if_pos (by decide), if_pos (by omega)]
theorem DP_arg (h : DP b N k m nc st 0) (hx : x.toInt < 2) : DP b N (k + 1) m (upd nc k x) st 1 := by
  refine ⟨by have := h.1; omega, ?_, NE_upd h.2.2 h.1⟩
  rw [dep_upd h.1, h.2.1]
  show stp x (nb st m + 0) = _
  unfold stp
  rw [if_neg (by omega), if_neg (by omega)]
theorem DP_st {st' : Nat → Int32} (h : DP b N k m nc st dl) (he : ∀ i, i < m → st' i = st i) : DP b N k m nc st' dl := by
  refine ⟨h.1, ?_, h.2.2⟩
  rw [h.2.1, nb_congr he]
theorem DP_push (h : DP b N k m nc st 1) (hc : bin x = true) : DP b N k (m + 1) nc (upd st m x) 0 := by
  refine ⟨h.1, ?_, h.2.2⟩
  rw [h.2.1]
  show some (nb st m + 1) = some (nb (upd st m x) m + (if bin (upd st m x m) = true then 1 else 0) + 0)
  have e : upd st m x m = x := if_pos rfl
  rw [e, if_pos hc, nb_congr (s := upd st m x) (s' := st) (fun i hi => by unfold upd; rw [if_neg (by omega)])]
theorem DP_pushn (h : DP b N k m nc st dl) (hc : bin x = false) : DP b N k (m + 1) nc (upd st m x) dl := by
  refine ⟨h.1, ?_, h.2.2⟩
  rw [h.2.1]
  show some (nb st m + dl) = some (nb (upd st m x) m + (if bin (upd st m x m) = true then 1 else 0) + dl)
  have e : upd st m x m = x := if_pos rfl
  rw [e, hc, nb_congr (s := upd st m x) (s' := st) (fun i hi => by unfold upd; rw [if_neg (by omega)])]
  rfl
theorem DP_popn (h : DP b N k (m + 1) nc st dl) (hc : bin (st m) = false) : DP b N k m nc st dl := by
  refine ⟨h.1, ?_, h.2.2⟩
  rw [h.2.1]
  show some (nb st m + (if bin (st m) = true then 1 else 0) + dl) = _
  rw [hc]
  rfl
theorem DP_new (k : Nat) (nc st : Nat → Int32) : DP k nc k 0 nc st 0 := by
  refine ⟨Nat.le_refl k, ?_, fun _ _ => rfl⟩
  rw [Nat.sub_self]
  rfl
end DPs
/-- signs of an E, and a square bracket; signs of a C's level -/
def isV (x : Int32) : Prop := x = 42 ∨ x = 47 ∨ x = 37 ∨ x = 43 ∨ x = 45 ∨ x = 91
def isC (x : Int32) : Prop := x = 40 ∨ x = 33 ∨ x = 38 ∨ x = 124
def hr (p e : Int32) (t : Nat → Int32) : Int32 := if e ≤ p then 0 else t p.toNatClampNeg &&& 255
def tp (m : Int32) (st : Nat → Int32) : Int32 := if m ≤ 0 then 0 else st (m - 1).toNatClampNeg
/-- the parser's numbers -/
def PN (p e k m : Int32) : Prop := 0 ≤ k.toInt ∧ 0 ≤ m.toInt ∧ k.toInt + m.toInt ≤ p.toInt ∧ p.toInt ≤ e.toInt ∧ e.toInt ≤ 120
