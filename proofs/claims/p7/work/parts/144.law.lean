/-! the law's world: 77 cells by their numbers, and the pool -/
def cB (E : kE) (ad : Nat → Nat) (G : kG) (bv : Value) (j : Nat) (f : Nat → Int32) : va_E := match j with
  | 0 => .inr (11, [.ref (ad 1), .ref (ad 3), .ref (ad 8), .ref (ad 13), .ref (ad 21), .ref (ad 22), .ref (ad 27), .ref (ad 30), .ref (ad 38)])
  | 1 => .inr (9, [.ref (ad 2), .int (f 1)])
  | 2 => .inl (E.2 0, 200, .inl f)
  | 3 => .inr (6, [.ref (ad 4), .ref (ad 5), .ref (ad 6), bv, .int (f 4), .int (f 5), .int (f 6), .int (f 7)])
  | 4 => .inl (E.2 0, 120, .inl f)
  | 5 => .inl (E.2 0, 13, .inl f)
  | 6 => .inl (E.2 0, 12, .inl f)
  | 7 => .inl (E.2 0, 0, .inl f)
  | 8 => .inr (7, [.ref (ad 9), .ref (ad 10), .int (f 2), .int (f 3)])
  | 9 => .inl (E.2 3, 10, .inr (.inr (.inr (.inr (kgA G)))))
  | 10 => .inr (5, [.ref (ad 11), .ref (ad 12)])
  | 11 => .inl (E.2 0, 128, .inl f)
  | 12 => .inl (E.2 0, 32, .inl f)
  | 13 => .inr (4, [.ref (ad 14), .ref (ad 15), .ref (ad 16), .ref (ad 17), .ref (ad 18), .int (f 5), .int (f 6)])
  | 14 => .inl (E.2 0, 1440, .inl f)
  | 15 => .inl (E.2 0, 1440, .inl f)
  | 16 => .inl (E.2 0, 1440, .inl f)
  | 17 => .inl (E.2 0, 1440, .inl f)
  | 18 => .inr (5, [.ref (ad 19), .ref (ad 20)])
  | 19 => .inl (E.2 0, 128, .inl f)
  | 20 => .inl (E.2 0, 32, .inl f)
  | 21 => .inl (E.2 4, 4, .inr (.inr (.inr (.inr (kgW G)))))
  | 22 => .inr (3, [.ref (ad 23), .ref (ad 24), .ref (ad 25), .ref (ad 26), .int (f 4)])
  | 23 => .inl (E.2 0, 40, .inl f)
  | 24 => .inl (E.2 0, 40, .inl f)
  | 25 => .inl (E.2 0, 40, .inl f)
  | 26 => .inl (E.2 0, 40, .inl f)
  | 27 => .inr (0, [.ref (ad 28), .ref (ad 29), .int (f 2), .int (f 3), .int (f 4), .int (f 5)])
  | 28 => .inl (E.2 0, 40, .inl f)
  | 29 => .inl (E.2 0, 40, .inl f)
  | 30 => .inr (2, [.ref (ad 31), .ref (ad 32), .ref (ad 33), .ref (ad 34), .ref (ad 37), .int (f 5)])
  | 31 => .inl (E.2 0, 30, .inl f)
  | 32 => .inl (E.2 0, 30, .inl f)
  | 33 => .inl (E.2 0, 6, .inl f)
  | 34 => .inr (5, [.ref (ad 35), .ref (ad 36)])
  | 35 => .inl (E.2 0, 128, .inl f)
  | 36 => .inl (E.2 0, 32, .inl f)
  | 37 => .inl (E.2 4, 6, .inr (.inr (.inr (.inr (kgT G)))))
  | 38 => .inr (1, [.ref (ad 39), .ref (ad 40), .ref (ad 41), .int (f 3)])
  | 39 => .inl (E.2 0, 40, .inl f)
  | 40 => .inl (E.2 0, 6, .inl f)
  | 41 => .inl (E.2 0, 287, .inl f)
  | 42 => .inr (12, [.ref (ad 43), .int (f 1), .int (f 2), .int (f 3), .int (f 4), .int (f 5), .int (f 6), .ref (ad 44), .ref (ad 45), .ref (ad 46), .ref (ad 47), .ref (ad 48), .ref (ad 49), .ref (ad 50), .ref (ad 51), .ref (ad 52), .ref (ad 53), .ref (ad 54), .int (f 18), .int (f 19), .int (f 20), .int (f 21), .int (f 22), .int (f 23), .int (f 24), .int (f 25), .int (f 26), .ref (ad 55), .int (f 28), .int (f 29), .int (f 30), .int (f 31), .int (f 32), .int (f 33), .int (f 34), .int (f 35), .int (f 36), .int (f 37), .int (f 38), .int (f 39), .int (f 40), .ref (ad 56), .ref (ad 57), .ref (ad 58), .ref (ad 59), .ref (ad 60), .ref (ad 61), .ref (ad 62), .int (f 48), .int (f 49), .ref (ad 63), .ref (ad 64), .ref (ad 65), .ref (ad 66), .ref (ad 67), .ref (ad 68), .ref (ad 69), .ref (ad 70), .ref (ad 71), .ref (ad 72), .int (f 60), .int (f 61), .int (f 62), .ref (ad 73), .ref (ad 74), .ref (ad 75), .ref (ad 76)])
  | 43 => .inl (E.2 1, 200, .inl f)
  | 44 => .inl (E.2 0, 20, .inl f)
  | 45 => .inl (E.2 0, 240, .inl f)
  | 46 => .inl (E.2 0, 240, .inl f)
  | 47 => .inl (E.2 0, 240, .inl f)
  | 48 => .inl (E.2 0, 2400, .inl f)
  | 49 => .inl (E.2 0, 2400, .inl f)
  | 50 => .inl (E.2 0, 12, .inl f)
  | 51 => .inl (E.2 0, 12, .inl f)
  | 52 => .inl (E.2 0, 12, .inl f)
  | 53 => .inl (E.2 0, 120, .inl f)
  | 54 => .inl (E.2 0, 120, .inl f)
  | 55 => .inl (E.2 0, 160, .inl f)
  | 56 => .inl (E.2 0, 200, .inl f)
  | 57 => .inl (E.2 2, 200, .inl f)
  | 58 => .inl (E.2 2, 10, .inl f)
  | 59 => .inl (E.2 0, 10, .inl f)
  | 60 => .inl (E.2 0, 10, .inl f)
  | 61 => .inl (E.2 0, 10, .inl f)
  | 62 => .inl (E.2 0, 10, .inl f)
  | 63 => .inl (E.2 0, 1440, .inl f)
  | 64 => .inl (E.2 0, 1440, .inl f)
  | 65 => .inl (E.2 0, 1440, .inl f)
  | 66 => .inl (E.2 0, 1440, .inl f)
  | 67 => .inl (E.2 0, 1440, .inl f)
  | 68 => .inl (E.2 0, 2, .inl f)
  | 69 => .inl (E.2 0, 40, .inl f)
  | 70 => .inl (E.2 0, 40, .inl f)
  | 71 => .inl (E.2 0, 40, .inl f)
  | 72 => .inl (E.2 0, 40, .inl f)
  | 73 => .inl (E.2 0, 30, .inl f)
  | 74 => .inl (E.2 0, 30, .inl f)
  | 75 => .inl (E.2 0, 40, .inl f)
  | 76 => .inl (E.2 0, 371, .inl f)
  | _ => .inl (E.2 0, 0, .inl f)
abbrev cW (E : kE) (ad : Nat → Nat) (σ : Nat → Nat → Int32) (G : kG) (bv : Value) (j : Nat) : Nat × va_E := (ad j, cB E ad G bv j (σ j))
def lWd (E : kE) (ad : Nat → Nat) (σ : Nat → Nat → Int32) (G : kG) (bv : Value) : va_W := (List.range 77).map (cW E ad σ G bv) ++ kpool E G
def lu (σ : Nat → Nat → Int32) (u : Nat × (Nat → Int32)) : Nat → Nat → Int32 := fun i => if i = u.1 then u.2 else σ i
def lus (σ : Nat → Nat → Int32) (us : List (Nat × (Nat → Int32))) : Nat → Nat → Int32 := us.foldl lu σ
theorem lus_ne {us : List (Nat × (Nat → Int32))} {j : Nat} : ∀ {σ : Nat → Nat → Int32}, (∀ u ∈ us, u.1 ≠ j) → lus σ us j = σ j := by
  induction us with
  | nil => intro σ _; rfl
  | cons a l ih =>
    intro σ h
    have h1 : lus σ (a :: l) j = lus (lu σ a) l j := rfl
    rw [h1, ih (fun u hu => h u (List.mem_cons_of_mem _ hu))]
    unfold lu
    rw [if_neg (fun e => h a List.mem_cons_self e.symm)]
theorem lus_os {σ : Nat → Nat → Int32} {us : List (Nat × (Nat → Int32))} {ks os : List Nat} (hk : us.map (fun u => u.1) = ks) (hd : ks.all (fun k => !os.contains k) = true) : ∀ j ∈ os, lus σ us j = σ j := by
  intro j hj
  refine lus_ne (fun u hu e => ?_)
  have h1 : u.1 ∈ ks := by rw [← hk]; exact List.mem_map_of_mem hu
  have h2 := List.all_eq_true.mp hd u.1 h1
  rw [e] at h2
  simp [hj] at h2
def lprm (is os : List Nat) : Bool := List.isPerm (is ++ os) (List.range 77)
section LW
variable {E : kE} {A : Nat → Prop} {H0 H : Heap} {locs : List Loc} {ad : Nat → Nat} {σ : Nat → Nat → Int32} {G G' : kG} {bv bv' : Value} {is os : List Nat} {W1 : va_W} {us : List (Nat × (Nat → Int32))} {ks : List Nat}
theorem lperm (hp : lprm is os = true) (F : Nat → Nat × va_E) : List.Perm ((List.range 77).map F) (is.map F ++ os.map F) := by
  rw [← List.map_append]
  exact ((List.isPerm_iff.mp hp).map F).symm
theorem lopen (hp : lprm is os = true) (h : kV E A H0 H locs (lWd E ad σ G bv)) : kV E A H0 H locs (is.map (cW E ad σ G bv) ++ (os.map (cW E ad σ G bv) ++ kpool E G)) := by
  rw [← List.append_assoc]
  exact h.perm ((lperm hp _).append_right _)
theorem lopenP (hp : lprm is os = true) (h : kV E A H0 H locs (lWd E ad σ G bv)) : kV E A H0 H locs ((is.map (cW E ad σ G bv) ++ kpool E G) ++ os.map (cW E ad σ G bv)) := by
  have h1 := lopen hp h
  rw [← List.append_assoc] at h1
  exact h1.swap
theorem losm (hk : us.map (fun u => u.1) = ks) (hd : ks.all (fun k => !os.contains k) = true) : os.map (cW E ad σ G bv) = os.map (cW E ad (lus σ us) G bv) :=
  List.map_congr_left (fun j hj => by show (ad j, cB E ad G bv j (σ j)) = (ad j, cB E ad G bv j (lus σ us j)); rw [lus_os hk hd j hj])
theorem lclose (hp : lprm is os = true) (hk : us.map (fun u => u.1) = ks) (hd : ks.all (fun k => !os.contains k) = true) (hW : W1 = is.map (cW E ad (lus σ us) G bv)) (h : kV E A H0 H locs ((os.map (cW E ad σ G bv) ++ W1) ++ kpool E G)) : kV E A H0 H locs (lWd E ad (lus σ us) G bv) := by
  rw [losm hk hd, hW] at h
  exact h.perm ((List.perm_append_comm.trans (lperm hp _).symm).append_right _)
theorem lcloseP (hp : lprm is os = true) (hk : us.map (fun u => u.1) = ks) (hd : ks.all (fun k => !os.contains k) = true) (hW : W1 = is.map (cW E ad (lus σ us) G bv)) (h : kV E A H0 H locs (os.map (cW E ad σ G bv) ++ (W1 ++ kpool E G))) : kV E A H0 H locs (lWd E ad (lus σ us) G bv) := by
  rw [← List.append_assoc] at h
  exact lclose hp hk hd hW h
/-- the same addresses, and each cell's words carry over -/
theorem kV.imp {ws ws' : va_W} (h : kV E A H0 H locs ws) (ha : ws'.map (fun q => q.1) = ws.map (fun q => q.1)) (hc : ∀ q ∈ ws', ∃ q2 ∈ ws, q2.1 = q.1 ∧ ∀ H : Heap, va_at E.1 vwCl q2 H → va_at E.1 vwCl q H) : kV E A H0 H locs ws' := by
  refine ⟨kP_iff.mpr (fun q hq => ?_), kD_iff.mpr ⟨?_, fun q hq => ?_⟩, h.2.2⟩
  · obtain ⟨q2, h1, -, h2⟩ := hc q hq
    exact h2 H (kP_iff.mp h.1 q2 h1)
  · rw [ha]; exact (kD_iff.mp h.2.1).1
  · obtain ⟨q2, h1, h3, -⟩ := hc q hq
    rw [← h3]; exact (kD_iff.mp h.2.1).2 q2 h1
def lkeep (E : kE) (ad : Nat → Nat) (G G' : kG) (bv bv' : Value) (j : Nat) : Prop := ∀ (f : Nat → Int32) (H : Heap), va_at E.1 vwCl (ad j, cB E ad G bv j f) H → va_at E.1 vwCl (ad j, cB E ad G' bv' j f) H
theorem lcloseG (hp : lprm is os = true) (hk : us.map (fun u => u.1) = ks) (hd : ks.all (fun k => !os.contains k) = true) (ho : ∀ j ∈ os, lkeep E ad G G' bv bv' j) (hW : W1 = is.map (cW E ad (lus σ us) G' bv')) (h : kV E A H0 H locs (os.map (cW E ad σ G bv) ++ (W1 ++ kpool E G'))) : kV E A H0 H locs (lWd E ad (lus σ us) G' bv') := by
  rw [losm hk hd] at h
  have h2 : kV E A H0 H locs (os.map (cW E ad (lus σ us) G' bv') ++ (W1 ++ kpool E G')) := by
    refine h.imp (by simp [List.map_append, Function.comp_def]) (fun q hq => ?_)
    rcases List.mem_append.mp hq with c | c
    · obtain ⟨j, hj, rfl⟩ := List.mem_map.mp c
      exact ⟨cW E ad (lus σ us) G bv j, List.mem_append_left _ (List.mem_map_of_mem hj), rfl, fun H hh => ho j hj _ H hh⟩
    · exact ⟨q, List.mem_append_right _ c, rfl, fun _ hh => hh⟩
  rw [← List.append_assoc, hW] at h2
  exact h2.perm ((List.perm_append_comm.trans (lperm hp _).symm).append_right _)
end LW
theorem lrow {cA : ClassId} {n : Nat} {f g : Nat → Option Nat} (h : ∀ i, i < n → f i = g i) : vp_cell cA (n, .inr (.inr (.inr (.inr f)))) = vp_cell cA (n, .inr (.inr (.inr (.inr g)))) := by
  show arrV cA n (fun j => va_rf (f j)) = arrV cA n (fun j => va_rf (g j))
  unfold arrV
  congr 1
  congr 1
  funext j
  show va_rf (f j.val) = va_rf (g j.val)
  rw [h j.val j.isLt]
theorem lkeep_of {E : kE} {ad : Nat → Nat} {G G' : kG} {bv bv' : Value} (j : Nat) (h3 : j = 3 → bv = bv') (hA : j = 9 → kgA G = kgA G') (hW : j = 21 → ∀ i, i < 4 → kgW G i = kgW G' i) (hT : j = 37 → ∀ i, i < 6 → kgT G i = kgT G' i) : lkeep E ad G G' bv bv' j := by
  intro f H h
  by_cases c1 : j = 3
  · subst c1
    rw [← h3 rfl]
    exact h
  · by_cases c2 : j = 9
    · subst c2
      exact (show va_at E.1 vwCl (ad 9, .inl (E.2 3, 10, .inr (.inr (.inr (.inr (kgA G')))))) H from hA rfl ▸ h)
    · by_cases c3 : j = 21
      · subst c3
        exact Eq.trans (show H[ad 21]? = some (vp_cell (E.2 4) (4, .inr (.inr (.inr (.inr (kgW G)))))) from h) (by rw [lrow (hW rfl)])
      · by_cases c4 : j = 37
        · subst c4
          exact Eq.trans (show H[ad 37]? = some (vp_cell (E.2 4) (6, .inr (.inr (.inr (.inr (kgT G)))))) from h) (by rw [lrow (hT rfl)])
        · have e : cB E ad G bv j f = cB E ad G' bv' j f := by
            unfold cB
            split <;> first | rfl | (exact absurd rfl ‹_›)
          rw [← e]
          exact h

theorem lq_X11_source : lprm [0, 13, 8, 9] [1, 2, 3, 4, 5, 6, 7, 10, 11, 12, 14, 15, 16, 17, 18, 19, 20, 21, 22, 23, 24, 25, 26, 27, 28, 29, 30, 31, 32, 33, 34, 35, 36, 37, 38, 39, 40, 41, 42, 43, 44, 45, 46, 47, 48, 49, 50, 51, 52, 53, 54, 55, 56, 57, 58, 59, 60, 61, 62, 63, 64, 65, 66, 67, 68, 69, 70, 71, 72, 73, 74, 75, 76] = true := by decide +kernel
theorem lq_X12_source : lprm [42, 58, 59, 61, 62, 60] [0, 1, 2, 3, 4, 5, 6, 7, 8, 9, 10, 11, 12, 13, 14, 15, 16, 17, 18, 19, 20, 21, 22, 23, 24, 25, 26, 27, 28, 29, 30, 31, 32, 33, 34, 35, 36, 37, 38, 39, 40, 41, 43, 44, 45, 46, 47, 48, 49, 50, 51, 52, 53, 54, 55, 56, 57, 63, 64, 65, 66, 67, 68, 69, 70, 71, 72, 73, 74, 75, 76] = true := by decide +kernel
theorem lq_X11_seed : lprm [0, 13, 8] [1, 2, 3, 4, 5, 6, 7, 9, 10, 11, 12, 14, 15, 16, 17, 18, 19, 20, 21, 22, 23, 24, 25, 26, 27, 28, 29, 30, 31, 32, 33, 34, 35, 36, 37, 38, 39, 40, 41, 42, 43, 44, 45, 46, 47, 48, 49, 50, 51, 52, 53, 54, 55, 56, 57, 58, 59, 60, 61, 62, 63, 64, 65, 66, 67, 68, 69, 70, 71, 72, 73, 74, 75, 76] = true := by decide +kernel
theorem lq_X12_seed : lprm [42] [0, 1, 2, 3, 4, 5, 6, 7, 8, 9, 10, 11, 12, 13, 14, 15, 16, 17, 18, 19, 20, 21, 22, 23, 24, 25, 26, 27, 28, 29, 30, 31, 32, 33, 34, 35, 36, 37, 38, 39, 40, 41, 43, 44, 45, 46, 47, 48, 49, 50, 51, 52, 53, 54, 55, 56, 57, 58, 59, 60, 61, 62, 63, 64, 65, 66, 67, 68, 69, 70, 71, 72, 73, 74, 75, 76] = true := by decide +kernel
theorem lq_X11_feed : lprm [0, 1, 2] [3, 4, 5, 6, 7, 8, 9, 10, 11, 12, 13, 14, 15, 16, 17, 18, 19, 20, 21, 22, 23, 24, 25, 26, 27, 28, 29, 30, 31, 32, 33, 34, 35, 36, 37, 38, 39, 40, 41, 42, 43, 44, 45, 46, 47, 48, 49, 50, 51, 52, 53, 54, 55, 56, 57, 58, 59, 60, 61, 62, 63, 64, 65, 66, 67, 68, 69, 70, 71, 72, 73, 74, 75, 76] = true := by decide +kernel
theorem lq_X12_feed : lprm [42, 43] [0, 1, 2, 3, 4, 5, 6, 7, 8, 9, 10, 11, 12, 13, 14, 15, 16, 17, 18, 19, 20, 21, 22, 23, 24, 25, 26, 27, 28, 29, 30, 31, 32, 33, 34, 35, 36, 37, 38, 39, 40, 41, 44, 45, 46, 47, 48, 49, 50, 51, 52, 53, 54, 55, 56, 57, 58, 59, 60, 61, 62, 63, 64, 65, 66, 67, 68, 69, 70, 71, 72, 73, 74, 75, 76] = true := by decide +kernel
theorem lq_X11_law : lprm [0, 13, 3, 8, 1, 4, 6, 5, 9, 2] [7, 10, 11, 12, 14, 15, 16, 17, 18, 19, 20, 21, 22, 23, 24, 25, 26, 27, 28, 29, 30, 31, 32, 33, 34, 35, 36, 37, 38, 39, 40, 41, 42, 43, 44, 45, 46, 47, 48, 49, 50, 51, 52, 53, 54, 55, 56, 57, 58, 59, 60, 61, 62, 63, 64, 65, 66, 67, 68, 69, 70, 71, 72, 73, 74, 75, 76] = true := by decide +kernel
theorem lq_X12_law : lprm [42, 48, 49, 46, 47, 44, 54, 53, 51, 50, 52, 55, 45, 43] [0, 1, 2, 3, 4, 5, 6, 7, 8, 9, 10, 11, 12, 13, 14, 15, 16, 17, 18, 19, 20, 21, 22, 23, 24, 25, 26, 27, 28, 29, 30, 31, 32, 33, 34, 35, 36, 37, 38, 39, 40, 41, 56, 57, 58, 59, 60, 61, 62, 63, 64, 65, 66, 67, 68, 69, 70, 71, 72, 73, 74, 75, 76] = true := by decide +kernel
theorem lq_X11_way : lprm [0, 13, 3, 1, 21, 4, 6, 5, 2] [7, 8, 9, 10, 11, 12, 14, 15, 16, 17, 18, 19, 20, 22, 23, 24, 25, 26, 27, 28, 29, 30, 31, 32, 33, 34, 35, 36, 37, 38, 39, 40, 41, 42, 43, 44, 45, 46, 47, 48, 49, 50, 51, 52, 53, 54, 55, 56, 57, 58, 59, 60, 61, 62, 63, 64, 65, 66, 67, 68, 69, 70, 71, 72, 73, 74, 75, 76] = true := by decide +kernel
theorem lq_X12_way : lprm [42, 48, 49, 46, 47, 44, 54, 53, 51, 50, 52, 55, 45, 43] [0, 1, 2, 3, 4, 5, 6, 7, 8, 9, 10, 11, 12, 13, 14, 15, 16, 17, 18, 19, 20, 21, 22, 23, 24, 25, 26, 27, 28, 29, 30, 31, 32, 33, 34, 35, 36, 37, 38, 39, 40, 41, 56, 57, 58, 59, 60, 61, 62, 63, 64, 65, 66, 67, 68, 69, 70, 71, 72, 73, 74, 75, 76] = true := by decide +kernel
theorem lq_X11_story : lprm [0, 30, 3, 1, 37, 4, 6, 5, 2] [7, 8, 9, 10, 11, 12, 13, 14, 15, 16, 17, 18, 19, 20, 21, 22, 23, 24, 25, 26, 27, 28, 29, 31, 32, 33, 34, 35, 36, 38, 39, 40, 41, 42, 43, 44, 45, 46, 47, 48, 49, 50, 51, 52, 53, 54, 55, 56, 57, 58, 59, 60, 61, 62, 63, 64, 65, 66, 67, 68, 69, 70, 71, 72, 73, 74, 75, 76] = true := by decide +kernel
theorem lq_X12_story : lprm [42, 48, 49, 46, 47, 44, 54, 53, 51, 50, 52, 55, 45, 43] [0, 1, 2, 3, 4, 5, 6, 7, 8, 9, 10, 11, 12, 13, 14, 15, 16, 17, 18, 19, 20, 21, 22, 23, 24, 25, 26, 27, 28, 29, 30, 31, 32, 33, 34, 35, 36, 37, 38, 39, 40, 41, 56, 57, 58, 59, 60, 61, 62, 63, 64, 65, 66, 67, 68, 69, 70, 71, 72, 73, 74, 75, 76] = true := by decide +kernel
theorem lq_X11_star : lprm [0] [1, 2, 3, 4, 5, 6, 7, 8, 9, 10, 11, 12, 13, 14, 15, 16, 17, 18, 19, 20, 21, 22, 23, 24, 25, 26, 27, 28, 29, 30, 31, 32, 33, 34, 35, 36, 37, 38, 39, 40, 41, 42, 43, 44, 45, 46, 47, 48, 49, 50, 51, 52, 53, 54, 55, 56, 57, 58, 59, 60, 61, 62, 63, 64, 65, 66, 67, 68, 69, 70, 71, 72, 73, 74, 75, 76] = true := by decide +kernel
theorem lq_X12_star : lprm [42] [0, 1, 2, 3, 4, 5, 6, 7, 8, 9, 10, 11, 12, 13, 14, 15, 16, 17, 18, 19, 20, 21, 22, 23, 24, 25, 26, 27, 28, 29, 30, 31, 32, 33, 34, 35, 36, 37, 38, 39, 40, 41, 43, 44, 45, 46, 47, 48, 49, 50, 51, 52, 53, 54, 55, 56, 57, 58, 59, 60, 61, 62, 63, 64, 65, 66, 67, 68, 69, 70, 71, 72, 73, 74, 75, 76] = true := by decide +kernel
theorem lq_X11_height : lprm [0, 8, 10, 9, 11, 12] [1, 2, 3, 4, 5, 6, 7, 13, 14, 15, 16, 17, 18, 19, 20, 21, 22, 23, 24, 25, 26, 27, 28, 29, 30, 31, 32, 33, 34, 35, 36, 37, 38, 39, 40, 41, 42, 43, 44, 45, 46, 47, 48, 49, 50, 51, 52, 53, 54, 55, 56, 57, 58, 59, 60, 61, 62, 63, 64, 65, 66, 67, 68, 69, 70, 71, 72, 73, 74, 75, 76] = true := by decide +kernel
theorem lq_X12_height : lprm [42, 58, 48, 49, 46, 47, 57, 44, 59, 45, 62, 60, 56] [0, 1, 2, 3, 4, 5, 6, 7, 8, 9, 10, 11, 12, 13, 14, 15, 16, 17, 18, 19, 20, 21, 22, 23, 24, 25, 26, 27, 28, 29, 30, 31, 32, 33, 34, 35, 36, 37, 38, 39, 40, 41, 43, 50, 51, 52, 53, 54, 55, 61, 63, 64, 65, 66, 67, 68, 69, 70, 71, 72, 73, 74, 75, 76] = true := by decide +kernel
theorem lq_X11_paper : lprm [0, 13, 8, 14, 16, 15, 10, 9, 11, 12] [1, 2, 3, 4, 5, 6, 7, 17, 18, 19, 20, 21, 22, 23, 24, 25, 26, 27, 28, 29, 30, 31, 32, 33, 34, 35, 36, 37, 38, 39, 40, 41, 42, 43, 44, 45, 46, 47, 48, 49, 50, 51, 52, 53, 54, 55, 56, 57, 58, 59, 60, 61, 62, 63, 64, 65, 66, 67, 68, 69, 70, 71, 72, 73, 74, 75, 76] = true := by decide +kernel
theorem lq_X12_paper : lprm [42, 58, 48, 49, 46, 47, 57, 44, 59, 61, 45, 62, 60, 56] [0, 1, 2, 3, 4, 5, 6, 7, 8, 9, 10, 11, 12, 13, 14, 15, 16, 17, 18, 19, 20, 21, 22, 23, 24, 25, 26, 27, 28, 29, 30, 31, 32, 33, 34, 35, 36, 37, 38, 39, 40, 41, 43, 50, 51, 52, 53, 54, 55, 63, 64, 65, 66, 67, 68, 69, 70, 71, 72, 73, 74, 75, 76] = true := by decide +kernel
theorem lq_X11_marks : lprm [0, 13, 8, 21, 14, 16, 17, 18, 15, 10, 9, 19, 20, 11, 12] [1, 2, 3, 4, 5, 6, 7, 22, 23, 24, 25, 26, 27, 28, 29, 30, 31, 32, 33, 34, 35, 36, 37, 38, 39, 40, 41, 42, 43, 44, 45, 46, 47, 48, 49, 50, 51, 52, 53, 54, 55, 56, 57, 58, 59, 60, 61, 62, 63, 64, 65, 66, 67, 68, 69, 70, 71, 72, 73, 74, 75, 76] = true := by decide +kernel
theorem lq_X12_marks : lprm [42, 58, 48, 49, 46, 47, 65, 67, 63, 57, 66, 44, 68, 59, 61, 64, 45, 62, 60, 56] [0, 1, 2, 3, 4, 5, 6, 7, 8, 9, 10, 11, 12, 13, 14, 15, 16, 17, 18, 19, 20, 21, 22, 23, 24, 25, 26, 27, 28, 29, 30, 31, 32, 33, 34, 35, 36, 37, 38, 39, 40, 41, 43, 50, 51, 52, 53, 54, 55, 69, 70, 71, 72, 73, 74, 75, 76] = true := by decide +kernel
theorem lq_X11_passed : lprm [0, 13, 8, 21, 14, 16, 17, 18, 15, 10, 9, 19, 20, 11, 12] [1, 2, 3, 4, 5, 6, 7, 22, 23, 24, 25, 26, 27, 28, 29, 30, 31, 32, 33, 34, 35, 36, 37, 38, 39, 40, 41, 42, 43, 44, 45, 46, 47, 48, 49, 50, 51, 52, 53, 54, 55, 56, 57, 58, 59, 60, 61, 62, 63, 64, 65, 66, 67, 68, 69, 70, 71, 72, 73, 74, 75, 76] = true := by decide +kernel
theorem lq_X12_passed : lprm [42, 58, 48, 49, 46, 47, 65, 67, 63, 57, 66, 44, 68, 59, 61, 64, 45, 62, 60, 56] [0, 1, 2, 3, 4, 5, 6, 7, 8, 9, 10, 11, 12, 13, 14, 15, 16, 17, 18, 19, 20, 21, 22, 23, 24, 25, 26, 27, 28, 29, 30, 31, 32, 33, 34, 35, 36, 37, 38, 39, 40, 41, 43, 50, 51, 52, 53, 54, 55, 69, 70, 71, 72, 73, 74, 75, 76] = true := by decide +kernel
theorem lq_X11_note : lprm [0, 22, 23, 24, 25] [1, 2, 3, 4, 5, 6, 7, 8, 9, 10, 11, 12, 13, 14, 15, 16, 17, 18, 19, 20, 21, 26, 27, 28, 29, 30, 31, 32, 33, 34, 35, 36, 37, 38, 39, 40, 41, 42, 43, 44, 45, 46, 47, 48, 49, 50, 51, 52, 53, 54, 55, 56, 57, 58, 59, 60, 61, 62, 63, 64, 65, 66, 67, 68, 69, 70, 71, 72, 73, 74, 75, 76] = true := by decide +kernel
theorem lq_X12_note : lprm [42, 69, 70, 71] [0, 1, 2, 3, 4, 5, 6, 7, 8, 9, 10, 11, 12, 13, 14, 15, 16, 17, 18, 19, 20, 21, 22, 23, 24, 25, 26, 27, 28, 29, 30, 31, 32, 33, 34, 35, 36, 37, 38, 39, 40, 41, 43, 44, 45, 46, 47, 48, 49, 50, 51, 52, 53, 54, 55, 56, 57, 58, 59, 60, 61, 62, 63, 64, 65, 66, 67, 68, 72, 73, 74, 75, 76] = true := by decide +kernel
theorem lq_X11_one : lprm [0, 22, 23, 26, 24, 25] [1, 2, 3, 4, 5, 6, 7, 8, 9, 10, 11, 12, 13, 14, 15, 16, 17, 18, 19, 20, 21, 27, 28, 29, 30, 31, 32, 33, 34, 35, 36, 37, 38, 39, 40, 41, 42, 43, 44, 45, 46, 47, 48, 49, 50, 51, 52, 53, 54, 55, 56, 57, 58, 59, 60, 61, 62, 63, 64, 65, 66, 67, 68, 69, 70, 71, 72, 73, 74, 75, 76] = true := by decide +kernel
theorem lq_X12_one : lprm [42, 69, 70, 71] [0, 1, 2, 3, 4, 5, 6, 7, 8, 9, 10, 11, 12, 13, 14, 15, 16, 17, 18, 19, 20, 21, 22, 23, 24, 25, 26, 27, 28, 29, 30, 31, 32, 33, 34, 35, 36, 37, 38, 39, 40, 41, 43, 44, 45, 46, 47, 48, 49, 50, 51, 52, 53, 54, 55, 56, 57, 58, 59, 60, 61, 62, 63, 64, 65, 66, 67, 68, 72, 73, 74, 75, 76] = true := by decide +kernel
theorem lq_X11_known : lprm [0, 22, 23, 26, 24, 25] [1, 2, 3, 4, 5, 6, 7, 8, 9, 10, 11, 12, 13, 14, 15, 16, 17, 18, 19, 20, 21, 27, 28, 29, 30, 31, 32, 33, 34, 35, 36, 37, 38, 39, 40, 41, 42, 43, 44, 45, 46, 47, 48, 49, 50, 51, 52, 53, 54, 55, 56, 57, 58, 59, 60, 61, 62, 63, 64, 65, 66, 67, 68, 69, 70, 71, 72, 73, 74, 75, 76] = true := by decide +kernel
theorem lq_X12_known : lprm [42, 69, 70, 71] [0, 1, 2, 3, 4, 5, 6, 7, 8, 9, 10, 11, 12, 13, 14, 15, 16, 17, 18, 19, 20, 21, 22, 23, 24, 25, 26, 27, 28, 29, 30, 31, 32, 33, 34, 35, 36, 37, 38, 39, 40, 41, 43, 44, 45, 46, 47, 48, 49, 50, 51, 52, 53, 54, 55, 56, 57, 58, 59, 60, 61, 62, 63, 64, 65, 66, 67, 68, 72, 73, 74, 75, 76] = true := by decide +kernel
theorem lq_X11_row : lprm [0, 22, 23, 26, 24, 25] [1, 2, 3, 4, 5, 6, 7, 8, 9, 10, 11, 12, 13, 14, 15, 16, 17, 18, 19, 20, 21, 27, 28, 29, 30, 31, 32, 33, 34, 35, 36, 37, 38, 39, 40, 41, 42, 43, 44, 45, 46, 47, 48, 49, 50, 51, 52, 53, 54, 55, 56, 57, 58, 59, 60, 61, 62, 63, 64, 65, 66, 67, 68, 69, 70, 71, 72, 73, 74, 75, 76] = true := by decide +kernel
theorem lq_X12_row : lprm [42, 69, 70, 71] [0, 1, 2, 3, 4, 5, 6, 7, 8, 9, 10, 11, 12, 13, 14, 15, 16, 17, 18, 19, 20, 21, 22, 23, 24, 25, 26, 27, 28, 29, 30, 31, 32, 33, 34, 35, 36, 37, 38, 39, 40, 41, 43, 44, 45, 46, 47, 48, 49, 50, 51, 52, 53, 54, 55, 56, 57, 58, 59, 60, 61, 62, 63, 64, 65, 66, 67, 68, 72, 73, 74, 75, 76] = true := by decide +kernel
theorem lq_X11_blip : lprm [0, 27, 28] [1, 2, 3, 4, 5, 6, 7, 8, 9, 10, 11, 12, 13, 14, 15, 16, 17, 18, 19, 20, 21, 22, 23, 24, 25, 26, 29, 30, 31, 32, 33, 34, 35, 36, 37, 38, 39, 40, 41, 42, 43, 44, 45, 46, 47, 48, 49, 50, 51, 52, 53, 54, 55, 56, 57, 58, 59, 60, 61, 62, 63, 64, 65, 66, 67, 68, 69, 70, 71, 72, 73, 74, 75, 76] = true := by decide +kernel
theorem lq_X12_blip : lprm [42, 72] [0, 1, 2, 3, 4, 5, 6, 7, 8, 9, 10, 11, 12, 13, 14, 15, 16, 17, 18, 19, 20, 21, 22, 23, 24, 25, 26, 27, 28, 29, 30, 31, 32, 33, 34, 35, 36, 37, 38, 39, 40, 41, 43, 44, 45, 46, 47, 48, 49, 50, 51, 52, 53, 54, 55, 56, 57, 58, 59, 60, 61, 62, 63, 64, 65, 66, 67, 68, 69, 70, 71, 73, 74, 75, 76] = true := by decide +kernel
theorem lq_X11_fits : lprm [0, 27, 29, 28] [1, 2, 3, 4, 5, 6, 7, 8, 9, 10, 11, 12, 13, 14, 15, 16, 17, 18, 19, 20, 21, 22, 23, 24, 25, 26, 30, 31, 32, 33, 34, 35, 36, 37, 38, 39, 40, 41, 42, 43, 44, 45, 46, 47, 48, 49, 50, 51, 52, 53, 54, 55, 56, 57, 58, 59, 60, 61, 62, 63, 64, 65, 66, 67, 68, 69, 70, 71, 72, 73, 74, 75, 76] = true := by decide +kernel
theorem lq_X12_fits : lprm [42, 72] [0, 1, 2, 3, 4, 5, 6, 7, 8, 9, 10, 11, 12, 13, 14, 15, 16, 17, 18, 19, 20, 21, 22, 23, 24, 25, 26, 27, 28, 29, 30, 31, 32, 33, 34, 35, 36, 37, 38, 39, 40, 41, 43, 44, 45, 46, 47, 48, 49, 50, 51, 52, 53, 54, 55, 56, 57, 58, 59, 60, 61, 62, 63, 64, 65, 66, 67, 68, 69, 70, 71, 73, 74, 75, 76] = true := by decide +kernel
theorem lq_X11_beats : lprm [0, 27, 29, 28] [1, 2, 3, 4, 5, 6, 7, 8, 9, 10, 11, 12, 13, 14, 15, 16, 17, 18, 19, 20, 21, 22, 23, 24, 25, 26, 30, 31, 32, 33, 34, 35, 36, 37, 38, 39, 40, 41, 42, 43, 44, 45, 46, 47, 48, 49, 50, 51, 52, 53, 54, 55, 56, 57, 58, 59, 60, 61, 62, 63, 64, 65, 66, 67, 68, 69, 70, 71, 72, 73, 74, 75, 76] = true := by decide +kernel
theorem lq_X12_beats : lprm [42, 72] [0, 1, 2, 3, 4, 5, 6, 7, 8, 9, 10, 11, 12, 13, 14, 15, 16, 17, 18, 19, 20, 21, 22, 23, 24, 25, 26, 27, 28, 29, 30, 31, 32, 33, 34, 35, 36, 37, 38, 39, 40, 41, 43, 44, 45, 46, 47, 48, 49, 50, 51, 52, 53, 54, 55, 56, 57, 58, 59, 60, 61, 62, 63, 64, 65, 66, 67, 68, 69, 70, 71, 73, 74, 75, 76] = true := by decide +kernel
theorem lq_X11_counted : lprm [0, 27, 28] [1, 2, 3, 4, 5, 6, 7, 8, 9, 10, 11, 12, 13, 14, 15, 16, 17, 18, 19, 20, 21, 22, 23, 24, 25, 26, 29, 30, 31, 32, 33, 34, 35, 36, 37, 38, 39, 40, 41, 42, 43, 44, 45, 46, 47, 48, 49, 50, 51, 52, 53, 54, 55, 56, 57, 58, 59, 60, 61, 62, 63, 64, 65, 66, 67, 68, 69, 70, 71, 72, 73, 74, 75, 76] = true := by decide +kernel
theorem lq_X12_counted : lprm [42, 72] [0, 1, 2, 3, 4, 5, 6, 7, 8, 9, 10, 11, 12, 13, 14, 15, 16, 17, 18, 19, 20, 21, 22, 23, 24, 25, 26, 27, 28, 29, 30, 31, 32, 33, 34, 35, 36, 37, 38, 39, 40, 41, 43, 44, 45, 46, 47, 48, 49, 50, 51, 52, 53, 54, 55, 56, 57, 58, 59, 60, 61, 62, 63, 64, 65, 66, 67, 68, 69, 70, 71, 73, 74, 75, 76] = true := by decide +kernel
theorem lq_X11_sure : lprm [0, 27, 29, 28] [1, 2, 3, 4, 5, 6, 7, 8, 9, 10, 11, 12, 13, 14, 15, 16, 17, 18, 19, 20, 21, 22, 23, 24, 25, 26, 30, 31, 32, 33, 34, 35, 36, 37, 38, 39, 40, 41, 42, 43, 44, 45, 46, 47, 48, 49, 50, 51, 52, 53, 54, 55, 56, 57, 58, 59, 60, 61, 62, 63, 64, 65, 66, 67, 68, 69, 70, 71, 72, 73, 74, 75, 76] = true := by decide +kernel
theorem lq_X12_sure : lprm [42, 72] [0, 1, 2, 3, 4, 5, 6, 7, 8, 9, 10, 11, 12, 13, 14, 15, 16, 17, 18, 19, 20, 21, 22, 23, 24, 25, 26, 27, 28, 29, 30, 31, 32, 33, 34, 35, 36, 37, 38, 39, 40, 41, 43, 44, 45, 46, 47, 48, 49, 50, 51, 52, 53, 54, 55, 56, 57, 58, 59, 60, 61, 62, 63, 64, 65, 66, 67, 68, 69, 70, 71, 73, 74, 75, 76] = true := by decide +kernel
theorem lq_X11_lost : lprm [0, 27, 29, 28] [1, 2, 3, 4, 5, 6, 7, 8, 9, 10, 11, 12, 13, 14, 15, 16, 17, 18, 19, 20, 21, 22, 23, 24, 25, 26, 30, 31, 32, 33, 34, 35, 36, 37, 38, 39, 40, 41, 42, 43, 44, 45, 46, 47, 48, 49, 50, 51, 52, 53, 54, 55, 56, 57, 58, 59, 60, 61, 62, 63, 64, 65, 66, 67, 68, 69, 70, 71, 72, 73, 74, 75, 76] = true := by decide +kernel
theorem lq_X12_lost : lprm [42, 72] [0, 1, 2, 3, 4, 5, 6, 7, 8, 9, 10, 11, 12, 13, 14, 15, 16, 17, 18, 19, 20, 21, 22, 23, 24, 25, 26, 27, 28, 29, 30, 31, 32, 33, 34, 35, 36, 37, 38, 39, 40, 41, 43, 44, 45, 46, 47, 48, 49, 50, 51, 52, 53, 54, 55, 56, 57, 58, 59, 60, 61, 62, 63, 64, 65, 66, 67, 68, 69, 70, 71, 73, 74, 75, 76] = true := by decide +kernel
theorem lq_X11_night : lprm [0, 30, 31, 32] [1, 2, 3, 4, 5, 6, 7, 8, 9, 10, 11, 12, 13, 14, 15, 16, 17, 18, 19, 20, 21, 22, 23, 24, 25, 26, 27, 28, 29, 33, 34, 35, 36, 37, 38, 39, 40, 41, 42, 43, 44, 45, 46, 47, 48, 49, 50, 51, 52, 53, 54, 55, 56, 57, 58, 59, 60, 61, 62, 63, 64, 65, 66, 67, 68, 69, 70, 71, 72, 73, 74, 75, 76] = true := by decide +kernel
theorem lq_X12_night : lprm [42, 74, 73] [0, 1, 2, 3, 4, 5, 6, 7, 8, 9, 10, 11, 12, 13, 14, 15, 16, 17, 18, 19, 20, 21, 22, 23, 24, 25, 26, 27, 28, 29, 30, 31, 32, 33, 34, 35, 36, 37, 38, 39, 40, 41, 43, 44, 45, 46, 47, 48, 49, 50, 51, 52, 53, 54, 55, 56, 57, 58, 59, 60, 61, 62, 63, 64, 65, 66, 67, 68, 69, 70, 71, 72, 75, 76] = true := by decide +kernel
theorem lq_X11_says : lprm [0, 30, 31, 34, 37, 35, 36] [1, 2, 3, 4, 5, 6, 7, 8, 9, 10, 11, 12, 13, 14, 15, 16, 17, 18, 19, 20, 21, 22, 23, 24, 25, 26, 27, 28, 29, 32, 33, 38, 39, 40, 41, 42, 43, 44, 45, 46, 47, 48, 49, 50, 51, 52, 53, 54, 55, 56, 57, 58, 59, 60, 61, 62, 63, 64, 65, 66, 67, 68, 69, 70, 71, 72, 73, 74, 75, 76] = true := by decide +kernel
theorem lq_X12_says : lprm [42, 48, 49, 46, 57, 44, 73, 45, 56] [0, 1, 2, 3, 4, 5, 6, 7, 8, 9, 10, 11, 12, 13, 14, 15, 16, 17, 18, 19, 20, 21, 22, 23, 24, 25, 26, 27, 28, 29, 30, 31, 32, 33, 34, 35, 36, 37, 38, 39, 40, 41, 43, 47, 50, 51, 52, 53, 54, 55, 58, 59, 60, 61, 62, 63, 64, 65, 66, 67, 68, 69, 70, 71, 72, 74, 75, 76] = true := by decide +kernel
theorem lq_X11_falls : lprm [0, 30, 31, 34, 32, 37, 35, 36] [1, 2, 3, 4, 5, 6, 7, 8, 9, 10, 11, 12, 13, 14, 15, 16, 17, 18, 19, 20, 21, 22, 23, 24, 25, 26, 27, 28, 29, 33, 38, 39, 40, 41, 42, 43, 44, 45, 46, 47, 48, 49, 50, 51, 52, 53, 54, 55, 56, 57, 58, 59, 60, 61, 62, 63, 64, 65, 66, 67, 68, 69, 70, 71, 72, 73, 74, 75, 76] = true := by decide +kernel
theorem lq_X12_falls : lprm [42, 48, 49, 46, 74, 57, 44, 73, 45, 56] [0, 1, 2, 3, 4, 5, 6, 7, 8, 9, 10, 11, 12, 13, 14, 15, 16, 17, 18, 19, 20, 21, 22, 23, 24, 25, 26, 27, 28, 29, 30, 31, 32, 33, 34, 35, 36, 37, 38, 39, 40, 41, 43, 47, 50, 51, 52, 53, 54, 55, 58, 59, 60, 61, 62, 63, 64, 65, 66, 67, 68, 69, 70, 71, 72, 75, 76] = true := by decide +kernel
theorem lq_X11_told : lprm [0, 30, 31, 33, 34, 32, 37, 35, 36] [1, 2, 3, 4, 5, 6, 7, 8, 9, 10, 11, 12, 13, 14, 15, 16, 17, 18, 19, 20, 21, 22, 23, 24, 25, 26, 27, 28, 29, 38, 39, 40, 41, 42, 43, 44, 45, 46, 47, 48, 49, 50, 51, 52, 53, 54, 55, 56, 57, 58, 59, 60, 61, 62, 63, 64, 65, 66, 67, 68, 69, 70, 71, 72, 73, 74, 75, 76] = true := by decide +kernel
theorem lq_X12_told : lprm [42, 48, 49, 46, 74, 57, 44, 73, 45, 56] [0, 1, 2, 3, 4, 5, 6, 7, 8, 9, 10, 11, 12, 13, 14, 15, 16, 17, 18, 19, 20, 21, 22, 23, 24, 25, 26, 27, 28, 29, 30, 31, 32, 33, 34, 35, 36, 37, 38, 39, 40, 41, 43, 47, 50, 51, 52, 53, 54, 55, 58, 59, 60, 61, 62, 63, 64, 65, 66, 67, 68, 69, 70, 71, 72, 75, 76] = true := by decide +kernel
theorem lq_X11_bound : lprm [0, 30, 31, 32] [1, 2, 3, 4, 5, 6, 7, 8, 9, 10, 11, 12, 13, 14, 15, 16, 17, 18, 19, 20, 21, 22, 23, 24, 25, 26, 27, 28, 29, 33, 34, 35, 36, 37, 38, 39, 40, 41, 42, 43, 44, 45, 46, 47, 48, 49, 50, 51, 52, 53, 54, 55, 56, 57, 58, 59, 60, 61, 62, 63, 64, 65, 66, 67, 68, 69, 70, 71, 72, 73, 74, 75, 76] = true := by decide +kernel
theorem lq_X12_bound : lprm [42, 74, 73] [0, 1, 2, 3, 4, 5, 6, 7, 8, 9, 10, 11, 12, 13, 14, 15, 16, 17, 18, 19, 20, 21, 22, 23, 24, 25, 26, 27, 28, 29, 30, 31, 32, 33, 34, 35, 36, 37, 38, 39, 40, 41, 43, 44, 45, 46, 47, 48, 49, 50, 51, 52, 53, 54, 55, 56, 57, 58, 59, 60, 61, 62, 63, 64, 65, 66, 67, 68, 69, 70, 71, 72, 75, 76] = true := by decide +kernel
theorem lq_X11_there : lprm [0, 38, 39] [1, 2, 3, 4, 5, 6, 7, 8, 9, 10, 11, 12, 13, 14, 15, 16, 17, 18, 19, 20, 21, 22, 23, 24, 25, 26, 27, 28, 29, 30, 31, 32, 33, 34, 35, 36, 37, 40, 41, 42, 43, 44, 45, 46, 47, 48, 49, 50, 51, 52, 53, 54, 55, 56, 57, 58, 59, 60, 61, 62, 63, 64, 65, 66, 67, 68, 69, 70, 71, 72, 73, 74, 75, 76] = true := by decide +kernel
theorem lq_X12_there : lprm [42, 75] [0, 1, 2, 3, 4, 5, 6, 7, 8, 9, 10, 11, 12, 13, 14, 15, 16, 17, 18, 19, 20, 21, 22, 23, 24, 25, 26, 27, 28, 29, 30, 31, 32, 33, 34, 35, 36, 37, 38, 39, 40, 41, 43, 44, 45, 46, 47, 48, 49, 50, 51, 52, 53, 54, 55, 56, 57, 58, 59, 60, 61, 62, 63, 64, 65, 66, 67, 68, 69, 70, 71, 72, 73, 74, 76] = true := by decide +kernel
theorem lq_X11_pen : lprm [0, 38, 41, 40, 39] [1, 2, 3, 4, 5, 6, 7, 8, 9, 10, 11, 12, 13, 14, 15, 16, 17, 18, 19, 20, 21, 22, 23, 24, 25, 26, 27, 28, 29, 30, 31, 32, 33, 34, 35, 36, 37, 42, 43, 44, 45, 46, 47, 48, 49, 50, 51, 52, 53, 54, 55, 56, 57, 58, 59, 60, 61, 62, 63, 64, 65, 66, 67, 68, 69, 70, 71, 72, 73, 74, 75, 76] = true := by decide +kernel
theorem lq_X12_pen : lprm [42, 76, 75] [0, 1, 2, 3, 4, 5, 6, 7, 8, 9, 10, 11, 12, 13, 14, 15, 16, 17, 18, 19, 20, 21, 22, 23, 24, 25, 26, 27, 28, 29, 30, 31, 32, 33, 34, 35, 36, 37, 38, 39, 40, 41, 43, 44, 45, 46, 47, 48, 49, 50, 51, 52, 53, 54, 55, 56, 57, 58, 59, 60, 61, 62, 63, 64, 65, 66, 67, 68, 69, 70, 71, 72, 73, 74] = true := by decide +kernel
theorem lq_X11_odds : lprm [0] [1, 2, 3, 4, 5, 6, 7, 8, 9, 10, 11, 12, 13, 14, 15, 16, 17, 18, 19, 20, 21, 22, 23, 24, 25, 26, 27, 28, 29, 30, 31, 32, 33, 34, 35, 36, 37, 38, 39, 40, 41, 42, 43, 44, 45, 46, 47, 48, 49, 50, 51, 52, 53, 54, 55, 56, 57, 58, 59, 60, 61, 62, 63, 64, 65, 66, 67, 68, 69, 70, 71, 72, 73, 74, 75, 76] = true := by decide +kernel
theorem lq_X12_odds : lprm [42] [0, 1, 2, 3, 4, 5, 6, 7, 8, 9, 10, 11, 12, 13, 14, 15, 16, 17, 18, 19, 20, 21, 22, 23, 24, 25, 26, 27, 28, 29, 30, 31, 32, 33, 34, 35, 36, 37, 38, 39, 40, 41, 43, 44, 45, 46, 47, 48, 49, 50, 51, 52, 53, 54, 55, 56, 57, 58, 59, 60, 61, 62, 63, 64, 65, 66, 67, 68, 69, 70, 71, 72, 73, 74, 75, 76] = true := by decide +kernel
theorem lq_X11_more : lprm [0] [1, 2, 3, 4, 5, 6, 7, 8, 9, 10, 11, 12, 13, 14, 15, 16, 17, 18, 19, 20, 21, 22, 23, 24, 25, 26, 27, 28, 29, 30, 31, 32, 33, 34, 35, 36, 37, 38, 39, 40, 41, 42, 43, 44, 45, 46, 47, 48, 49, 50, 51, 52, 53, 54, 55, 56, 57, 58, 59, 60, 61, 62, 63, 64, 65, 66, 67, 68, 69, 70, 71, 72, 73, 74, 75, 76] = true := by decide +kernel
theorem lq_X12_more : lprm [42] [0, 1, 2, 3, 4, 5, 6, 7, 8, 9, 10, 11, 12, 13, 14, 15, 16, 17, 18, 19, 20, 21, 22, 23, 24, 25, 26, 27, 28, 29, 30, 31, 32, 33, 34, 35, 36, 37, 38, 39, 40, 41, 43, 44, 45, 46, 47, 48, 49, 50, 51, 52, 53, 54, 55, 56, 57, 58, 59, 60, 61, 62, 63, 64, 65, 66, 67, 68, 69, 70, 71, 72, 73, 74, 75, 76] = true := by decide +kernel
theorem lq_X11_check : lprm [0, 13, 8, 1, 21, 14, 16, 17, 18, 15, 10, 9, 2, 19, 20, 11, 12] [3, 4, 5, 6, 7, 22, 23, 24, 25, 26, 27, 28, 29, 30, 31, 32, 33, 34, 35, 36, 37, 38, 39, 40, 41, 42, 43, 44, 45, 46, 47, 48, 49, 50, 51, 52, 53, 54, 55, 56, 57, 58, 59, 60, 61, 62, 63, 64, 65, 66, 67, 68, 69, 70, 71, 72, 73, 74, 75, 76] = true := by decide +kernel
theorem lq_X12_check : lprm [42, 58, 48, 49, 46, 47, 65, 67, 63, 57, 66, 44, 68, 59, 61, 64, 45, 43, 62, 60, 56] [0, 1, 2, 3, 4, 5, 6, 7, 8, 9, 10, 11, 12, 13, 14, 15, 16, 17, 18, 19, 20, 21, 22, 23, 24, 25, 26, 27, 28, 29, 30, 31, 32, 33, 34, 35, 36, 37, 38, 39, 40, 41, 50, 51, 52, 53, 54, 55, 69, 70, 71, 72, 73, 74, 75, 76] = true := by decide +kernel
theorem lq_X11_count : lprm [0, 27, 30, 22, 8, 1, 21, 37, 9] [2, 3, 4, 5, 6, 7, 10, 11, 12, 13, 14, 15, 16, 17, 18, 19, 20, 23, 24, 25, 26, 28, 29, 31, 32, 33, 34, 35, 36, 38, 39, 40, 41, 42, 43, 44, 45, 46, 47, 48, 49, 50, 51, 52, 53, 54, 55, 56, 57, 58, 59, 60, 61, 62, 63, 64, 65, 66, 67, 68, 69, 70, 71, 72, 73, 74, 75, 76] = true := by decide +kernel
theorem lq_X12_count : lprm [42, 44] [0, 1, 2, 3, 4, 5, 6, 7, 8, 9, 10, 11, 12, 13, 14, 15, 16, 17, 18, 19, 20, 21, 22, 23, 24, 25, 26, 27, 28, 29, 30, 31, 32, 33, 34, 35, 36, 37, 38, 39, 40, 41, 43, 45, 46, 47, 48, 49, 50, 51, 52, 53, 54, 55, 56, 57, 58, 59, 60, 61, 62, 63, 64, 65, 66, 67, 68, 69, 70, 71, 72, 73, 74, 75, 76] = true := by decide +kernel
/-- a new object's contents; no sources, no texts -/
def l0 : Nat → Nat → Int32 := fun j => match j with
  | 13 => fun k => if k = 6 then -1 else 0
  | 27 => fun k => if k = 4 then -1 else if k = 5 then -1 else 0
  | _ => fun _ => 0
def G0 : kG := (fun _ => none, fun _ => none)
theorem kpool0 (E : kE) : kpool E G0 = [] := rfl

section KL
variable {p : Program} {l : Launch} {e : Env} {R : Room} {s : State} {m : MethodId} {args : Array Value} {below : List Frame} {meth : Method} {c : Code} {H : Heap} {locs : List Loc} {cells slots : Nat} {Q : State → Prop} {E : kE} {A : Nat → Prop} {cc : ByteArray} {nL pc : Nat} {own : String} {ls : Array Slot} {rest : List Value} {ws : va_W}
theorem ksld {b L : Nat} {xs : Nat → Int32} (X : kC p s m c cc nL own args E A) (hX : va_X b L xs s s.heap) (hbl : b < s.heap.size) (hbA : ¬ A b) (hV : kV E A s.heap H locs ws) {i v : Int32} (hin : vp_in i L) (hv : v = xs i.toNatClampNeg) (hdg : decode cc pc = .ok (.iaload, 1))
    (kk : W p l e R s m args below meth c H locs cells slots Q (F0 m (pc + 1) ls (.int v :: rest))) : W p l e R s m args below meth c H locs cells slots Q (F0 m pc ls (.int i :: .ref b :: rest)) :=
  va_sld X.1 X.2.1 hX hbl hbA hV.2.2 hin hdg (hv ▸ kk)
end KL
theorem lgc_self (x : Int64) : lg_cmp x x = 0 := by
  unfold lg_cmp
  rw [if_neg (by simp [Int64.lt_iff_toInt_lt]), if_pos rfl]
set_option maxRecDepth 100000 in
set_option maxHeartbeats 4000000 in
theorem kstart {s : State} {args : Array Value} (hts : ∀ w ∈ lw_tbl, w.before args s = true) (hgv : (Jvm.Cond.and given_1 narrow_1).before args s = true) : ∃ E : kE, kX E s ∧ kStr E (fun q => s.heap.size ≤ q) s s.heap := by
  have hw : ∀ w ∈ wsL_law, w.before args s = true := fun w h => hts w (wsL_law_in w h)
  have hs := flat_of_before _ hgv
  obtain ⟨cX0, iX0, hX0⟩ := u_known (C := RX0) (T := TX0) (N := 6) (n := 6) hw inlX0 (hw (.instantiable RX0 6) mw_35)
  obtain ⟨cX1, iX1, hX1⟩ := u_known (C := RX1) (T := TX1) (N := 4) (n := 4) hw inlX1 (hw (.instantiable RX1 4) mw_43)
  obtain ⟨cX2, iX2, hX2⟩ := u_known (C := RX2) (T := TX2) (N := 6) (n := 6) hw inlX2 (hw (.instantiable RX2 6) mw_39)
  obtain ⟨cX3, iX3, hX3⟩ := u_known (C := RX3) (T := TX3) (N := 5) (n := 5) hw inlX3 (hw (.instantiable RX3 5) mw_31)
  obtain ⟨cX4, iX4, hX4⟩ := u_known (C := RX4) (T := TX4) (N := 7) (n := 7) hw inlX4 (hw (.instantiable RX4 7) mw_25)
  obtain ⟨cX5, iX5, hX5⟩ := u_known (C := RX5) (T := TX5) (N := 2) (n := 2) hw inlX5 (hw (.instantiable RX5 2) mw_72)
  obtain ⟨cX6, iX6, hX6⟩ := u_known (C := RX6) (T := TX6) (N := 8) (n := 8) hw inlX6 (hw (.instantiable RX6 8) mw_17)
  obtain ⟨cX7, iX7, hX7⟩ := u_known (C := RX7) (T := TX7) (N := 4) (n := 4) hw inlX7 (hw (.instantiable RX7 4) mw_21)
  obtain ⟨cX8, iX8, hX8⟩ := u_known (C := RX8) (T := TX8) (N := 7) (n := 7) hw inlX8 (hw (.instantiable RX8 7) mw_182)
  obtain ⟨cX9, iX9, hX9⟩ := u_known (C := RX9) (T := TX9) (N := 2) (n := 2) hw inlX9 (hw (.instantiable RX9 2) mw_13)
  obtain ⟨cX10, iX10, hX10⟩ := u_known (C := RX10) (T := TX10) (N := 4) (n := 4) hw inlX10 (hw (.instantiable RX10 4) mw_424)
  obtain ⟨cX11, iX11, hX11⟩ := u_known (C := RX11) (T := TX11) (N := 9) (n := 9) hw inlX11 (hw (.instantiable RX11 9) mw_1)
  obtain ⟨cX12, iX12, hX12⟩ := u_known (C := RX12) (T := TX12) (N := 67) (n := 67) hw inlX12 (hw (.instantiable RX12 67) mw_4)
  obtain ⟨cI, kI, mI, fI1, fI2, fI3⟩ := Cond.arrayClass_spec (hw (.arrayClass .int) mw_50)
  obtain ⟨cB, kB, mB, fB1, fB2, fB3⟩ := Cond.arrayClass_spec (hw (.arrayClass .byte) mw_140)
  obtain ⟨cZ, kZ, mZ, fZ1, fZ2, fZ3⟩ := Cond.arrayClass_spec (hw (.arrayClass .boolean) mw_155)
  have oS : (Cond.arrayOver (.object "ScruffPaper$Source")).before args s = true := hts _ (List.mem_of_getElem? (i := 172) (by decide +kernel))
  obtain ⟨mS, cS, kS, fS1, -, fS2, fS3, fS4⟩ := Cond.arrayOver_spec oS
  have oT : (Cond.arrayOver (.object "ScruffPaper$Text")).before args s = true := hts _ (List.mem_of_getElem? (i := 238) (by decide +kernel))
  obtain ⟨mT, cT, kT, fT1, -, fT2, fT3, fT4⟩ := Cond.arrayOver_spec oT
  have hZ : va_Z "java/lang/String" "COMPACT_STRINGS" "Z" (.int 1) (fun q => s.heap.size ≤ q) s s.heap := va_Zof (hts _ (List.mem_of_getElem? (i := 520) (by decide +kernel))) (hts _ (List.mem_of_getElem? (i := 102) (by decide +kernel))) (va_eqi (hs _ (by decide +kernel))) (fun a h => Nat.not_le.mpr h)
  obtain ⟨adK, adV, hS, hT⟩ := vk_Sof (args := args) (s := s) (N := 1) (tm := fun _ => Term.string "ScruffPaper$Scribe" 109) (len := [13]) (byt := [kLet]) (A := fun q => s.heap.size ≤ q) (fun i hi => by rw [show i = 0 by omega]; decide) (fun i _ => hs _ (by decide +kernel)) (fun i _ => hs _ (by decide +kernel)) (fun i _ => hs _ (by decide +kernel)) (fun i hi => by rw [show i = 0 by omega]; exact hs _ (by decide +kernel)) (fun i hi j hj => by
      obtain rfl : i = 0 := by omega
      have hj : j < 13 := hj
      rcases (show j = 0 ∨ j = 1 ∨ j = 2 ∨ j = 3 ∨ j = 4 ∨ j = 5 ∨ j = 6 ∨ j = 7 ∨ j = 8 ∨ j = 9 ∨ j = 10 ∨ j = 11 ∨ j = 12 by omega) with rfl | rfl | rfl | rfl | rfl | rfl | rfl | rfl | rfl | rfl | rfl | rfl | rfl <;> exact hs _ (by decide +kernel)) (fun i j hi hj h => absurd (show i = j by omega) h) (fun a h => Nat.not_le.mpr h)
  refine ⟨((fun k => [cX0, cX1, cX2, cX3, cX4, cX5, cX6, cX7, cX8, cX9, cX10, cX11, cX12].getD k cX0, fun k => [iX0, iX1, iX2, iX3, iX4, iX5, iX6, iX7, iX8, iX9, iX10, iX11, iX12].getD k iX0), fun k => [cI, cB, cZ, cS, cT, adK 0, adV 0].getD k cI), ⟨⟨fun k q hq => ?_, fun k q hq => ?_⟩, ?_, va_AO.of oS, va_AO.of oT, vk_R.of (hts _ (List.mem_of_getElem? (i := 506) (by decide +kernel))) (hT 0 (by omega)), va_Nw.of rfl (hts _ (List.mem_of_getElem? (i := 612) (by decide +kernel)))⟩, ?_, hZ⟩
  · match k, hq with
    | 0, hq => cases hq; exact hX0
    | 1, hq => cases hq; exact hX1
    | 2, hq => cases hq; exact hX2
    | 3, hq => cases hq; exact hX3
    | 4, hq => cases hq; exact hX4
    | 5, hq => cases hq; exact hX5
    | 6, hq => cases hq; exact hX6
    | 7, hq => cases hq; exact hX7
    | 8, hq => cases hq; exact hX8
    | 9, hq => cases hq; exact hX9
    | 10, hq => cases hq; exact hX10
    | 11, hq => cases hq; exact hX11
    | 12, hq => cases hq; exact hX12
    | k + 13, hq => simp [vwCl] at hq
  · match k, hq with
    | 0, hq => cases hq; exact ⟨fun N z => ⟨(fun k h => by cases h), kI, fI2, mI, fI3⟩, fI1⟩
    | 1, hq => cases hq; exact ⟨fun N z => ⟨(fun k h => by cases h), kB, fB2, mB, fB3⟩, fB1⟩
    | 2, hq => cases hq; exact ⟨fun N z => ⟨(fun k h => by cases h), kZ, fZ2, mZ, fZ3⟩, fZ1⟩
    | 3, hq => cases hq; exact ⟨fun N z => ⟨(fun k h => by cases h), kS, fS2, mS, fS3⟩, kS, mS, fS2, fS3, fS1, fS4⟩
    | 4, hq => cases hq; exact ⟨fun N z => ⟨(fun k h => by cases h), kT, fT2, mT, fT3⟩, kT, mT, fT2, fT3, fT1, fT4⟩
    | k + 5, hq => simp [kTy] at hq
  · intro q hq
    exact (show ∀ q ∈ kNest, va_Nw (.methodLinkNest q.1 q.2.1 q.2.2 "ScruffPaper") s from List.forall_mem_cons.mpr ⟨va_Nw.of rfl (hts _ (List.mem_of_getElem? (i := 690) (by decide +kernel))), List.forall_mem_cons.mpr ⟨va_Nw.of rfl (hts _ (List.mem_of_getElem? (i := 689) (by decide +kernel))), List.forall_mem_cons.mpr ⟨va_Nw.of rfl (hts _ (List.mem_of_getElem? (i := 447) (by decide +kernel))), List.forall_mem_cons.mpr ⟨va_Nw.of rfl (hts _ (List.mem_of_getElem? (i := 775) (by decide +kernel))), List.forall_mem_cons.mpr ⟨va_Nw.of rfl (hts _ (List.mem_of_getElem? (i := 770) (by decide +kernel))), List.forall_mem_cons.mpr ⟨va_Nw.of rfl (hts _ (List.mem_of_getElem? (i := 834) (by decide +kernel))), List.forall_mem_cons.mpr ⟨va_Nw.of rfl (hts _ (List.mem_of_getElem? (i := 833) (by decide +kernel))), List.forall_mem_cons.mpr ⟨va_Nw.of rfl (hts _ (List.mem_of_getElem? (i := 941) (by decide +kernel))), List.forall_mem_cons.mpr ⟨va_Nw.of rfl (hts _ (List.mem_of_getElem? (i := 883) (by decide +kernel))), fun _ h => absurd h List.not_mem_nil⟩⟩⟩⟩⟩⟩⟩⟩⟩) q hq
  · refine ⟨fun i hi => ?_, fun i j hi hj _ => by omega⟩
    have h := hS.1 i hi
    obtain rfl : i = 0 := by omega
    exact h
