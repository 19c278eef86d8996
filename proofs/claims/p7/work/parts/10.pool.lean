/-! worlds as lists: permutations, a world with a tail -/
theorem kD_iff {A : Nat → Prop} {ws : va_W} : va_D A ws ↔ (ws.map (fun q => q.1)).Nodup ∧ ∀ q ∈ ws, A q.1 := by
  constructor
  · intro h
    refine ⟨?_, fun q hq => ?_⟩
    · rw [List.Nodup, List.pairwise_iff_getElem]
      intro i j hi hj hij e
      have hi' : i < ws.length := by simpa using hi
      have hj' : j < ws.length := by simpa using hj
      have := h.1 i j ws[i] ws[j] (List.getElem?_eq_getElem hi') (List.getElem?_eq_getElem hj') (by simpa using e)
      omega
    · obtain ⟨i, hi⟩ := List.mem_iff_getElem?.mp hq
      exact h.2 i q hi
  · intro h
    refine ⟨fun i j p q hp hq e => ?_, fun k q hq => h.2 q (List.mem_of_getElem? hq)⟩
    obtain ⟨hi, rfl⟩ := List.getElem?_eq_some_iff.mp hp
    obtain ⟨hj, rfl⟩ := List.getElem?_eq_some_iff.mp hq
    have hn := h.1
    rw [List.Nodup, List.pairwise_iff_getElem] at hn
    rcases Nat.lt_trichotomy i j with c | c | c
    · exact absurd (by rw [List.getElem_map, List.getElem_map]; exact e) (hn i j (by simpa using hi) (by simpa using hj) c)
    · exact c
    · exact absurd (by rw [List.getElem_map, List.getElem_map]; exact e.symm) (hn j i (by simpa using hj) (by simpa using hi) c)
theorem kP_iff {D : va_G} {ws : va_W} {H : Heap} : va_P D vwCl ws H ↔ ∀ q ∈ ws, va_at D vwCl q H :=
  ⟨fun h q hq => by obtain ⟨i, hi⟩ := List.mem_iff_getElem?.mp hq; exact h i q hi, fun h _ q hq => h q (List.mem_of_getElem? hq)⟩
section KPerm
variable {E : kE} {A : Nat → Prop} {H0 H : Heap} {locs : List Loc} {ws ws' X Y P : va_W}
theorem kV.perm (h : kV E A H0 H locs ws) (hp : List.Perm ws ws') : kV E A H0 H locs ws' := by
  refine ⟨kP_iff.mpr (fun q hq => kP_iff.mp h.1 q (hp.mem_iff.mpr hq)), kD_iff.mpr ⟨?_, fun q hq => (kD_iff.mp h.2.1).2 q (hp.mem_iff.mpr hq)⟩, h.2.2⟩
  exact (hp.map (fun q => q.1)).nodup_iff.mp (kD_iff.mp h.2.1).1
theorem kV.subl (h : kV E A H0 H locs ws) (hp : List.Sublist ws' ws) : kV E A H0 H locs ws' :=
  ⟨kP_iff.mpr (fun q hq => kP_iff.mp h.1 q (hp.mem hq)), kD_iff.mpr ⟨(kD_iff.mp h.2.1).1.sublist (hp.map _), fun q hq => (kD_iff.mp h.2.1).2 q (hp.mem hq)⟩, h.2.2⟩
theorem kV.swap (h : kV E A H0 H locs ((X ++ Y) ++ P)) : kV E A H0 H locs ((X ++ P) ++ Y) := by
  refine h.perm ?_
  rw [List.append_assoc, List.append_assoc]
  exact List.Perm.append_left X List.perm_append_comm
theorem kV.subP (h : kV E A H0 H locs (X ++ P)) (is : List Nat) (hn : va_nd is = true) (hs : is.map (fun i => X[i]?) = Y.map some) : kV E A H0 H locs (Y ++ P) := by
  have hX : kV E A H0 H locs X := h.subl (List.sublist_append_left X P)
  have hY : kV E A H0 H locs Y := hX.sub is hn hs
  have hm : ∀ q ∈ Y, q ∈ X := fun q hq => by
    obtain ⟨k, hk⟩ := List.mem_iff_getElem?.mp hq
    obtain ⟨i, -, hi⟩ := kkey hs k q hk
    exact List.mem_of_getElem? hi
  have h1 := kD_iff.mp h.2.1
  have h2 := kD_iff.mp hY.2.1
  have h3 := h1.1
  rw [List.map_append, List.nodup_append] at h3
  refine ⟨kP_iff.mpr (fun q hq => ?_), kD_iff.mpr ⟨?_, fun q hq => ?_⟩, h.2.2⟩
  · rcases List.mem_append.mp hq with c | c
    · exact kP_iff.mp hY.1 q c
    · exact kP_iff.mp h.1 q (List.mem_append_right _ c)
  · rw [List.map_append, List.nodup_append]
    refine ⟨h2.1, h3.2.1, fun a ha b hb => ?_⟩
    obtain ⟨q, hq, rfl⟩ := List.mem_map.mp ha
    exact h3.2.2 _ (List.mem_map_of_mem (hm q hq)) b hb
  · rcases List.mem_append.mp hq with c | c
    · exact h2.2 q c
    · exact h1.2 q (List.mem_append_right _ c)
end KPerm
theorem krg {α : Type} (X Y : List α) : (List.range X.length).map (fun i => (X ++ Y)[i]?) = X.map some := by
  apply List.ext_getElem?
  intro i
  by_cases h : i < X.length
  · simp [h, List.getElem?_append_left h]
  · simp [h, Nat.not_lt.mp h]
theorem krg2 {α : Type} (X Y : List α) : ((List.range Y.length).map (fun i => X.length + i)).map (fun i => (X ++ Y)[i]?) = Y.map some := by
  apply List.ext_getElem?
  intro i
  by_cases h : i < Y.length
  · simp [h]
  · simp [h, Nat.not_lt.mp h]
theorem kfm {α : Type} {is : List Nat} {f : Nat → Option α} {L : List α} (h : is.map f = L.map some) : is.filterMap f = L := by
  have : (is.map f).filterMap id = (L.map some).filterMap id := by rw [h]
  simpa [List.filterMap_map, Function.comp_def] using this
theorem knd {is : List Nat} (h : is.Nodup) : va_nd is = true := by
  induction is with
  | nil => rfl
  | cons a l ih =>
    obtain ⟨h1, h2⟩ := List.nodup_cons.mp h
    simp [va_nd, ih h2, h1]
theorem kndR (n : Nat) : va_nd (List.range n) = true := knd List.nodup_range
theorem kndR2 (m n : Nat) : va_nd ((List.range n).map (fun i => m + i)) = true := knd ((List.nodup_range).map (f := fun i => m + i) (fun a b h => by
  intro e; exact h (by omega)))
theorem kdisR (m n : Nat) : ∀ i ∈ (List.range n).map (fun i => m + i), i ∉ List.range m := by
  intro i hi h
  obtain ⟨j, -, rfl⟩ := List.mem_map.mp hi
  have := List.mem_range.mp h
  omega
/-! the pool: the sources and the texts that are held -/
/-- a text: the addresses of itself and its three rows; its clauses; the rows with their lengths -/
abbrev kTx : Type := (Nat × Nat × Nat × Nat) × Int32 × (Nat × (Nat → Int32)) × (Nat × (Nat → Int32)) × (Nat × (Nat → Int32))
/-- a source: its address, number, star, minute, wide, shape, weekdays -/
abbrev kSr : Type := Nat × Int32 × Int32 × Int32 × Int32 × Int32 × Int32
abbrev kG : Type := (Nat → Option kSr) × (Nat → Option kTx)
abbrev kta (t : kTx) : Nat := t.1.1
def ksc (s : kSr) (law : Option Nat) : Nat × va_E := (s.1, .inr (8, [.int s.2.1, .int s.2.2.1, .int s.2.2.2.1, .int s.2.2.2.2.1, .int s.2.2.2.2.2.1, .int s.2.2.2.2.2.2, va_rf law]))
def ktc (E : kE) (t : kTx) : va_W := [(t.1.1, .inr (10, [.int t.2.1, .ref t.1.2.1, .ref t.1.2.2.1, .ref t.1.2.2.2])), (t.1.2.1, .inl (E.2 0, t.2.2.1.1, .inl t.2.2.1.2)), (t.1.2.2.1, .inl (E.2 0, t.2.2.2.1.1, .inl t.2.2.2.1.2)), (t.1.2.2.2, .inl (E.2 0, t.2.2.2.2.1, .inl t.2.2.2.2.2))]
def koc {α : Type} (o : Option α) (f : α → va_W) : va_W := match o with
  | none => []
  | some a => f a
def kPS (G : kG) (L : List Nat) : va_W := L.flatMap (fun i => koc (G.1 i) (fun s => [ksc s ((G.2 i).map kta)]))
def kPT (E : kE) (G : kG) (L : List Nat) : va_W := L.flatMap (fun k => koc (G.2 k) (ktc E))
def kpool (E : kE) (G : kG) : va_W := kPS G (List.range 10) ++ kPT E G (List.range 20)
/-- without text k; without source i and its law -/
def kpoolT (E : kE) (G : kG) (k : Nat) : va_W := kPS G (List.range 10) ++ kPT E G ((List.range 20).erase k)
def kpoolS (E : kE) (G : kG) (i : Nat) : va_W := kPS G ((List.range 10).erase i) ++ kPT E G ((List.range 20).erase i)
def kuT (G : kG) (k : Nat) (t : kTx) : kG := (G.1, fun j => if j = k then some t else G.2 j)
def kuS (G : kG) (i : Nat) (s : kSr) : kG := (fun j => if j = i then some s else G.1 j, G.2)
/-- the rows of references -/
abbrev kgS (G : kG) : Nat → Option Nat := fun i => (G.1 i).map (fun s => s.1)
abbrev kgW (G : kG) : Nat → Option Nat := fun k => (G.2 (10 + k)).map kta
abbrev kgT (G : kG) : Nat → Option Nat := fun k => (G.2 (14 + k)).map kta
theorem kfl {f : Nat → va_W} {L : List Nat} {k : Nat} (h : k ∈ L) : List.Perm (L.flatMap f) (f k ++ (L.erase k).flatMap f) := (List.perm_cons_erase h).flatMap_right f
theorem kpool_T (E : kE) (G : kG) {k : Nat} (hk : k < 20) : List.Perm (kpool E G) (koc (G.2 k) (ktc E) ++ kpoolT E G k) := by
  have h := kfl (f := fun k => koc (G.2 k) (ktc E)) (List.mem_range.mpr hk)
  refine (List.Perm.append_left (kPS G (List.range 10)) h).trans ?_
  unfold kpoolT
  rw [← List.append_assoc, ← List.append_assoc]
  exact List.Perm.append_right _ List.perm_append_comm
theorem kpool_S (E : kE) (G : kG) {i : Nat} (hi : i < 10) : List.Perm (kpool E G) ((koc (G.1 i) (fun s => [ksc s ((G.2 i).map kta)]) ++ koc (G.2 i) (ktc E)) ++ kpoolS E G i) := by
  have h1 := kfl (f := fun i => koc (G.1 i) (fun s => [ksc s ((G.2 i).map kta)])) (List.mem_range.mpr hi)
  have h2 := kfl (f := fun k => koc (G.2 k) (ktc E)) (List.mem_range.mpr (show i < 20 by omega))
  refine (h1.append h2).trans ?_
  unfold kpoolS
  show List.Perm ((_ ++ kPS G ((List.range 10).erase i)) ++ (_ ++ kPT E G ((List.range 20).erase i))) _
  rw [List.append_assoc, List.append_assoc]
  refine List.Perm.append_left _ ?_
  rw [← List.append_assoc, ← List.append_assoc]
  exact List.Perm.append_right _ List.perm_append_comm
theorem kne {L : List Nat} (hL : L.Nodup) {k j : Nat} (h : j ∈ L.erase k) : j ≠ k := fun e => by
  rw [hL.mem_erase_iff] at h
  exact h.1 e
theorem kfc {f g : Nat → va_W} {L : List Nat} (h : ∀ j ∈ L, f j = g j) : L.flatMap f = L.flatMap g := by
  induction L with
  | nil => rfl
  | cons a l ih =>
    rw [List.flatMap_cons, List.flatMap_cons, h a List.mem_cons_self, ih (fun j hj => h j (List.mem_cons_of_mem _ hj))]
theorem kpoolT_u (E : kE) (G : kG) {k : Nat} (hk : 10 ≤ k) (t : kTx) : kpoolT E (kuT G k t) k = kpoolT E G k := by
  unfold kpoolT kPS kPT
  congr 1
  · refine kfc (fun j hj => ?_)
    have : j < 10 := List.mem_range.mp hj
    simp [kuT, show j ≠ k by omega]
  · refine kfc (fun j hj => ?_)
    simp [kuT, kne List.nodup_range hj]
theorem kpoolS_uT (E : kE) (G : kG) (i : Nat) (t : kTx) : kpoolS E (kuT G i t) i = kpoolS E G i := by
  unfold kpoolS kPS kPT
  congr 1
  · refine kfc (fun j hj => ?_)
    simp [kuT, kne List.nodup_range hj]
  · refine kfc (fun j hj => ?_)
    simp [kuT, kne List.nodup_range hj]
theorem kpoolS_uS (E : kE) (G : kG) (i : Nat) (s : kSr) : kpoolS E (kuS G i s) i = kpoolS E G i := by
  unfold kpoolS kPS kPT
  congr 1
  refine kfc (fun j hj => ?_)
  simp [kuS, kne List.nodup_range hj]
section KPool
variable {E : kE} {A : Nat → Prop} {H0 H : Heap} {locs : List Loc} {X P : va_W} {G : kG}
theorem kV.permR {P' : va_W} (h : kV E A H0 H locs (X ++ P)) (hp : List.Perm P P') : kV E A H0 H locs (X ++ P') := h.perm (List.Perm.append_left X hp)
theorem kopT {k : Nat} {t : kTx} (hk : k < 20) (ht : G.2 k = some t) (h : kV E A H0 H locs (X ++ kpool E G)) : kV E A H0 H locs ((X ++ ktc E t) ++ kpoolT E G k) := by
  have h1 := kpool_T E G hk
  rw [ht] at h1
  rw [List.append_assoc]
  exact h.permR h1
theorem kclT {k : Nat} {t : kTx} (hk : k < 20) (ht : G.2 k = some t) (h : kV E A H0 H locs ((X ++ ktc E t) ++ kpoolT E G k)) : kV E A H0 H locs (X ++ kpool E G) := by
  have h1 := kpool_T E G hk
  rw [ht] at h1
  rw [List.append_assoc] at h
  exact h.permR h1.symm
/-- a new text at k -/
theorem kclT' {k : Nat} {t : kTx} (hk : k < 20) (h10 : 10 ≤ k) (h : kV E A H0 H locs ((X ++ ktc E t) ++ kpoolT E G k)) : kV E A H0 H locs (X ++ kpool E (kuT G k t)) := by
  have h1 := kpool_T E (kuT G k t) hk
  rw [kpoolT_u E G h10, show (kuT G k t).2 k = some t by simp [kuT]] at h1
  rw [List.append_assoc] at h
  exact h.permR h1.symm
theorem kdrT {k : Nat} (hk : k < 20) (h : kV E A H0 H locs (X ++ kpool E G)) : kV E A H0 H locs (X ++ kpoolT E G k) := by
  have h1 := h.permR (kpool_T E G hk)
  refine h1.subl (List.Sublist.append_left (List.sublist_append_right _ _) X)
/-- source i without a law; with one -/
theorem kopS {i : Nat} {s : kSr} (hi : i < 10) (hs : G.1 i = some s) (ht : G.2 i = none) (h : kV E A H0 H locs (X ++ kpool E G)) : kV E A H0 H locs ((X ++ [ksc s none]) ++ kpoolS E G i) := by
  have h1 := kpool_S E G hi
  rw [hs, ht] at h1
  rw [List.append_assoc]
  exact h.permR h1
theorem kclS {i : Nat} {s : kSr} (hi : i < 10) (hs : G.1 i = some s) (ht : G.2 i = none) (h : kV E A H0 H locs ((X ++ [ksc s none]) ++ kpoolS E G i)) : kV E A H0 H locs (X ++ kpool E G) := by
  have h1 := kpool_S E G hi
  rw [hs, ht] at h1
  rw [List.append_assoc] at h
  exact h.permR h1.symm
theorem kopL {i : Nat} {s : kSr} {t : kTx} (hi : i < 10) (hs : G.1 i = some s) (ht : G.2 i = some t) (h : kV E A H0 H locs (X ++ kpool E G)) : kV E A H0 H locs ((X ++ (ksc s (some (kta t)) :: ktc E t)) ++ kpoolS E G i) := by
  have h1 := kpool_S E G hi
  rw [hs, ht] at h1
  rw [List.append_assoc]
  exact h.permR h1
theorem kclL {i : Nat} {s : kSr} {t : kTx} (hi : i < 10) (hs : G.1 i = some s) (ht : G.2 i = some t) (h : kV E A H0 H locs ((X ++ (ksc s (some (kta t)) :: ktc E t)) ++ kpoolS E G i)) : kV E A H0 H locs (X ++ kpool E G) := by
  have h1 := kpool_S E G hi
  rw [hs, ht] at h1
  rw [List.append_assoc] at h
  exact h.permR h1.symm
/-- source i alone, its law's text put away -/
theorem kdrL {i : Nat} {s : kSr} (hi : i < 10) (hs : G.1 i = some s) (h : kV E A H0 H locs (X ++ kpool E G)) : kV E A H0 H locs ((X ++ [ksc s ((G.2 i).map kta)]) ++ kpoolS E G i) := by
  have h1 := h.permR (kpool_S E G hi)
  rw [hs] at h1
  rw [List.append_assoc]
  refine h1.subl (List.Sublist.append_left ?_ X)
  exact List.Sublist.append_right (List.sublist_append_left _ _) _
theorem kclL' {i : Nat} {s : kSr} {t : kTx} (hi : i < 10) (hs : G.1 i = some s) (h : kV E A H0 H locs ((X ++ (ksc s (some (kta t)) :: ktc E t)) ++ kpoolS E G i)) : kV E A H0 H locs (X ++ kpool E (kuT G i t)) := by
  have h1 := kpool_S E (kuT G i t) hi
  rw [kpoolS_uT, show (kuT G i t).2 i = some t by simp [kuT], show (kuT G i t).1 i = some s from hs] at h1
  rw [List.append_assoc] at h
  exact h.permR h1.symm
theorem kadS {i : Nat} {s : kSr} (hi : i < 10) (hs : G.1 i = none) (ht : G.2 i = none) (h : kV E A H0 H locs ((X ++ [ksc s none]) ++ kpool E G)) : kV E A H0 H locs (X ++ kpool E (kuS G i s)) := by
  have h1 := kpool_S E (kuS G i s) hi
  rw [kpoolS_uS, show (kuS G i s).1 i = some s by simp [kuS], show (kuS G i s).2 i = none from ht] at h1
  have h2 := kpool_S E G hi
  rw [hs, ht] at h2
  have h3 := h.permR h2
  rw [List.append_assoc] at h3
  exact h3.permR h1.symm
end KPool
