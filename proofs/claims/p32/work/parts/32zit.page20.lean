/-! what the readers marked is kept by every step -/
theorem isDc_G {G G' : kG} {k : Nat} {d : Int32} {he sp : Nat → Int32} {D : Nat → Nat → Bool} (h : isDc G k d he sp D) (e : G'.2 (10 + k) = G.2 (10 + k)) : isDc G' k d he sp D := fun m hm t => ⟨fun x hx => (h m hm t).1 x (by rw [← e]; exact hx), fun w => (h m hm t).2 (by rw [← e]; exact w)⟩
theorem PMo_G {G G' : kG} {rd dy : Int32} {he sp mk : Nat → Int32} (h : PMo G rd dy he sp mk) (e : ∀ k, k < 4 → G'.2 (10 + k) = G.2 (10 + k)) : PMo G' rd dy he sp mk := fun k hk hb hd D hD => h k hk hb hd D (isDc_G hD (e k hk).symm)
theorem kGS_2 {G G' : kG} {q : Option (Nat × Int32 × Int32 × Int32 × Int32 × Int32 × Int32)} (hG : kGS G q G') : G'.2 = G.2 := by
  cases q with
  | none =>
    have e : G' = G := hG
    rw [e]
  | some q =>
    obtain ⟨a, e⟩ := hG
    rw [e]
    rfl
theorem PMo_src {G G' : kG} {pd sk y1 y2 y3 y4 y5 rx pd' sk' rd : Int32} {nt : Option (Nat × Int32 × Int32 × Int32 × Int32 × Int32 × Int32)} {he sp mk : Nat → Int32} (ex : f_X11_source G pd sk y1 y2 y3 y4 y5 = some (rx, pd', sk', nt)) (h1 : 0 ≤ sk.toInt ∧ sk.toInt ≤ 10) (hy : y1.toInt = 0 ∨ y1.toInt = 1) (h2 : ∀ i : Nat, sk.toInt ≤ (i : Int) → i < 10 → G.1 i = none ∧ G.2 i = none) (hG : kGS G nt G') (hM : PMo G rd pd he sp mk) : PMo G' rd pd' he sp mk := by
  have px := Sf_det ex (e_X11_source G pd sk y1 y2 y3 y4 y5 h1.1 h1.2 hy h2)
  dsimp only at px
  rcases px with ⟨-, -, -, a4, -⟩ | ⟨-, -, -, a4, -⟩
  · subst a4
    exact PMo_G hM (fun k _ => by rw [kGS_2 hG])
  · exact PMo_no a4
theorem PMo_seed {G : kG} {rd dy pd' a b : Int32} {he sp mk : Nat → Int32} (hM : PMo G rd dy he sp mk) (h : pd'.toInt = -1 ∨ (pd' = dy ∧ a = b)) : PMo G rd pd' he sp mk := by
  rcases h with e | ⟨e, -⟩
  · exact PMo_no e
  · rw [e]; exact hM
theorem PMo_law {G G' : kG} {nt : Option (Nat × kTv)} {rd dy dy' : Int32} {he sp mk : Nat → Int32} (hM : PMo G rd dy he sp mk) (hd : dy'.toInt = -1 ∨ (dy' = dy ∧ nt = none)) (hG : kGT G nt G') : PMo G' rd dy' he sp mk := by
  rcases hd with e | ⟨e1, e2⟩
  · exact PMo_no e
  · subst e2
    have e : G' = G := hG
    rw [e, e1]
    exact hM
theorem kGT_n {G G' : kG} {nt : Option (Nat × kTv)} {s : Nat} (hq : ∀ q, nt = some q → ¬ s = q.1) (hG : kGT G nt G') : G'.2 s = G.2 s := by
  cases nt with
  | none =>
    have e : G' = G := hG
    rw [e]
  | some q =>
    obtain ⟨ta, e⟩ := hG
    have h := hq q rfl
    rw [e]
    show (if s = q.1 then some (ta, q.2) else G.2 s) = G.2 s
    rw [if_neg h]
theorem way_rd {G : kG} {rd len at0 us fa tl p1 p2 : Int32} {co md sta tb0 : Nat → Int32} : Pt (f_X11_way G rd len at0 us fa tl co md sta tb0 p1 p2) (fun y => (y.2.1 = rd ∧ y.2.2.2.2.2.2.2.2.2.2 = none) ∨ ∃ k : Nat, k < 4 ∧ y.2.1 = rd &&& (jshl 1 (nI k) ^^^ (-1)) ∧ ∀ q, y.2.2.2.2.2.2.2.2.2.2 = some q → q.1 = 10 + k) := by
  have l0 : (0 : Int32).toInt = 0 := by decide
  rw [f_X11_way]
  refine Pt_cb1S (s_X11_isReader p1) (fun r hr => Pt_iteH (fun _ => Pt_some (Or.inl ⟨rfl, rfl⟩)) (fun g => Pt_cb1 (fun _ => Pt_ite (Pt_some (Or.inl ⟨rfl, rfl⟩)) ?_)))
  have g := neI g
  have hr := hr.2
  have tk := tN p1 (by omega)
  have hp : nI p1.toNatClampNeg = p1 := i32_eq (by rw [nI_toInt (by omega)]; omega)
  intro y hy
  obtain ⟨v1, v2, v3, v4, v5, v6, v7, v8, -, e⟩ := cb8_s hy
  rcases oN_s e with ⟨-, e⟩ | ⟨v, -, e⟩
  · obtain ⟨w1, -, e⟩ := cb1_s e
    obtain ⟨w2, -, e⟩ := cb1_s e
    cases e
    exact Or.inl ⟨rfl, rfl⟩
  · obtain ⟨w1, -, e⟩ := cb1_s e
    obtain ⟨w2, ef, e⟩ := cb1_s e
    rw [f_X4_forgetReader, nmI_o] at ef
    cases ef
    have e := (gdN_s e).2
    cases e
    refine Or.inr ⟨p1.toNatClampNeg, by omega, ?_, fun q hq => ?_⟩
    · rw [hp]
    · cases hq; rfl
theorem PMo_way {G G' : kG} {nt : Option (Nat × kTv)} {rd rd' dy : Int32} {he sp mk : Nat → Int32} (hM : PMo G rd dy he sp mk) (h : (rd' = rd ∧ nt = none) ∨ ∃ k : Nat, k < 4 ∧ rd' = rd &&& (jshl 1 (nI k) ^^^ (-1)) ∧ ∀ q, nt = some q → q.1 = 10 + k) (hG : kGT G nt G') : PMo G' rd' dy he sp mk := by
  rcases h with ⟨e1, e2⟩ | ⟨k, hk, e, hq⟩
  · subst e2
    have e : G' = G := hG
    rw [e, e1]
    exact hM
  · intro j hj hb hd D hD
    rw [e, tb_cl hk hj, Bool.and_eq_true] at hb
    have hjk : ¬ j = k := fun c => by rw [decide_eq_true c] at hb; cases hb.2
    exact hM j hj hb.1 hd D (isDc_G hD (kGT_n (fun q h => by rw [hq q h]; omega) hG).symm)
theorem paper_pm {G : kG} {so sd rd dy p1 p2 p3 : Int32} {bs mo wi sh wd code ca cf ct sf many he hi mk sp Lt vals : Nat → Int32} (hk0 : 0 ≤ so.toInt) (hk1 : so.toInt ≤ 10) (hsd : 0 ≤ sd.toInt ∧ sd.toInt ≤ 999) (hsrc : SRC G so bs mo wi sh wd) (hT : TX G code ca cf ct sf many) (hL : LtS Lt) (hP : PGo G so sd bs mo wi sh wd dy he hi sp) (hM : PMo G rd dy he sp mk) : Pt (f_X11_paper G rd dy so sd he hi sp Lt vals p1 p2 p3) (fun y => PMo G y.2.1 y.2.2.1 y.2.2.2.1 y.2.2.2.2.2.1 mk) := by
  have l0 : (0 : Int32).toInt = 0 := by decide
  rw [f_X11_paper]
  refine Pt_cb1S (s_X11_isDay p1) (fun r hr => Pt_iteH (fun _ => Pt_some hM) (fun g => Pt_cb1 (fun _ => Pt_ite (Pt_some hM) (Pt_cb1 (fun _ => Pt_ite (Pt_some hM) ?_)))))
  have g := neI g
  have hr := hr.2
  obtain ⟨n, HH, -, -, -, hlay⟩ := lay_all (rd := rd) (vals := vals) (d := p1) hk0 hk1 hsd hsrc hT (by omega) hL hP hM
  refine Pt_cb7R (R := fun y => PMo G y.1 y.2.1 y.2.2.1 y.2.2.2.2.1 mk) (fun y hy => ?_) (fun _ _ _ _ _ _ _ h => Pt_ite (Pt_rdI (fun _ => Pt_some h)) (Pt_rdI (fun _ => Pt_some h)))
  have h := Sf_det hy hlay
  show PMo G y.1 y.2.1 y.2.2.1 y.2.2.2.2.1 mk
  rw [h.1]
  exact h.2.2.2.2
