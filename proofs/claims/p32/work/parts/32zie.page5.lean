/-! a source's height by the class alone; the page that is kept -/
def isHc (G : kG) (sd : Int32) (bs mo wi wd : Nat → Int32) (s : Nat) (p2 p3 h : Int32) : Prop :=
  (∀ x : kTx, G.2 s = some x → ∀ Lt vals : Nat → Int32, LtS Lt → Sf (hOfC sd bs mo wi wd x.2 Lt vals s p2 p3) (fun y => y.1 = h ∧ LtS y.2.1)) ∧ (G.2 s = none → h = 0)
theorem isH_c {G : kG} {sd : Int32} {bs mo wi wd code ca cf ct sf many : Nat → Int32} {s : Nat} {p2 p3 h : Int32} (hh : isH G sd bs mo wi wd code ca cf ct sf many s p2 p3 h) : isHc G sd bs mo wi wd s p2 p3 h := ⟨hh.2.2.1, fun w => hh.2.2.2 (Or.inl w)⟩
theorem isHc_uni {G : kG} {sd : Int32} {bs mo wi wd : Nat → Int32} {s : Nat} {p2 p3 h h' : Int32} (a : isHc G sd bs mo wi wd s p2 p3 h) (b : isHc G sd bs mo wi wd s p2 p3 h') : h = h' := by
  cases e : G.2 s with
  | none => rw [a.2 e, b.2 e]
  | some x =>
    obtain ⟨y, e1, h1, -⟩ := a.1 x e (fun _ => 0) (fun _ => 0) LtS_z
    have h2 := (Sf_det e1 (b.1 x e (fun _ => 0) (fun _ => 0) LtS_z)).1
    rw [← h1, h2]
theorem isHc_G {G G' : kG} {sd : Int32} {bs mo wi wd : Nat → Int32} {s : Nat} {p2 p3 h : Int32} (a : isHc G sd bs mo wi wd s p2 p3 h) (e : G'.2 s = G.2 s) : isHc G' sd bs mo wi wd s p2 p3 h := ⟨fun x hx => a.1 x (by rw [← e]; exact hx), fun w => a.2 (by rw [← e]; exact w)⟩
def HHc (G : kG) (sd : Int32) (bs mo wi wd : Nat → Int32) (n : Nat) (d : Int32) (HH : Nat → Nat → Int32) : Prop := ∀ s, s < n → ∀ m, m < 1440 → isHc G sd bs mo wi wd s d (nI m) (HH s m)
theorem pSum_congr {H H' sh : Nat → Int32} : ∀ n : Nat, (∀ s, s < n → H s = H' s) → pSum H sh n = pSum H' sh n := by
  intro n
  induction n with
  | zero => intro _; rfl
  | succ n ih =>
    intro h
    show pAdd (pSum H sh n) (H n) (sh n) = pAdd (pSum H' sh n) (H' n) (sh n)
    rw [ih (fun s hs => h s (by omega)), h n (by omega)]
theorem isPage_uni {G : kG} {sd : Int32} {bs mo wi wd sh : Nat → Int32} {n : Nat} {d : Int32} {HH HH' : Nat → Nat → Int32} {he hi sp : Nat → Int32} (a : HHc G sd bs mo wi wd n d HH) (b : HHc G sd bs mo wi wd n d HH') (h : isPage HH sh n he hi sp) : isPage HH' sh n he hi sp := fun m hm => by
  rw [h m hm]
  exact pSum_congr n (fun s hs => isHc_uni (a s hs m hm) (b s hs m hm))
/-- the page that is kept is the page of its day -/
def PGo (G : kG) (so sd : Int32) (bs mo wi sh wd : Nat → Int32) (dy : Int32) (he hi sp : Nat → Int32) : Prop := ∀ (n : Nat) (HH : Nat → Nat → Int32), nI n = so → n ≤ 10 → 0 ≤ dy.toInt ∧ dy.toInt ≤ 399 → HHc G sd bs mo wi wd n dy HH → isPage HH sh n he hi sp
theorem PGo_no {G : kG} {so sd dy : Int32} {bs mo wi sh wd he hi sp : Nat → Int32} (h : dy.toInt = -1) : PGo G so sd bs mo wi sh wd dy he hi sp := fun n HH _ _ w _ => by omega
theorem PGo_G {G G' : kG} {so sd dy : Int32} {bs mo wi sh wd he hi sp : Nat → Int32} (h : PGo G so sd bs mo wi sh wd dy he hi sp) (e : ∀ s, s < 10 → G'.2 s = G.2 s) : PGo G' so sd bs mo wi sh wd dy he hi sp := fun n HH h1 h2 h3 h4 => h n HH h1 h2 h3 (fun s hs m hm => isHc_G (h4 s hs m hm) (e s (by omega)).symm)
section PP
variable {G : kG} {so sd : Int32} {bs mo wi sh wd code ca cf ct sf many : Nat → Int32} {d : Int32}
/-- lay keeps the page, and gives the day's -/
theorem lay_pg {rd dy : Int32} {he hi sp Lt vals : Nat → Int32} (hk0 : 0 ≤ so.toInt) (hk1 : so.toInt ≤ 10) (hsd : 0 ≤ sd.toInt ∧ sd.toInt ≤ 999) (hsrc : SRC G so bs mo wi sh wd) (hT : TX G code ca cf ct sf many) (hd : 0 ≤ d.toInt ∧ d.toInt ≤ 399) (hL : LtS Lt) (hP : PGo G so sd bs mo wi sh wd dy he hi sp) :
    ∃ (n : Nat) (HH : Nat → Nat → Int32), nI n = so ∧ n ≤ 10 ∧ HHs G sd bs mo wi wd code ca cf ct sf many n d HH ∧ Sf (f_X7_lay G so sd rd dy he hi sp Lt vals d) (fun y => y.2.1 = d ∧ LtS y.2.2.2.2.2.1 ∧ isPage HH sh n y.2.2.1 y.2.2.2.1 y.2.2.2.2.1 ∧ PGo G so sd bs mo wi sh wd d y.2.2.1 y.2.2.2.1 y.2.2.2.2.1 ∧ ((dy = d ∧ y.1 = rd) ∨ (¬ dy = d ∧ y.1 = 0))) := by
  have ht := tN so hk0
  have hn : nI so.toNatClampNeg = so := i32_eq (by rw [nI_toInt (by omega)]; omega)
  obtain ⟨HH, hH⟩ := HH_ex (n := so.toNatClampNeg) hk1 hsd hsrc hT hd (by omega)
  have hc : HHc G sd bs mo wi wd so.toNatClampNeg d HH := fun s hs m hm => isH_c (hH s hs m hm)
  refine ⟨so.toNatClampNeg, HH, hn, by omega, hH, ?_⟩
  refine Sf_mono (lay_e (rd := rd) (dy := dy) (he := he) (hi := hi) (sp := sp) (Lt := Lt) (vals := vals) (by omega) hn hsrc hd hH hL (fun e => by subst e; exact hP _ HH hn (by omega) hd hc)) (fun y hy => ⟨hy.1, hy.2.1, hy.2.2.1, fun n' HH' h1 h2 _ h4 => ?_, hy.2.2.2⟩)
  have e : n' = so.toNatClampNeg := (nI_eq (by omega) (by omega)).mp (h1.trans hn.symm)
  subst e
  exact isPage_uni hc h4 hy.2.2.1
theorem looks_e {n : Nat} {HH : Nat → Nat → Int32} {m : Nat} {a1 a2 a3 a4 a5 a6 a7 a8 a9 a10 a11 a12 a13 ph ps : Int32} {rf wo : Nat → Int32} (hn : nI n = so) (hk : n ≤ 10) (hm : m < 1440) (hH : HHs G sd bs mo wi wd code ca cf ct sf many n d HH) : Sf (f_X12_looks so sd a1 a2 a3 a4 a5 a6 a7 a8 a9 a10 a11 a12 a13 ph ps bs code ca cf ct rf many mo sh sf wd wi wo d (nI m)) (fun z => z.2.2.2.2.2.2.2.2.2.2.2.2.2.1 = (pSum (fun s => HH s m) sh n).1 ∧ z.2.2.2.2.2.2.2.2.2.2.2.2.2.2.1 = (pSum (fun s => HH s m) sh n).2.2) := by
  obtain ⟨f, hf⟩ : ∃ f, FU = f + n + 1 := ⟨FU - n - 1, by have := FU_ge; omega⟩
  have h := looks_L (sh := sh) (H := fun s => HH s m) hk (fun s hs => hH s hs m hm) n 0 f a1 a2 a3 a4 a5 a6 a7 a8 a9 a10 a11 a12 a13 rf wo (by omega)
  rw [← hf, nI_0, hn] at h
  rw [f_X12_looks]
  exact h
end PP
