/-- what holds between two calls of the law -/
def r120 (f : Nat → Int32) : Prop := ∀ j, 0 ≤ (f j).toInt ∧ (f j).toInt ≤ 120
def IV (G : kG) (tl : Int32) (mi st : Nat → Int32) (sk no bl ni tp so rn rb rh : Int32) (code cf ct sf many mk ten : Nat → Int32) : Prop :=
  gOK G ∧ (∀ i : Nat, sk.toInt ≤ (i : Int) → i < 10 → G.1 i = none ∧ G.2 i = none) ∧ (0 ≤ tl.toInt ∧ tl.toInt ≤ 200) ∧ (∀ j, 0 ≤ (mi j).toInt ∧ (mi j).toInt ≤ 120) ∧ (∀ j, 0 ≤ (st j).toInt ∧ (st j).toInt ≤ 120) ∧ (0 ≤ sk.toInt ∧ sk.toInt ≤ 10) ∧ (0 ≤ no.toInt ∧ no.toInt ≤ 40) ∧ (0 ≤ bl.toInt ∧ bl.toInt ≤ 40) ∧ (0 ≤ ni.toInt ∧ ni.toInt ≤ 30) ∧ (0 ≤ tp.toInt ∧ tp.toInt ≤ 200) ∧ (0 ≤ so.toInt ∧ so.toInt ≤ 10) ∧ (0 ≤ rn.toInt ∧ rn.toInt ≤ 40) ∧ (0 ≤ rb.toInt ∧ rb.toInt ≤ 40) ∧ (0 ≤ rh.toInt ∧ rh.toInt ≤ 30) ∧ rOK code cf ct sf many ∧ mkOK mk ∧ (∀ j, 0 ≤ (ten j).toInt ∧ (ten j).toInt ≤ 10)
def Inv (σ : Nat → Nat → Int32) (G : kG) : Prop := IV G (σ 1 1) (σ 6) (σ 5) (σ 8 2) (σ 22 4) (σ 27 2) (σ 30 5) (σ 42 1) (σ 42 2) (σ 42 4) (σ 42 5) (σ 42 6) (σ 48) (σ 46) (σ 47) (σ 45) (σ 44) (σ 68) (σ 75)
theorem Inv_0 : Inv l0 G0 := by
  have z : (0 : Int32).toInt = 0 := by decide
  have zr : ∀ n : Int, 0 ≤ n → (0 ≤ (0 : Int32).toInt ∧ (0 : Int32).toInt ≤ n) := fun n h => by rw [z]; exact ⟨Int.le_refl _, h⟩
  refine ⟨⟨fun k t h => ?_, fun i s h => ?_⟩, fun i _ _ => ⟨rfl, rfl⟩, zr 200 (by omega), fun _ => zr 120 (by omega), fun _ => zr 120 (by omega), zr 10 (by omega), zr 40 (by omega), zr 40 (by omega), zr 30 (by omega), zr 200 (by omega), zr 10 (by omega), zr 40 (by omega), zr 40 (by omega), zr 30 (by omega), fun i hi => ⟨(zr 12 (by omega)).1, (zr 12 (by omega)).2, fun j hj => absurd hj (show ¬ (j : Int) < (0 : Int32).toInt by omega)⟩, fun _ => zr 720 (by omega), fun _ => zr 10 (by omega)⟩
  · exact nomatch h
  · exact nomatch h
