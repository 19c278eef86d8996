section KL
variable {p : Program} {l : Launch} {e : Env} {R : Room} {s : State} {m : MethodId} {args : Array Value} {below : List Frame} {meth : Method} {c : Code} {H : Heap} {locs : List Loc} {cells slots : Nat} {Q : State → Prop} {E : kE} {A : Nat → Prop} {cc : ByteArray} {nL pc : Nat} {own : String} {ls : Array Slot} {rest : List Value} {ws : va_W}
theorem ksld {b L : Nat} {xs : Nat → Int32} (X : kC p s m c cc nL own args E A) (hX : va_X b L xs s s.heap) (hbl : b < s.heap.size) (hbA : ¬ A b) (hV : kV E A s.heap H locs ws) {i v : Int32} (hin : vp_in i L) (hv : v = xs i.toNatClampNeg) (hdg : decode cc pc = .ok (.iaload, 1))
    (kk : W p l e R s m args below meth c H locs cells slots Q (F0 m (pc + 1) ls (.int v :: rest))) : W p l e R s m args below meth c H locs cells slots Q (F0 m pc ls (.int i :: .ref b :: rest)) :=
  va_sld X.1 X.2.1 hX hbl hbA hV.2.2 hin hdg (hv ▸ kk)
end KL
theorem lgc_self (x : Int64) : lg_cmp x x = 0 := by
  unfold lg_cmp
  rw [if_neg (by simp [Int64.lt_iff_toInt_lt]), if_pos rfl]
set_option maxRecDepth 100000 in
theorem kstart {s : State} {args : Array Value} (hts : ∀ w ∈ lw_tbl, w.before args s = true) : ∃ E : kE, kX E s := by
  have hw : ∀ w ∈ wsL_law, w.before args s = true := fun w h => hts w (wsL_law_in w h)
  obtain ⟨cX0, iX0, hX0⟩ := u_known (C := RX0) (T := TX0) (N := 6) (n := 6) hw inlX0 (hw (.instantiable RX0 6) mw_35)
  obtain ⟨cX1, iX1, hX1⟩ := u_known (C := RX1) (T := TX1) (N := 4) (n := 4) hw inlX1 (hw (.instantiable RX1 4) mw_43)
  obtain ⟨cX2, iX2, hX2⟩ := u_known (C := RX2) (T := TX2) (N := 6) (n := 6) hw inlX2 (hw (.instantiable RX2 6) mw_39)
  obtain ⟨cX3, iX3, hX3⟩ := u_known (C := RX3) (T := TX3) (N := 5) (n := 5) hw inlX3 (hw (.instantiable RX3 5) mw_31)
  obtain ⟨cX4, iX4, hX4⟩ := u_known (C := RX4) (T := TX4) (N := 7) (n := 7) hw inlX4 (hw (.instantiable RX4 7) mw_25)
  obtain ⟨cX5, iX5, hX5⟩ := u_known (C := RX5) (T := TX5) (N := 2) (n := 2) hw inlX5 (hw (.instantiable RX5 2) mw_72)
  obtain ⟨cX6, iX6, hX6⟩ := u_known (C := RX6) (T := TX6) (N := 8) (n := 8) hw inlX6 (hw (.instantiable RX6 8) mw_17)
  obtain ⟨cX7, iX7, hX7⟩ := u_known (C := RX7) (T := TX7) (N := 4) (n := 4) hw inlX7 (hw (.instantiable RX7 4) mw_21)
  obtain ⟨cX8, iX8, hX8⟩ := u_known (C := RX8) (T := TX8) (N := 7) (n := 7) hw inlX8 (hw (.instantiable RX8 7) mw_182)
  obtain ⟨cX9, iX9, hX9⟩ := u_known (C := RX9) (T := TX9) (N := 2) (n := 2) hw inlX9 (hw (.instantiable RX9 2) mw_13)
  obtain ⟨cX10, iX10, hX10⟩ := u_known (C := RX10) (T := TX10) (N := 4) (n := 4) hw inlX10 (hw (.instantiable RX10 4) mw_424)
  obtain ⟨cX11, iX11, hX11⟩ := u_known (C := RX11) (T := TX11) (N := 9) (n := 9) hw inlX11 (hw (.instantiable RX11 9) mw_1)
  obtain ⟨cX12, iX12, hX12⟩ := u_known (C := RX12) (T := TX12) (N := 67) (n := 67) hw inlX12 (hw (.instantiable RX12 67) mw_4)
  obtain ⟨cI, kI, mI, fI1, fI2, fI3⟩ := Cond.arrayClass_spec (hw (.arrayClass .int) mw_50)
  obtain ⟨cB, kB, mB, fB1, fB2, fB3⟩ := Cond.arrayClass_spec (hw (.arrayClass .byte) mw_140)
  obtain ⟨cZ, kZ, mZ, fZ1, fZ2, fZ3⟩ := Cond.arrayClass_spec (hw (.arrayClass .boolean) mw_155)
  have oS : (Cond.arrayOver (.object "ScruffPaper$Source")).before args s = true := hts _ (List.mem_of_getElem? (i := 172) (by decide +kernel))
  obtain ⟨mS, cS, kS, fS1, -, fS2, fS3, fS4⟩ := Cond.arrayOver_spec oS
  have oT : (Cond.arrayOver (.object "ScruffPaper$Text")).before args s = true := hts _ (List.mem_of_getElem? (i := 238) (by decide +kernel))
  obtain ⟨mT, cT, kT, fT1, -, fT2, fT3, fT4⟩ := Cond.arrayOver_spec oT
  refine ⟨((fun k => [cX0, cX1, cX2, cX3, cX4, cX5, cX6, cX7, cX8, cX9, cX10, cX11, cX12].getD k cX0, fun k => [iX0, iX1, iX2, iX3, iX4, iX5, iX6, iX7, iX8, iX9, iX10, iX11, iX12].getD k iX0), fun k => [cI, cB, cZ, cS, cT].getD k cI), ⟨fun k q hq => ?_, fun k q hq => ?_⟩, ?_, va_AO.of oS, va_AO.of oT⟩
  · match k, hq with
    | 0, hq => cases hq; exact hX0
    | 1, hq => cases hq; exact hX1
    | 2, hq => cases hq; exact hX2
    | 3, hq => cases hq; exact hX3
    | 4, hq => cases hq; exact hX4
    | 5, hq => cases hq; exact hX5
    | 6, hq => cases hq; exact hX6
    | 7, hq => cases hq; exact hX7
    | 8, hq => cases hq; exact hX8
    | 9, hq => cases hq; exact hX9
    | 10, hq => cases hq; exact hX10
    | 11, hq => cases hq; exact hX11
    | 12, hq => cases hq; exact hX12
    | k + 13, hq => simp [vwCl] at hq
  · match k, hq with
    | 0, hq => cases hq; exact ⟨fun N z => ⟨(fun k h => by cases h), kI, fI2, mI, fI3⟩, fI1⟩
    | 1, hq => cases hq; exact ⟨fun N z => ⟨(fun k h => by cases h), kB, fB2, mB, fB3⟩, fB1⟩
    | 2, hq => cases hq; exact ⟨fun N z => ⟨(fun k h => by cases h), kZ, fZ2, mZ, fZ3⟩, fZ1⟩
    | 3, hq => cases hq; exact ⟨fun N z => ⟨(fun k h => by cases h), kS, fS2, mS, fS3⟩, kS, mS, fS2, fS3, fS1, fS4⟩
    | 4, hq => cases hq; exact ⟨fun N z => ⟨(fun k h => by cases h), kT, fT2, mT, fT3⟩, kT, mT, fT2, fT3, fT1, fT4⟩
    | k + 5, hq => simp [kTy] at hq
  · intro q hq
    exact (show ∀ q ∈ kNest, va_Nw (.methodLinkNest q.1 q.2.1 q.2.2 "ScruffPaper") s from List.forall_mem_cons.mpr ⟨va_Nw.of rfl (hts _ (List.mem_of_getElem? (i := 690) (by decide +kernel))), List.forall_mem_cons.mpr ⟨va_Nw.of rfl (hts _ (List.mem_of_getElem? (i := 689) (by decide +kernel))), List.forall_mem_cons.mpr ⟨va_Nw.of rfl (hts _ (List.mem_of_getElem? (i := 447) (by decide +kernel))), List.forall_mem_cons.mpr ⟨va_Nw.of rfl (hts _ (List.mem_of_getElem? (i := 775) (by decide +kernel))), List.forall_mem_cons.mpr ⟨va_Nw.of rfl (hts _ (List.mem_of_getElem? (i := 770) (by decide +kernel))), List.forall_mem_cons.mpr ⟨va_Nw.of rfl (hts _ (List.mem_of_getElem? (i := 834) (by decide +kernel))), List.forall_mem_cons.mpr ⟨va_Nw.of rfl (hts _ (List.mem_of_getElem? (i := 833) (by decide +kernel))), List.forall_mem_cons.mpr ⟨va_Nw.of rfl (hts _ (List.mem_of_getElem? (i := 941) (by decide +kernel))), List.forall_mem_cons.mpr ⟨va_Nw.of rfl (hts _ (List.mem_of_getElem? (i := 883) (by decide +kernel))), fun _ h => absurd h List.not_mem_nil⟩⟩⟩⟩⟩⟩⟩⟩⟩) q hq
abbrev lW (E : kE) (ad : Nat → Nat) : va_W := [((ad 0), .inr (11, [.ref (ad 1), .ref (ad 3), .ref (ad 8), .ref (ad 13), .ref (ad 21), .ref (ad 22), .ref (ad 27), .ref (ad 30), .ref (ad 38)])), ((ad 1), .inr (9, [.ref (ad 2), .int 0])), ((ad 2), .inl (E.2 0, 200, .inl (fun _ => 0))), ((ad 3), .inr (6, [.ref (ad 4), .ref (ad 5), .ref (ad 6), .ref (ad 7), .int 0, .int 0, .int 0, .int 0])), ((ad 4), .inl (E.2 0, 120, .inl (fun _ => 0))), ((ad 5), .inl (E.2 0, 13, .inl (fun _ => 0))), ((ad 6), .inl (E.2 0, 12, .inl (fun _ => 0))), ((ad 7), .inl (E.2 0, 0, .inl (fun _ => 0))), ((ad 8), .inr (7, [.ref (ad 9), .ref (ad 10), .int 0, .int 0])), ((ad 9), .inl (E.2 3, 10, .inr (.inr (.inr (.inr (fun _ => none)))))), ((ad 10), .inr (5, [.ref (ad 11), .ref (ad 12)])), ((ad 11), .inl (E.2 0, 128, .inl (fun _ => 0))), ((ad 12), .inl (E.2 0, 32, .inl (fun _ => 0))), ((ad 13), .inr (4, [.ref (ad 14), .ref (ad 15), .ref (ad 16), .ref (ad 17), .ref (ad 18), .int 0, .int (-1)])), ((ad 14), .inl (E.2 0, 1440, .inl (fun _ => 0))), ((ad 15), .inl (E.2 0, 1440, .inl (fun _ => 0))), ((ad 16), .inl (E.2 0, 1440, .inl (fun _ => 0))), ((ad 17), .inl (E.2 0, 1440, .inl (fun _ => 0))), ((ad 18), .inr (5, [.ref (ad 19), .ref (ad 20)])), ((ad 19), .inl (E.2 0, 128, .inl (fun _ => 0))), ((ad 20), .inl (E.2 0, 32, .inl (fun _ => 0))), ((ad 21), .inl (E.2 4, 4, .inr (.inr (.inr (.inr (fun _ => none)))))), ((ad 22), .inr (3, [.ref (ad 23), .ref (ad 24), .ref (ad 25), .ref (ad 26), .int 0])), ((ad 23), .inl (E.2 0, 40, .inl (fun _ => 0))), ((ad 24), .inl (E.2 0, 40, .inl (fun _ => 0))), ((ad 25), .inl (E.2 0, 40, .inl (fun _ => 0))), ((ad 26), .inl (E.2 0, 40, .inl (fun _ => 0))), ((ad 27), .inr (0, [.ref (ad 28), .ref (ad 29), .int 0, .int 0, .int (-1), .int (-1)])), ((ad 28), .inl (E.2 0, 40, .inl (fun _ => 0))), ((ad 29), .inl (E.2 0, 40, .inl (fun _ => 0))), ((ad 30), .inr (2, [.ref (ad 31), .ref (ad 32), .ref (ad 33), .ref (ad 34), .ref (ad 37), .int 0])), ((ad 31), .inl (E.2 0, 30, .inl (fun _ => 0))), ((ad 32), .inl (E.2 0, 30, .inl (fun _ => 0))), ((ad 33), .inl (E.2 0, 6, .inl (fun _ => 0))), ((ad 34), .inr (5, [.ref (ad 35), .ref (ad 36)])), ((ad 35), .inl (E.2 0, 128, .inl (fun _ => 0))), ((ad 36), .inl (E.2 0, 32, .inl (fun _ => 0))), ((ad 37), .inl (E.2 4, 6, .inr (.inr (.inr (.inr (fun _ => none)))))), ((ad 38), .inr (1, [.ref (ad 39), .ref (ad 40), .ref (ad 41), .int 0])), ((ad 39), .inl (E.2 0, 40, .inl (fun _ => 0))), ((ad 40), .inl (E.2 0, 6, .inl (fun _ => 0))), ((ad 41), .inl (E.2 0, 287, .inl (fun _ => 0))), ((ad 42), .inr (12, [.ref (ad 43), .int 0, .int 0, .int 0, .int 0, .int 0, .int 0, .ref (ad 44), .ref (ad 45), .ref (ad 46), .ref (ad 47), .ref (ad 48), .ref (ad 49), .ref (ad 50), .ref (ad 51), .ref (ad 52), .ref (ad 53), .ref (ad 54), .int 0, .int 0, .int 0, .int 0, .int 0, .int 0, .int 0, .int 0, .int 0, .ref (ad 55), .int 0, .int 0, .int 0, .int 0, .int 0, .int 0, .int 0, .int 0, .int 0, .int 0, .int 0, .int 0, .int 0, .ref (ad 56), .ref (ad 57), .ref (ad 58), .ref (ad 59), .ref (ad 60), .ref (ad 61), .ref (ad 62), .int 0, .int 0, .ref (ad 63), .ref (ad 64), .ref (ad 65), .ref (ad 66), .ref (ad 67), .ref (ad 68), .ref (ad 69), .ref (ad 70), .ref (ad 71), .ref (ad 72), .int 0, .int 0, .int 0, .ref (ad 73), .ref (ad 74), .ref (ad 75), .ref (ad 76)])), ((ad 43), .inl (E.2 1, 200, .inl (fun _ => 0))), ((ad 44), .inl (E.2 0, 20, .inl (fun _ => 0))), ((ad 45), .inl (E.2 0, 240, .inl (fun _ => 0))), ((ad 46), .inl (E.2 0, 240, .inl (fun _ => 0))), ((ad 47), .inl (E.2 0, 240, .inl (fun _ => 0))), ((ad 48), .inl (E.2 0, 2400, .inl (fun _ => 0))), ((ad 49), .inl (E.2 0, 2400, .inl (fun _ => 0))), ((ad 50), .inl (E.2 0, 12, .inl (fun _ => 0))), ((ad 51), .inl (E.2 0, 12, .inl (fun _ => 0))), ((ad 52), .inl (E.2 0, 12, .inl (fun _ => 0))), ((ad 53), .inl (E.2 0, 120, .inl (fun _ => 0))), ((ad 54), .inl (E.2 0, 120, .inl (fun _ => 0))), ((ad 55), .inl (E.2 0, 160, .inl (fun _ => 0))), ((ad 56), .inl (E.2 0, 200, .inl (fun _ => 0))), ((ad 57), .inl (E.2 2, 200, .inl (fun _ => 0))), ((ad 58), .inl (E.2 2, 10, .inl (fun _ => 0))), ((ad 59), .inl (E.2 0, 10, .inl (fun _ => 0))), ((ad 60), .inl (E.2 0, 10, .inl (fun _ => 0))), ((ad 61), .inl (E.2 0, 10, .inl (fun _ => 0))), ((ad 62), .inl (E.2 0, 10, .inl (fun _ => 0))), ((ad 63), .inl (E.2 0, 1440, .inl (fun _ => 0))), ((ad 64), .inl (E.2 0, 1440, .inl (fun _ => 0))), ((ad 65), .inl (E.2 0, 1440, .inl (fun _ => 0))), ((ad 66), .inl (E.2 0, 1440, .inl (fun _ => 0))), ((ad 67), .inl (E.2 0, 1440, .inl (fun _ => 0))), ((ad 68), .inl (E.2 0, 2, .inl (fun _ => 0))), ((ad 69), .inl (E.2 0, 40, .inl (fun _ => 0))), ((ad 70), .inl (E.2 0, 40, .inl (fun _ => 0))), ((ad 71), .inl (E.2 0, 40, .inl (fun _ => 0))), ((ad 72), .inl (E.2 0, 40, .inl (fun _ => 0))), ((ad 73), .inl (E.2 0, 30, .inl (fun _ => 0))), ((ad 74), .inl (E.2 0, 30, .inl (fun _ => 0))), ((ad 75), .inl (E.2 0, 40, .inl (fun _ => 0))), ((ad 76), .inl (E.2 0, 371, .inl (fun _ => 0)))]
