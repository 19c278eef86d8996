theorem dq_bind {α β : Type} (r : Decoder α) (f : α → Decoder β) (b : ByteArray) (p : Nat) : Reader.runAt (r >>= f) b p = Except.bind (Reader.runAt r b p) (fun y => Reader.runAt (f y.1) b y.2) := rfl
theorem dq_u1 (b : ByteArray) (p : Nat) (h : p < b.size) : Reader.runAt (Reader.u1 : Decoder Nat) b p = .ok ((b[p]'h).toNat, p + 1) := by
  have e : Reader.runAt (Reader.u1 : Decoder Nat) b p = Reader.runAt (dite (p < b.size) (fun h => (do set (p + 1); pure (b[p]'h).toNat : Decoder Nat)) (fun _ => throw (HasTruncated.truncated p))) b p := rfl
  rw [e, dif_pos h]; rfl
theorem dq_s1 (b : ByteArray) (p : Nat) (h : p < b.size) : Reader.runAt (Reader.s1 : Decoder Int) b p = .ok (Reader.signed 8 (b[p]'h).toNat, p + 1) := by
  have e : Reader.runAt (Reader.s1 : Decoder Int) b p = Except.bind (Reader.runAt (Reader.u1 : Decoder Nat) b p) (fun y => .ok (Reader.signed 8 y.1, y.2)) := rfl
  rw [e, dq_u1 b p h]; rfl
theorem dq_u2 (b : ByteArray) (p : Nat) (h : p < b.size) (h2 : p + 1 < b.size) : Reader.runAt (Reader.u2 : Decoder Nat) b p = .ok ((b[p]'h).toNat * 256 + (b[p + 1]'h2).toNat, p + 2) := by
  have e : Reader.runAt (Reader.u2 : Decoder Nat) b p = Except.bind (Reader.runAt (Reader.u1 : Decoder Nat) b p) (fun y => Except.bind (Reader.runAt (Reader.u1 : Decoder Nat) b y.2) (fun z => .ok (y.1 * 256 + z.1, z.2))) := rfl
  rw [e, dq_u1 b p h]
  show Except.bind (Reader.runAt (Reader.u1 : Decoder Nat) b (p + 1)) (fun z => .ok ((b[p]'h).toNat * 256 + z.1, z.2)) = _
  rw [dq_u1 b (p + 1) h2]; rfl
theorem dq_s2 (b : ByteArray) (p : Nat) (h : p < b.size) (h2 : p + 1 < b.size) : Reader.runAt (Reader.s2 : Decoder Int) b p = .ok (Reader.signed 16 ((b[p]'h).toNat * 256 + (b[p + 1]'h2).toNat), p + 2) := by
  have e : Reader.runAt (Reader.s2 : Decoder Int) b p = Except.bind (Reader.runAt (Reader.u2 : Decoder Nat) b p) (fun y => .ok (Reader.signed 16 y.1, y.2)) := rfl
  rw [e, dq_u2 b p h h2]; rfl
def dqL : List UInt8 → List Nat → Bool
  | _, [] => true
  | [], _ :: _ => false
  | x :: l, n :: ns => Nat.beq x.toNat n && dqL l ns
def dqB (c : ByteArray) (pc : Nat) (ns : List Nat) : Bool := dqL (c.data.toList.drop pc) ns
theorem dq_at {c : ByteArray} {pc n : Nat} {ns : List Nat} (h : dqB c pc (n :: ns) = true) : (∃ hp : pc < c.size, (c[pc]'hp).toNat = n) ∧ dqB c (pc + 1) ns = true := by
  unfold dqB at h
  cases hd : c.data.toList.drop pc with
  | nil => rw [hd] at h; simp [dqL] at h
  | cons x t =>
    rw [hd] at h
    have h' : (Nat.beq x.toNat n && dqL t ns) = true := h
    rw [Bool.and_eq_true] at h'
    have hx : c.data.toList[pc]? = some x := by
      have h1 := congrArg (fun l => l[0]?) hd
      simpa using h1
    have ht : c.data.toList.drop (pc + 1) = t := by
      rw [← List.tail_drop, hd]; rfl
    obtain ⟨hl, hg⟩ := List.getElem?_eq_some_iff.mp hx
    have hp : pc < c.size := by cases c; exact hl
    refine ⟨⟨hp, ?_⟩, ?_⟩
    · have hc : c[pc]'hp = x := by cases c; exact hg
      rw [hc]; exact Nat.eq_of_beq_eq_true h'.1
    · unfold dqB; rw [ht]; exact h'.2
theorem dq_dec {c : ByteArray} {pc k : Nat} {I : Instr} (h : Reader.runAt (Decoder.instr pc) c pc = .ok (I, pc + k)) : decode c pc = .ok (I, k) := by
  have e : decode c pc = Except.bind (Reader.runAt (Decoder.instr pc) c pc) (fun y => .ok (y.1, y.2 - pc)) := rfl
  rw [e, h]
  show (Except.ok (I, pc + k - pc) : Except DecodeError (Instr × Nat)) = _
  rw [Nat.add_sub_cancel_left]
theorem dq_ex : ∃ f : Nat → Nat → Decoder Instr, (∀ pc, Decoder.instr pc = (Reader.u1 >>= f pc)) ∧
    (∀ pc, f pc 1 = (pure .aconst_null : Decoder Instr)) ∧
    (∀ pc, f pc 2 = (pure (.iconst (-1)) : Decoder Instr)) ∧
    (∀ pc, f pc 3 = (pure (.iconst (0)) : Decoder Instr)) ∧
    (∀ pc, f pc 4 = (pure (.iconst (1)) : Decoder Instr)) ∧
    (∀ pc, f pc 5 = (pure (.iconst (2)) : Decoder Instr)) ∧
    (∀ pc, f pc 6 = (pure (.iconst (3)) : Decoder Instr)) ∧
    (∀ pc, f pc 7 = (pure (.iconst (4)) : Decoder Instr)) ∧
    (∀ pc, f pc 8 = (pure (.iconst (5)) : Decoder Instr)) ∧
    (∀ pc, f pc 9 = (pure (.lconst 0) : Decoder Instr)) ∧
    (∀ pc, f pc 10 = (pure (.lconst 1) : Decoder Instr)) ∧
    (∀ pc, f pc 26 = (pure (.iload_n 0) : Decoder Instr)) ∧
    (∀ pc, f pc 27 = (pure (.iload_n 1) : Decoder Instr)) ∧
    (∀ pc, f pc 28 = (pure (.iload_n 2) : Decoder Instr)) ∧
    (∀ pc, f pc 29 = (pure (.iload_n 3) : Decoder Instr)) ∧
    (∀ pc, f pc 30 = (pure (.lload_n 0) : Decoder Instr)) ∧
    (∀ pc, f pc 31 = (pure (.lload_n 1) : Decoder Instr)) ∧
    (∀ pc, f pc 32 = (pure (.lload_n 2) : Decoder Instr)) ∧
    (∀ pc, f pc 33 = (pure (.lload_n 3) : Decoder Instr)) ∧
    (∀ pc, f pc 42 = (pure (.aload_n 0) : Decoder Instr)) ∧
    (∀ pc, f pc 43 = (pure (.aload_n 1) : Decoder Instr)) ∧
    (∀ pc, f pc 44 = (pure (.aload_n 2) : Decoder Instr)) ∧
    (∀ pc, f pc 45 = (pure (.aload_n 3) : Decoder Instr)) ∧
    (∀ pc, f pc 59 = (pure (.istore_n 0) : Decoder Instr)) ∧
    (∀ pc, f pc 60 = (pure (.istore_n 1) : Decoder Instr)) ∧
    (∀ pc, f pc 61 = (pure (.istore_n 2) : Decoder Instr)) ∧
    (∀ pc, f pc 62 = (pure (.istore_n 3) : Decoder Instr)) ∧
    (∀ pc, f pc 63 = (pure (.lstore_n 0) : Decoder Instr)) ∧
    (∀ pc, f pc 64 = (pure (.lstore_n 1) : Decoder Instr)) ∧
    (∀ pc, f pc 65 = (pure (.lstore_n 2) : Decoder Instr)) ∧
    (∀ pc, f pc 66 = (pure (.lstore_n 3) : Decoder Instr)) ∧
    (∀ pc, f pc 75 = (pure (.astore_n 0) : Decoder Instr)) ∧
    (∀ pc, f pc 76 = (pure (.astore_n 1) : Decoder Instr)) ∧
    (∀ pc, f pc 77 = (pure (.astore_n 2) : Decoder Instr)) ∧
    (∀ pc, f pc 78 = (pure (.astore_n 3) : Decoder Instr)) ∧
    (∀ pc, f pc 46 = (pure .iaload : Decoder Instr)) ∧
    (∀ pc, f pc 47 = (pure .laload : Decoder Instr)) ∧
    (∀ pc, f pc 50 = (pure .aaload : Decoder Instr)) ∧
    (∀ pc, f pc 51 = (pure .baload : Decoder Instr)) ∧
    (∀ pc, f pc 52 = (pure .caload : Decoder Instr)) ∧
    (∀ pc, f pc 79 = (pure .iastore : Decoder Instr)) ∧
    (∀ pc, f pc 80 = (pure .lastore : Decoder Instr)) ∧
    (∀ pc, f pc 83 = (pure .aastore : Decoder Instr)) ∧
    (∀ pc, f pc 84 = (pure .bastore : Decoder Instr)) ∧
    (∀ pc, f pc 85 = (pure .castore : Decoder Instr)) ∧
    (∀ pc, f pc 87 = (pure .pop : Decoder Instr)) ∧
    (∀ pc, f pc 88 = (pure .pop2 : Decoder Instr)) ∧
    (∀ pc, f pc 89 = (pure .dup : Decoder Instr)) ∧
    (∀ pc, f pc 90 = (pure .dup_x1 : Decoder Instr)) ∧
    (∀ pc, f pc 92 = (pure .dup2 : Decoder Instr)) ∧
    (∀ pc, f pc 96 = (pure .iadd : Decoder Instr)) ∧
    (∀ pc, f pc 97 = (pure .ladd : Decoder Instr)) ∧
    (∀ pc, f pc 100 = (pure .isub : Decoder Instr)) ∧
    (∀ pc, f pc 101 = (pure .lsub : Decoder Instr)) ∧
    (∀ pc, f pc 104 = (pure .imul : Decoder Instr)) ∧
    (∀ pc, f pc 105 = (pure .lmul : Decoder Instr)) ∧
    (∀ pc, f pc 108 = (pure .idiv : Decoder Instr)) ∧
    (∀ pc, f pc 109 = (pure .ldiv : Decoder Instr)) ∧
    (∀ pc, f pc 112 = (pure .irem : Decoder Instr)) ∧
    (∀ pc, f pc 113 = (pure .lrem : Decoder Instr)) ∧
    (∀ pc, f pc 116 = (pure .ineg : Decoder Instr)) ∧
    (∀ pc, f pc 117 = (pure .lneg : Decoder Instr)) ∧
    (∀ pc, f pc 120 = (pure .ishl : Decoder Instr)) ∧
    (∀ pc, f pc 121 = (pure .lshl : Decoder Instr)) ∧
    (∀ pc, f pc 122 = (pure .ishr : Decoder Instr)) ∧
    (∀ pc, f pc 123 = (pure .lshr : Decoder Instr)) ∧
    (∀ pc, f pc 124 = (pure .iushr : Decoder Instr)) ∧
    (∀ pc, f pc 125 = (pure .lushr : Decoder Instr)) ∧
    (∀ pc, f pc 126 = (pure .iand : Decoder Instr)) ∧
    (∀ pc, f pc 127 = (pure .land : Decoder Instr)) ∧
    (∀ pc, f pc 128 = (pure .ior : Decoder Instr)) ∧
    (∀ pc, f pc 129 = (pure .lor : Decoder Instr)) ∧
    (∀ pc, f pc 130 = (pure .ixor : Decoder Instr)) ∧
    (∀ pc, f pc 131 = (pure .lxor : Decoder Instr)) ∧
    (∀ pc, f pc 133 = (pure .i2l : Decoder Instr)) ∧
    (∀ pc, f pc 136 = (pure .l2i : Decoder Instr)) ∧
    (∀ pc, f pc 145 = (pure .i2b : Decoder Instr)) ∧
    (∀ pc, f pc 146 = (pure .i2c : Decoder Instr)) ∧
    (∀ pc, f pc 148 = (pure .lcmp : Decoder Instr)) ∧
    (∀ pc, f pc 172 = (pure .ireturn : Decoder Instr)) ∧
    (∀ pc, f pc 173 = (pure .lreturn : Decoder Instr)) ∧
    (∀ pc, f pc 176 = (pure .areturn : Decoder Instr)) ∧
    (∀ pc, f pc 177 = (pure .return_ : Decoder Instr)) ∧
    (∀ pc, f pc 190 = (pure .arraylength : Decoder Instr)) ∧
    (∀ pc, f pc 18 = ((Reader.u1 : Decoder Nat) >>= fun a => (pure (.ldc a) : Decoder Instr))) ∧
    (∀ pc, f pc 21 = ((Reader.u1 : Decoder Nat) >>= fun a => (pure (.iload a) : Decoder Instr))) ∧
    (∀ pc, f pc 22 = ((Reader.u1 : Decoder Nat) >>= fun a => (pure (.lload a) : Decoder Instr))) ∧
    (∀ pc, f pc 25 = ((Reader.u1 : Decoder Nat) >>= fun a => (pure (.aload a) : Decoder Instr))) ∧
    (∀ pc, f pc 54 = ((Reader.u1 : Decoder Nat) >>= fun a => (pure (.istore a) : Decoder Instr))) ∧
    (∀ pc, f pc 55 = ((Reader.u1 : Decoder Nat) >>= fun a => (pure (.lstore a) : Decoder Instr))) ∧
    (∀ pc, f pc 58 = ((Reader.u1 : Decoder Nat) >>= fun a => (pure (.astore a) : Decoder Instr))) ∧
    (∀ pc, f pc 16 = ((Reader.s1 : Decoder Int) >>= fun a => (pure (.bipush a) : Decoder Instr))) ∧
    (∀ pc, f pc 17 = ((Reader.s2 : Decoder Int) >>= fun a => (pure (.sipush a) : Decoder Instr))) ∧
    (∀ pc, f pc 167 = ((Reader.s2 : Decoder Int) >>= fun a => (pure (.goto a) : Decoder Instr))) ∧
    (∀ pc, f pc 198 = ((Reader.s2 : Decoder Int) >>= fun a => (pure (.ifnull a) : Decoder Instr))) ∧
    (∀ pc, f pc 199 = ((Reader.s2 : Decoder Int) >>= fun a => (pure (.ifnonnull a) : Decoder Instr))) ∧
    (∀ pc, f pc 153 = ((Reader.s2 : Decoder Int) >>= fun a => (pure (.ifCond .eq a) : Decoder Instr))) ∧
    (∀ pc, f pc 159 = ((Reader.s2 : Decoder Int) >>= fun a => (pure (.if_icmp .eq a) : Decoder Instr))) ∧
    (∀ pc, f pc 154 = ((Reader.s2 : Decoder Int) >>= fun a => (pure (.ifCond .ne a) : Decoder Instr))) ∧
    (∀ pc, f pc 160 = ((Reader.s2 : Decoder Int) >>= fun a => (pure (.if_icmp .ne a) : Decoder Instr))) ∧
    (∀ pc, f pc 155 = ((Reader.s2 : Decoder Int) >>= fun a => (pure (.ifCond .lt a) : Decoder Instr))) ∧
    (∀ pc, f pc 161 = ((Reader.s2 : Decoder Int) >>= fun a => (pure (.if_icmp .lt a) : Decoder Instr))) ∧
    (∀ pc, f pc 156 = ((Reader.s2 : Decoder Int) >>= fun a => (pure (.ifCond .ge a) : Decoder Instr))) ∧
    (∀ pc, f pc 162 = ((Reader.s2 : Decoder Int) >>= fun a => (pure (.if_icmp .ge a) : Decoder Instr))) ∧
    (∀ pc, f pc 157 = ((Reader.s2 : Decoder Int) >>= fun a => (pure (.ifCond .gt a) : Decoder Instr))) ∧
    (∀ pc, f pc 163 = ((Reader.s2 : Decoder Int) >>= fun a => (pure (.if_icmp .gt a) : Decoder Instr))) ∧
    (∀ pc, f pc 158 = ((Reader.s2 : Decoder Int) >>= fun a => (pure (.ifCond .le a) : Decoder Instr))) ∧
    (∀ pc, f pc 164 = ((Reader.s2 : Decoder Int) >>= fun a => (pure (.if_icmp .le a) : Decoder Instr))) ∧
    (∀ pc, f pc 165 = ((Reader.s2 : Decoder Int) >>= fun a => (pure (.if_acmp .eq a) : Decoder Instr))) ∧
    (∀ pc, f pc 166 = ((Reader.s2 : Decoder Int) >>= fun a => (pure (.if_acmp .ne a) : Decoder Instr))) ∧
    (∀ pc, f pc 19 = ((Reader.u2 : Decoder Nat) >>= fun a => (pure (.ldc_w a) : Decoder Instr))) ∧
    (∀ pc, f pc 20 = ((Reader.u2 : Decoder Nat) >>= fun a => (pure (.ldc2_w a) : Decoder Instr))) ∧
    (∀ pc, f pc 178 = ((Reader.u2 : Decoder Nat) >>= fun a => (pure (.getstatic a) : Decoder Instr))) ∧
    (∀ pc, f pc 179 = ((Reader.u2 : Decoder Nat) >>= fun a => (pure (.putstatic a) : Decoder Instr))) ∧
    (∀ pc, f pc 180 = ((Reader.u2 : Decoder Nat) >>= fun a => (pure (.getfield a) : Decoder Instr))) ∧
    (∀ pc, f pc 181 = ((Reader.u2 : Decoder Nat) >>= fun a => (pure (.putfield a) : Decoder Instr))) ∧
    (∀ pc, f pc 182 = ((Reader.u2 : Decoder Nat) >>= fun a => (pure (.invokevirtual a) : Decoder Instr))) ∧
    (∀ pc, f pc 183 = ((Reader.u2 : Decoder Nat) >>= fun a => (pure (.invokespecial a) : Decoder Instr))) ∧
    (∀ pc, f pc 184 = ((Reader.u2 : Decoder Nat) >>= fun a => (pure (.invokestatic a) : Decoder Instr))) ∧
    (∀ pc, f pc 187 = ((Reader.u2 : Decoder Nat) >>= fun a => (pure (.new a) : Decoder Instr))) ∧
    (∀ pc, f pc 189 = ((Reader.u2 : Decoder Nat) >>= fun a => (pure (.anewarray a) : Decoder Instr))) ∧
    (∀ pc, f pc 192 = ((Reader.u2 : Decoder Nat) >>= fun a => (pure (.checkcast a) : Decoder Instr))) ∧
    (∀ pc, f pc 193 = ((Reader.u2 : Decoder Nat) >>= fun a => (pure (.instanceof a) : Decoder Instr))) ∧
    (∀ pc, f pc 132 = ((Reader.u1 : Decoder Nat) >>= fun a => (Reader.s1 : Decoder Int) >>= fun b => (pure (.iinc a b) : Decoder Instr))) :=
  ⟨_, fun _ => rfl, fun _ => rfl, fun _ => rfl, fun _ => rfl, fun _ => rfl, fun _ => rfl, fun _ => rfl, fun _ => rfl, fun _ => rfl, fun _ => rfl, fun _ => rfl, fun _ => rfl, fun _ => rfl, fun _ => rfl, fun _ => rfl, fun _ => rfl, fun _ => rfl, fun _ => rfl, fun _ => rfl, fun _ => rfl, fun _ => rfl, fun _ => rfl, fun _ => rfl, fun _ => rfl, fun _ => rfl, fun _ => rfl, fun _ => rfl, fun _ => rfl, fun _ => rfl, fun _ => rfl, fun _ => rfl, fun _ => rfl, fun _ => rfl, fun _ => rfl, fun _ => rfl, fun _ => rfl, fun _ => rfl, fun _ => rfl, fun _ => rfl, fun _ => rfl, fun _ => rfl, fun _ => rfl, fun _ => rfl, fun _ => rfl, fun _ => rfl, fun _ => rfl, fun _ => rfl, fun _ => rfl, fun _ => rfl, fun _ => rfl, fun _ => rfl, fun _ => rfl, fun _ => rfl, fun _ => rfl, fun _ => rfl, fun _ => rfl, fun _ => rfl, fun _ => rfl, fun _ => rfl, fun _ => rfl, fun _ => rfl, fun _ => rfl, fun _ => rfl, fun _ => rfl, fun _ => rfl, fun _ => rfl, fun _ => rfl, fun _ => rfl, fun _ => rfl, fun _ => rfl, fun _ => rfl, fun _ => rfl, fun _ => rfl, fun _ => rfl, fun _ => rfl, fun _ => rfl, fun _ => rfl, fun _ => rfl, fun _ => rfl, fun _ => rfl, fun _ => rfl, fun _ => rfl, fun _ => rfl, fun _ => rfl, fun _ => rfl, fun _ => rfl, fun _ => rfl, fun _ => rfl, fun _ => rfl, fun _ => rfl, fun _ => rfl, fun _ => rfl, fun _ => rfl, fun _ => rfl, fun _ => rfl, fun _ => rfl, fun _ => rfl, fun _ => rfl, fun _ => rfl, fun _ => rfl, fun _ => rfl, fun _ => rfl, fun _ => rfl, fun _ => rfl, fun _ => rfl, fun _ => rfl, fun _ => rfl, fun _ => rfl, fun _ => rfl, fun _ => rfl, fun _ => rfl, fun _ => rfl, fun _ => rfl, fun _ => rfl, fun _ => rfl, fun _ => rfl, fun _ => rfl, fun _ => rfl, fun _ => rfl, fun _ => rfl, fun _ => rfl, fun _ => rfl, fun _ => rfl, fun _ => rfl⟩
noncomputable def dqf : Nat → Nat → Decoder Instr := Classical.choose dq_ex
theorem dqfs : (∀ pc, Decoder.instr pc = (Reader.u1 >>= dqf pc)) ∧
    (∀ pc, dqf pc 1 = (pure .aconst_null : Decoder Instr)) ∧
    (∀ pc, dqf pc 2 = (pure (.iconst (-1)) : Decoder Instr)) ∧
    (∀ pc, dqf pc 3 = (pure (.iconst (0)) : Decoder Instr)) ∧
    (∀ pc, dqf pc 4 = (pure (.iconst (1)) : Decoder Instr)) ∧
    (∀ pc, dqf pc 5 = (pure (.iconst (2)) : Decoder Instr)) ∧
    (∀ pc, dqf pc 6 = (pure (.iconst (3)) : Decoder Instr)) ∧
    (∀ pc, dqf pc 7 = (pure (.iconst (4)) : Decoder Instr)) ∧
    (∀ pc, dqf pc 8 = (pure (.iconst (5)) : Decoder Instr)) ∧
    (∀ pc, dqf pc 9 = (pure (.lconst 0) : Decoder Instr)) ∧
    (∀ pc, dqf pc 10 = (pure (.lconst 1) : Decoder Instr)) ∧
    (∀ pc, dqf pc 26 = (pure (.iload_n 0) : Decoder Instr)) ∧
    (∀ pc, dqf pc 27 = (pure (.iload_n 1) : Decoder Instr)) ∧
    (∀ pc, dqf pc 28 = (pure (.iload_n 2) : Decoder Instr)) ∧
    (∀ pc, dqf pc 29 = (pure (.iload_n 3) : Decoder Instr)) ∧
    (∀ pc, dqf pc 30 = (pure (.lload_n 0) : Decoder Instr)) ∧
    (∀ pc, dqf pc 31 = (pure (.lload_n 1) : Decoder Instr)) ∧
    (∀ pc, dqf pc 32 = (pure (.lload_n 2) : Decoder Instr)) ∧
    (∀ pc, dqf pc 33 = (pure (.lload_n 3) : Decoder Instr)) ∧
    (∀ pc, dqf pc 42 = (pure (.aload_n 0) : Decoder Instr)) ∧
    (∀ pc, dqf pc 43 = (pure (.aload_n 1) : Decoder Instr)) ∧
    (∀ pc, dqf pc 44 = (pure (.aload_n 2) : Decoder Instr)) ∧
    (∀ pc, dqf pc 45 = (pure (.aload_n 3) : Decoder Instr)) ∧
    (∀ pc, dqf pc 59 = (pure (.istore_n 0) : Decoder Instr)) ∧
    (∀ pc, dqf pc 60 = (pure (.istore_n 1) : Decoder Instr)) ∧
    (∀ pc, dqf pc 61 = (pure (.istore_n 2) : Decoder Instr)) ∧
    (∀ pc, dqf pc 62 = (pure (.istore_n 3) : Decoder Instr)) ∧
    (∀ pc, dqf pc 63 = (pure (.lstore_n 0) : Decoder Instr)) ∧
    (∀ pc, dqf pc 64 = (pure (.lstore_n 1) : Decoder Instr)) ∧
    (∀ pc, dqf pc 65 = (pure (.lstore_n 2) : Decoder Instr)) ∧
    (∀ pc, dqf pc 66 = (pure (.lstore_n 3) : Decoder Instr)) ∧
    (∀ pc, dqf pc 75 = (pure (.astore_n 0) : Decoder Instr)) ∧
    (∀ pc, dqf pc 76 = (pure (.astore_n 1) : Decoder Instr)) ∧
    (∀ pc, dqf pc 77 = (pure (.astore_n 2) : Decoder Instr)) ∧
    (∀ pc, dqf pc 78 = (pure (.astore_n 3) : Decoder Instr)) ∧
    (∀ pc, dqf pc 46 = (pure .iaload : Decoder Instr)) ∧
    (∀ pc, dqf pc 47 = (pure .laload : Decoder Instr)) ∧
    (∀ pc, dqf pc 50 = (pure .aaload : Decoder Instr)) ∧
    (∀ pc, dqf pc 51 = (pure .baload : Decoder Instr)) ∧
    (∀ pc, dqf pc 52 = (pure .caload : Decoder Instr)) ∧
    (∀ pc, dqf pc 79 = (pure .iastore : Decoder Instr)) ∧
    (∀ pc, dqf pc 80 = (pure .lastore : Decoder Instr)) ∧
    (∀ pc, dqf pc 83 = (pure .aastore : Decoder Instr)) ∧
    (∀ pc, dqf pc 84 = (pure .bastore : Decoder Instr)) ∧
    (∀ pc, dqf pc 85 = (pure .castore : Decoder Instr)) ∧
    (∀ pc, dqf pc 87 = (pure .pop : Decoder Instr)) ∧
    (∀ pc, dqf pc 88 = (pure .pop2 : Decoder Instr)) ∧
    (∀ pc, dqf pc 89 = (pure .dup : Decoder Instr)) ∧
    (∀ pc, dqf pc 90 = (pure .dup_x1 : Decoder Instr)) ∧
    (∀ pc, dqf pc 92 = (pure .dup2 : Decoder Instr)) ∧
    (∀ pc, dqf pc 96 = (pure .iadd : Decoder Instr)) ∧
    (∀ pc, dqf pc 97 = (pure .ladd : Decoder Instr)) ∧
    (∀ pc, dqf pc 100 = (pure .isub : Decoder Instr)) ∧
    (∀ pc, dqf pc 101 = (pure .lsub : Decoder Instr)) ∧
    (∀ pc, dqf pc 104 = (pure .imul : Decoder Instr)) ∧
    (∀ pc, dqf pc 105 = (pure .lmul : Decoder Instr)) ∧
    (∀ pc, dqf pc 108 = (pure .idiv : Decoder Instr)) ∧
    (∀ pc, dqf pc 109 = (pure .ldiv : Decoder Instr)) ∧
    (∀ pc, dqf pc 112 = (pure .irem : Decoder Instr)) ∧
    (∀ pc, dqf pc 113 = (pure .lrem : Decoder Instr)) ∧
    (∀ pc, dqf pc 116 = (pure .ineg : Decoder Instr)) ∧
    (∀ pc, dqf pc 117 = (pure .lneg : Decoder Instr)) ∧
    (∀ pc, dqf pc 120 = (pure .ishl : Decoder Instr)) ∧
    (∀ pc, dqf pc 121 = (pure .lshl : Decoder Instr)) ∧
    (∀ pc, dqf pc 122 = (pure .ishr : Decoder Instr)) ∧
    (∀ pc, dqf pc 123 = (pure .lshr : Decoder Instr)) ∧
    (∀ pc, dqf pc 124 = (pure .iushr : Decoder Instr)) ∧
    (∀ pc, dqf pc 125 = (pure .lushr : Decoder Instr)) ∧
    (∀ pc, dqf pc 126 = (pure .iand : Decoder Instr)) ∧
    (∀ pc, dqf pc 127 = (pure .land : Decoder Instr)) ∧
    (∀ pc, dqf pc 128 = (pure .ior : Decoder Instr)) ∧
    (∀ pc, dqf pc 129 = (pure .lor : Decoder Instr)) ∧
    (∀ pc, dqf pc 130 = (pure .ixor : Decoder Instr)) ∧
    (∀ pc, dqf pc 131 = (pure .lxor : Decoder Instr)) ∧
    (∀ pc, dqf pc 133 = (pure .i2l : Decoder Instr)) ∧
    (∀ pc, dqf pc 136 = (pure .l2i : Decoder Instr)) ∧
    (∀ pc, dqf pc 145 = (pure .i2b : Decoder Instr)) ∧
    (∀ pc, dqf pc 146 = (pure .i2c : Decoder Instr)) ∧
    (∀ pc, dqf pc 148 = (pure .lcmp : Decoder Instr)) ∧
    (∀ pc, dqf pc 172 = (pure .ireturn : Decoder Instr)) ∧
    (∀ pc, dqf pc 173 = (pure .lreturn : Decoder Instr)) ∧
    (∀ pc, dqf pc 176 = (pure .areturn : Decoder Instr)) ∧
    (∀ pc, dqf pc 177 = (pure .return_ : Decoder Instr)) ∧
    (∀ pc, dqf pc 190 = (pure .arraylength : Decoder Instr)) ∧
    (∀ pc, dqf pc 18 = ((Reader.u1 : Decoder Nat) >>= fun a => (pure (.ldc a) : Decoder Instr))) ∧
    (∀ pc, dqf pc 21 = ((Reader.u1 : Decoder Nat) >>= fun a => (pure (.iload a) : Decoder Instr))) ∧
    (∀ pc, dqf pc 22 = ((Reader.u1 : Decoder Nat) >>= fun a => (pure (.lload a) : Decoder Instr))) ∧
    (∀ pc, dqf pc 25 = ((Reader.u1 : Decoder Nat) >>= fun a => (pure (.aload a) : Decoder Instr))) ∧
    (∀ pc, dqf pc 54 = ((Reader.u1 : Decoder Nat) >>= fun a => (pure (.istore a) : Decoder Instr))) ∧
    (∀ pc, dqf pc 55 = ((Reader.u1 : Decoder Nat) >>= fun a => (pure (.lstore a) : Decoder Instr))) ∧
    (∀ pc, dqf pc 58 = ((Reader.u1 : Decoder Nat) >>= fun a => (pure (.astore a) : Decoder Instr))) ∧
    (∀ pc, dqf pc 16 = ((Reader.s1 : Decoder Int) >>= fun a => (pure (.bipush a) : Decoder Instr))) ∧
    (∀ pc, dqf pc 17 = ((Reader.s2 : Decoder Int) >>= fun a => (pure (.sipush a) : Decoder Instr))) ∧
    (∀ pc, dqf pc 167 = ((Reader.s2 : Decoder Int) >>= fun a => (pure (.goto a) : Decoder Instr))) ∧
    (∀ pc, dqf pc 198 = ((Reader.s2 : Decoder Int) >>= fun a => (pure (.ifnull a) : Decoder Instr))) ∧
    (∀ pc, dqf pc 199 = ((Reader.s2 : Decoder Int) >>= fun a => (pure (.ifnonnull a) : Decoder Instr))) ∧
    (∀ pc, dqf pc 153 = ((Reader.s2 : Decoder Int) >>= fun a => (pure (.ifCond .eq a) : Decoder Instr))) ∧
    (∀ pc, dqf pc 159 = ((Reader.s2 : Decoder Int) >>= fun a => (pure (.if_icmp .eq a) : Decoder Instr))) ∧
    (∀ pc, dqf pc 154 = ((Reader.s2 : Decoder Int) >>= fun a => (pure (.ifCond .ne a) : Decoder Instr))) ∧
    (∀ pc, dqf pc 160 = ((Reader.s2 : Decoder Int) >>= fun a => (pure (.if_icmp .ne a) : Decoder Instr))) ∧
    (∀ pc, dqf pc 155 = ((Reader.s2 : Decoder Int) >>= fun a => (pure (.ifCond .lt a) : Decoder Instr))) ∧
    (∀ pc, dqf pc 161 = ((Reader.s2 : Decoder Int) >>= fun a => (pure (.if_icmp .lt a) : Decoder Instr))) ∧
    (∀ pc, dqf pc 156 = ((Reader.s2 : Decoder Int) >>= fun a => (pure (.ifCond .ge a) : Decoder Instr))) ∧
    (∀ pc, dqf pc 162 = ((Reader.s2 : Decoder Int) >>= fun a => (pure (.if_icmp .ge a) : Decoder Instr))) ∧
    (∀ pc, dqf pc 157 = ((Reader.s2 : Decoder Int) >>= fun a => (pure (.ifCond .gt a) : Decoder Instr))) ∧
    (∀ pc, dqf pc 163 = ((Reader.s2 : Decoder Int) >>= fun a => (pure (.if_icmp .gt a) : Decoder Instr))) ∧
    (∀ pc, dqf pc 158 = ((Reader.s2 : Decoder Int) >>= fun a => (pure (.ifCond .le a) : Decoder Instr))) ∧
    (∀ pc, dqf pc 164 = ((Reader.s2 : Decoder Int) >>= fun a => (pure (.if_icmp .le a) : Decoder Instr))) ∧
    (∀ pc, dqf pc 165 = ((Reader.s2 : Decoder Int) >>= fun a => (pure (.if_acmp .eq a) : Decoder Instr))) ∧
    (∀ pc, dqf pc 166 = ((Reader.s2 : Decoder Int) >>= fun a => (pure (.if_acmp .ne a) : Decoder Instr))) ∧
    (∀ pc, dqf pc 19 = ((Reader.u2 : Decoder Nat) >>= fun a => (pure (.ldc_w a) : Decoder Instr))) ∧
    (∀ pc, dqf pc 20 = ((Reader.u2 : Decoder Nat) >>= fun a => (pure (.ldc2_w a) : Decoder Instr))) ∧
    (∀ pc, dqf pc 178 = ((Reader.u2 : Decoder Nat) >>= fun a => (pure (.getstatic a) : Decoder Instr))) ∧
    (∀ pc, dqf pc 179 = ((Reader.u2 : Decoder Nat) >>= fun a => (pure (.putstatic a) : Decoder Instr))) ∧
    (∀ pc, dqf pc 180 = ((Reader.u2 : Decoder Nat) >>= fun a => (pure (.getfield a) : Decoder Instr))) ∧
    (∀ pc, dqf pc 181 = ((Reader.u2 : Decoder Nat) >>= fun a => (pure (.putfield a) : Decoder Instr))) ∧
    (∀ pc, dqf pc 182 = ((Reader.u2 : Decoder Nat) >>= fun a => (pure (.invokevirtual a) : Decoder Instr))) ∧
    (∀ pc, dqf pc 183 = ((Reader.u2 : Decoder Nat) >>= fun a => (pure (.invokespecial a) : Decoder Instr))) ∧
    (∀ pc, dqf pc 184 = ((Reader.u2 : Decoder Nat) >>= fun a => (pure (.invokestatic a) : Decoder Instr))) ∧
    (∀ pc, dqf pc 187 = ((Reader.u2 : Decoder Nat) >>= fun a => (pure (.new a) : Decoder Instr))) ∧
    (∀ pc, dqf pc 189 = ((Reader.u2 : Decoder Nat) >>= fun a => (pure (.anewarray a) : Decoder Instr))) ∧
    (∀ pc, dqf pc 192 = ((Reader.u2 : Decoder Nat) >>= fun a => (pure (.checkcast a) : Decoder Instr))) ∧
    (∀ pc, dqf pc 193 = ((Reader.u2 : Decoder Nat) >>= fun a => (pure (.instanceof a) : Decoder Instr))) ∧
    (∀ pc, dqf pc 132 = ((Reader.u1 : Decoder Nat) >>= fun a => (Reader.s1 : Decoder Int) >>= fun b => (pure (.iinc a b) : Decoder Instr))) := Classical.choose_spec dq_ex
theorem dqf1 : ∀ pc, dqf pc 1 = (pure .aconst_null : Decoder Instr) := dqfs.2.1
theorem dqf2 : ∀ pc, dqf pc 2 = (pure (.iconst (-1)) : Decoder Instr) := dqfs.2.2.1
theorem dqf3 : ∀ pc, dqf pc 3 = (pure (.iconst (0)) : Decoder Instr) := dqfs.2.2.2.1
theorem dqf4 : ∀ pc, dqf pc 4 = (pure (.iconst (1)) : Decoder Instr) := dqfs.2.2.2.2.1
theorem dqf5 : ∀ pc, dqf pc 5 = (pure (.iconst (2)) : Decoder Instr) := dqfs.2.2.2.2.2.1
theorem dqf6 : ∀ pc, dqf pc 6 = (pure (.iconst (3)) : Decoder Instr) := dqfs.2.2.2.2.2.2.1
theorem dqf7 : ∀ pc, dqf pc 7 = (pure (.iconst (4)) : Decoder Instr) := dqfs.2.2.2.2.2.2.2.1
theorem dqf8 : ∀ pc, dqf pc 8 = (pure (.iconst (5)) : Decoder Instr) := dqfs.2.2.2.2.2.2.2.2.1
theorem dqf9 : ∀ pc, dqf pc 9 = (pure (.lconst 0) : Decoder Instr) := dqfs.2.2.2.2.2.2.2.2.2.1
theorem dqf10 : ∀ pc, dqf pc 10 = (pure (.lconst 1) : Decoder Instr) := dqfs.2.2.2.2.2.2.2.2.2.2.1
theorem dqf26 : ∀ pc, dqf pc 26 = (pure (.iload_n 0) : Decoder Instr) := dqfs.2.2.2.2.2.2.2.2.2.2.2.1
theorem dqf27 : ∀ pc, dqf pc 27 = (pure (.iload_n 1) : Decoder Instr) := dqfs.2.2.2.2.2.2.2.2.2.2.2.2.1
theorem dqf28 : ∀ pc, dqf pc 28 = (pure (.iload_n 2) : Decoder Instr) := dqfs.2.2.2.2.2.2.2.2.2.2.2.2.2.1
theorem dqf29 : ∀ pc, dqf pc 29 = (pure (.iload_n 3) : Decoder Instr) := dqfs.2.2.2.2.2.2.2.2.2.2.2.2.2.2.1
theorem dqf30 : ∀ pc, dqf pc 30 = (pure (.lload_n 0) : Decoder Instr) := dqfs.2.2.2.2.2.2.2.2.2.2.2.2.2.2.2.1
theorem dqf31 : ∀ pc, dqf pc 31 = (pure (.lload_n 1) : Decoder Instr) := dqfs.2.2.2.2.2.2.2.2.2.2.2.2.2.2.2.2.1
theorem dqf32 : ∀ pc, dqf pc 32 = (pure (.lload_n 2) : Decoder Instr) := dqfs.2.2.2.2.2.2.2.2.2.2.2.2.2.2.2.2.2.1
theorem dqf33 : ∀ pc, dqf pc 33 = (pure (.lload_n 3) : Decoder Instr) := dqfs.2.2.2.2.2.2.2.2.2.2.2.2.2.2.2.2.2.2.1
theorem dqf42 : ∀ pc, dqf pc 42 = (pure (.aload_n 0) : Decoder Instr) := dqfs.2.2.2.2.2.2.2.2.2.2.2.2.2.2.2.2.2.2.2.1
theorem dqf43 : ∀ pc, dqf pc 43 = (pure (.aload_n 1) : Decoder Instr) := dqfs.2.2.2.2.2.2.2.2.2.2.2.2.2.2.2.2.2.2.2.2.1
theorem dqf44 : ∀ pc, dqf pc 44 = (pure (.aload_n 2) : Decoder Instr) := dqfs.2.2.2.2.2.2.2.2.2.2.2.2.2.2.2.2.2.2.2.2.2.1
theorem dqf45 : ∀ pc, dqf pc 45 = (pure (.aload_n 3) : Decoder Instr) := dqfs.2.2.2.2.2.2.2.2.2.2.2.2.2.2.2.2.2.2.2.2.2.2.1
theorem dqf59 : ∀ pc, dqf pc 59 = (pure (.istore_n 0) : Decoder Instr) := dqfs.2.2.2.2.2.2.2.2.2.2.2.2.2.2.2.2.2.2.2.2.2.2.2.1
theorem dqf60 : ∀ pc, dqf pc 60 = (pure (.istore_n 1) : Decoder Instr) := dqfs.2.2.2.2.2.2.2.2.2.2.2.2.2.2.2.2.2.2.2.2.2.2.2.2.1
theorem dqf61 : ∀ pc, dqf pc 61 = (pure (.istore_n 2) : Decoder Instr) := dqfs.2.2.2.2.2.2.2.2.2.2.2.2.2.2.2.2.2.2.2.2.2.2.2.2.2.1
theorem dqf62 : ∀ pc, dqf pc 62 = (pure (.istore_n 3) : Decoder Instr) := dqfs.2.2.2.2.2.2.2.2.2.2.2.2.2.2.2.2.2.2.2.2.2.2.2.2.2.2.1
theorem dqf63 : ∀ pc, dqf pc 63 = (pure (.lstore_n 0) : Decoder Instr) := dqfs.2.2.2.2.2.2.2.2.2.2.2.2.2.2.2.2.2.2.2.2.2.2.2.2.2.2.2.1
theorem dqf64 : ∀ pc, dqf pc 64 = (pure (.lstore_n 1) : Decoder Instr) := dqfs.2.2.2.2.2.2.2.2.2.2.2.2.2.2.2.2.2.2.2.2.2.2.2.2.2.2.2.2.1
theorem dqf65 : ∀ pc, dqf pc 65 = (pure (.lstore_n 2) : Decoder Instr) := dqfs.2.2.2.2.2.2.2.2.2.2.2.2.2.2.2.2.2.2.2.2.2.2.2.2.2.2.2.2.2.1
theorem dqf66 : ∀ pc, dqf pc 66 = (pure (.lstore_n 3) : Decoder Instr) := dqfs.2.2.2.2.2.2.2.2.2.2.2.2.2.2.2.2.2.2.2.2.2.2.2.2.2.2.2.2.2.2.1
theorem dqf75 : ∀ pc, dqf pc 75 = (pure (.astore_n 0) : Decoder Instr) := dqfs.2.2.2.2.2.2.2.2.2.2.2.2.2.2.2.2.2.2.2.2.2.2.2.2.2.2.2.2.2.2.2.1
theorem dqf76 : ∀ pc, dqf pc 76 = (pure (.astore_n 1) : Decoder Instr) := dqfs.2.2.2.2.2.2.2.2.2.2.2.2.2.2.2.2.2.2.2.2.2.2.2.2.2.2.2.2.2.2.2.2.1
theorem dqf77 : ∀ pc, dqf pc 77 = (pure (.astore_n 2) : Decoder Instr) := dqfs.2.2.2.2.2.2.2.2.2.2.2.2.2.2.2.2.2.2.2.2.2.2.2.2.2.2.2.2.2.2.2.2.2.1
theorem dqf78 : ∀ pc, dqf pc 78 = (pure (.astore_n 3) : Decoder Instr) := dqfs.2.2.2.2.2.2.2.2.2.2.2.2.2.2.2.2.2.2.2.2.2.2.2.2.2.2.2.2.2.2.2.2.2.2.1
theorem dqf46 : ∀ pc, dqf pc 46 = (pure .iaload : Decoder Instr) := dqfs.2.2.2.2.2.2.2.2.2.2.2.2.2.2.2.2.2.2.2.2.2.2.2.2.2.2.2.2.2.2.2.2.2.2.2.1
theorem dqf47 : ∀ pc, dqf pc 47 = (pure .laload : Decoder Instr) := dqfs.2.2.2.2.2.2.2.2.2.2.2.2.2.2.2.2.2.2.2.2.2.2.2.2.2.2.2.2.2.2.2.2.2.2.2.2.1
theorem dqf50 : ∀ pc, dqf pc 50 = (pure .aaload : Decoder Instr) := dqfs.2.2.2.2.2.2.2.2.2.2.2.2.2.2.2.2.2.2.2.2.2.2.2.2.2.2.2.2.2.2.2.2.2.2.2.2.2.1
theorem dqf51 : ∀ pc, dqf pc 51 = (pure .baload : Decoder Instr) := dqfs.2.2.2.2.2.2.2.2.2.2.2.2.2.2.2.2.2.2.2.2.2.2.2.2.2.2.2.2.2.2.2.2.2.2.2.2.2.2.1
theorem dqf52 : ∀ pc, dqf pc 52 = (pure .caload : Decoder Instr) := dqfs.2.2.2.2.2.2.2.2.2.2.2.2.2.2.2.2.2.2.2.2.2.2.2.2.2.2.2.2.2.2.2.2.2.2.2.2.2.2.2.1
theorem dqf79 : ∀ pc, dqf pc 79 = (pure .iastore : Decoder Instr) := dqfs.2.2.2.2.2.2.2.2.2.2.2.2.2.2.2.2.2.2.2.2.2.2.2.2.2.2.2.2.2.2.2.2.2.2.2.2.2.2.2.2.1
theorem dqf80 : ∀ pc, dqf pc 80 = (pure .lastore : Decoder Instr) := dqfs.2.2.2.2.2.2.2.2.2.2.2.2.2.2.2.2.2.2.2.2.2.2.2.2.2.2.2.2.2.2.2.2.2.2.2.2.2.2.2.2.2.1
theorem dqf83 : ∀ pc, dqf pc 83 = (pure .aastore : Decoder Instr) := dqfs.2.2.2.2.2.2.2.2.2.2.2.2.2.2.2.2.2.2.2.2.2.2.2.2.2.2.2.2.2.2.2.2.2.2.2.2.2.2.2.2.2.2.1
theorem dqf84 : ∀ pc, dqf pc 84 = (pure .bastore : Decoder Instr) := dqfs.2.2.2.2.2.2.2.2.2.2.2.2.2.2.2.2.2.2.2.2.2.2.2.2.2.2.2.2.2.2.2.2.2.2.2.2.2.2.2.2.2.2.2.1
theorem dqf85 : ∀ pc, dqf pc 85 = (pure .castore : Decoder Instr) := dqfs.2.2.2.2.2.2.2.2.2.2.2.2.2.2.2.2.2.2.2.2.2.2.2.2.2.2.2.2.2.2.2.2.2.2.2.2.2.2.2.2.2.2.2.2.1
theorem dqf87 : ∀ pc, dqf pc 87 = (pure .pop : Decoder Instr) := dqfs.2.2.2.2.2.2.2.2.2.2.2.2.2.2.2.2.2.2.2.2.2.2.2.2.2.2.2.2.2.2.2.2.2.2.2.2.2.2.2.2.2.2.2.2.2.1
theorem dqf88 : ∀ pc, dqf pc 88 = (pure .pop2 : Decoder Instr) := dqfs.2.2.2.2.2.2.2.2.2.2.2.2.2.2.2.2.2.2.2.2.2.2.2.2.2.2.2.2.2.2.2.2.2.2.2.2.2.2.2.2.2.2.2.2.2.2.1
theorem dqf89 : ∀ pc, dqf pc 89 = (pure .dup : Decoder Instr) := dqfs.2.2.2.2.2.2.2.2.2.2.2.2.2.2.2.2.2.2.2.2.2.2.2.2.2.2.2.2.2.2.2.2.2.2.2.2.2.2.2.2.2.2.2.2.2.2.2.1
theorem dqf90 : ∀ pc, dqf pc 90 = (pure .dup_x1 : Decoder Instr) := dqfs.2.2.2.2.2.2.2.2.2.2.2.2.2.2.2.2.2.2.2.2.2.2.2.2.2.2.2.2.2.2.2.2.2.2.2.2.2.2.2.2.2.2.2.2.2.2.2.2.1
theorem dqf92 : ∀ pc, dqf pc 92 = (pure .dup2 : Decoder Instr) := dqfs.2.2.2.2.2.2.2.2.2.2.2.2.2.2.2.2.2.2.2.2.2.2.2.2.2.2.2.2.2.2.2.2.2.2.2.2.2.2.2.2.2.2.2.2.2.2.2.2.2.1
theorem dqf96 : ∀ pc, dqf pc 96 = (pure .iadd : Decoder Instr) := dqfs.2.2.2.2.2.2.2.2.2.2.2.2.2.2.2.2.2.2.2.2.2.2.2.2.2.2.2.2.2.2.2.2.2.2.2.2.2.2.2.2.2.2.2.2.2.2.2.2.2.2.1
theorem dqf97 : ∀ pc, dqf pc 97 = (pure .ladd : Decoder Instr) := dqfs.2.2.2.2.2.2.2.2.2.2.2.2.2.2.2.2.2.2.2.2.2.2.2.2.2.2.2.2.2.2.2.2.2.2.2.2.2.2.2.2.2.2.2.2.2.2.2.2.2.2.2.1
theorem dqf100 : ∀ pc, dqf pc 100 = (pure .isub : Decoder Instr) := dqfs.2.2.2.2.2.2.2.2.2.2.2.2.2.2.2.2.2.2.2.2.2.2.2.2.2.2.2.2.2.2.2.2.2.2.2.2.2.2.2.2.2.2.2.2.2.2.2.2.2.2.2.2.1
theorem dqf101 : ∀ pc, dqf pc 101 = (pure .lsub : Decoder Instr) := dqfs.2.2.2.2.2.2.2.2.2.2.2.2.2.2.2.2.2.2.2.2.2.2.2.2.2.2.2.2.2.2.2.2.2.2.2.2.2.2.2.2.2.2.2.2.2.2.2.2.2.2.2.2.2.1
theorem dqf104 : ∀ pc, dqf pc 104 = (pure .imul : Decoder Instr) := dqfs.2.2.2.2.2.2.2.2.2.2.2.2.2.2.2.2.2.2.2.2.2.2.2.2.2.2.2.2.2.2.2.2.2.2.2.2.2.2.2.2.2.2.2.2.2.2.2.2.2.2.2.2.2.2.1
theorem dqf105 : ∀ pc, dqf pc 105 = (pure .lmul : Decoder Instr) := dqfs.2.2.2.2.2.2.2.2.2.2.2.2.2.2.2.2.2.2.2.2.2.2.2.2.2.2.2.2.2.2.2.2.2.2.2.2.2.2.2.2.2.2.2.2.2.2.2.2.2.2.2.2.2.2.2.1
theorem dqf108 : ∀ pc, dqf pc 108 = (pure .idiv : Decoder Instr) := dqfs.2.2.2.2.2.2.2.2.2.2.2.2.2.2.2.2.2.2.2.2.2.2.2.2.2.2.2.2.2.2.2.2.2.2.2.2.2.2.2.2.2.2.2.2.2.2.2.2.2.2.2.2.2.2.2.2.1
theorem dqf109 : ∀ pc, dqf pc 109 = (pure .ldiv : Decoder Instr) := dqfs.2.2.2.2.2.2.2.2.2.2.2.2.2.2.2.2.2.2.2.2.2.2.2.2.2.2.2.2.2.2.2.2.2.2.2.2.2.2.2.2.2.2.2.2.2.2.2.2.2.2.2.2.2.2.2.2.2.1
theorem dqf112 : ∀ pc, dqf pc 112 = (pure .irem : Decoder Instr) := dqfs.2.2.2.2.2.2.2.2.2.2.2.2.2.2.2.2.2.2.2.2.2.2.2.2.2.2.2.2.2.2.2.2.2.2.2.2.2.2.2.2.2.2.2.2.2.2.2.2.2.2.2.2.2.2.2.2.2.2.1
theorem dqf113 : ∀ pc, dqf pc 113 = (pure .lrem : Decoder Instr) := dqfs.2.2.2.2.2.2.2.2.2.2.2.2.2.2.2.2.2.2.2.2.2.2.2.2.2.2.2.2.2.2.2.2.2.2.2.2.2.2.2.2.2.2.2.2.2.2.2.2.2.2.2.2.2.2.2.2.2.2.2.1
theorem dqf116 : ∀ pc, dqf pc 116 = (pure .ineg : Decoder Instr) := dqfs.2.2.2.2.2.2.2.2.2.2.2.2.2.2.2.2.2.2.2.2.2.2.2.2.2.2.2.2.2.2.2.2.2.2.2.2.2.2.2.2.2.2.2.2.2.2.2.2.2.2.2.2.2.2.2.2.2.2.2.2.1
theorem dqf117 : ∀ pc, dqf pc 117 = (pure .lneg : Decoder Instr) := dqfs.2.2.2.2.2.2.2.2.2.2.2.2.2.2.2.2.2.2.2.2.2.2.2.2.2.2.2.2.2.2.2.2.2.2.2.2.2.2.2.2.2.2.2.2.2.2.2.2.2.2.2.2.2.2.2.2.2.2.2.2.2.1
theorem dqf120 : ∀ pc, dqf pc 120 = (pure .ishl : Decoder Instr) := dqfs.2.2.2.2.2.2.2.2.2.2.2.2.2.2.2.2.2.2.2.2.2.2.2.2.2.2.2.2.2.2.2.2.2.2.2.2.2.2.2.2.2.2.2.2.2.2.2.2.2.2.2.2.2.2.2.2.2.2.2.2.2.2.1
theorem dqf121 : ∀ pc, dqf pc 121 = (pure .lshl : Decoder Instr) := dqfs.2.2.2.2.2.2.2.2.2.2.2.2.2.2.2.2.2.2.2.2.2.2.2.2.2.2.2.2.2.2.2.2.2.2.2.2.2.2.2.2.2.2.2.2.2.2.2.2.2.2.2.2.2.2.2.2.2.2.2.2.2.2.2.1
theorem dqf122 : ∀ pc, dqf pc 122 = (pure .ishr : Decoder Instr) := dqfs.2.2.2.2.2.2.2.2.2.2.2.2.2.2.2.2.2.2.2.2.2.2.2.2.2.2.2.2.2.2.2.2.2.2.2.2.2.2.2.2.2.2.2.2.2.2.2.2.2.2.2.2.2.2.2.2.2.2.2.2.2.2.2.2.1
theorem dqf123 : ∀ pc, dqf pc 123 = (pure .lshr : Decoder Instr) := dqfs.2.2.2.2.2.2.2.2.2.2.2.2.2.2.2.2.2.2.2.2.2.2.2.2.2.2.2.2.2.2.2.2.2.2.2.2.2.2.2.2.2.2.2.2.2.2.2.2.2.2.2.2.2.2.2.2.2.2.2.2.2.2.2.2.2.1
theorem dqf124 : ∀ pc, dqf pc 124 = (pure .iushr : Decoder Instr) := dqfs.2.2.2.2.2.2.2.2.2.2.2.2.2.2.2.2.2.2.2.2.2.2.2.2.2.2.2.2.2.2.2.2.2.2.2.2.2.2.2.2.2.2.2.2.2.2.2.2.2.2.2.2.2.2.2.2.2.2.2.2.2.2.2.2.2.2.1
theorem dqf125 : ∀ pc, dqf pc 125 = (pure .lushr : Decoder Instr) := dqfs.2.2.2.2.2.2.2.2.2.2.2.2.2.2.2.2.2.2.2.2.2.2.2.2.2.2.2.2.2.2.2.2.2.2.2.2.2.2.2.2.2.2.2.2.2.2.2.2.2.2.2.2.2.2.2.2.2.2.2.2.2.2.2.2.2.2.2.1
theorem dqf126 : ∀ pc, dqf pc 126 = (pure .iand : Decoder Instr) := dqfs.2.2.2.2.2.2.2.2.2.2.2.2.2.2.2.2.2.2.2.2.2.2.2.2.2.2.2.2.2.2.2.2.2.2.2.2.2.2.2.2.2.2.2.2.2.2.2.2.2.2.2.2.2.2.2.2.2.2.2.2.2.2.2.2.2.2.2.2.1
theorem dqf127 : ∀ pc, dqf pc 127 = (pure .land : Decoder Instr) := dqfs.2.2.2.2.2.2.2.2.2.2.2.2.2.2.2.2.2.2.2.2.2.2.2.2.2.2.2.2.2.2.2.2.2.2.2.2.2.2.2.2.2.2.2.2.2.2.2.2.2.2.2.2.2.2.2.2.2.2.2.2.2.2.2.2.2.2.2.2.2.1
theorem dqf128 : ∀ pc, dqf pc 128 = (pure .ior : Decoder Instr) := dqfs.2.2.2.2.2.2.2.2.2.2.2.2.2.2.2.2.2.2.2.2.2.2.2.2.2.2.2.2.2.2.2.2.2.2.2.2.2.2.2.2.2.2.2.2.2.2.2.2.2.2.2.2.2.2.2.2.2.2.2.2.2.2.2.2.2.2.2.2.2.2.1
theorem dqf129 : ∀ pc, dqf pc 129 = (pure .lor : Decoder Instr) := dqfs.2.2.2.2.2.2.2.2.2.2.2.2.2.2.2.2.2.2.2.2.2.2.2.2.2.2.2.2.2.2.2.2.2.2.2.2.2.2.2.2.2.2.2.2.2.2.2.2.2.2.2.2.2.2.2.2.2.2.2.2.2.2.2.2.2.2.2.2.2.2.2.1
theorem dqf130 : ∀ pc, dqf pc 130 = (pure .ixor : Decoder Instr) := dqfs.2.2.2.2.2.2.2.2.2.2.2.2.2.2.2.2.2.2.2.2.2.2.2.2.2.2.2.2.2.2.2.2.2.2.2.2.2.2.2.2.2.2.2.2.2.2.2.2.2.2.2.2.2.2.2.2.2.2.2.2.2.2.2.2.2.2.2.2.2.2.2.2.1
theorem dqf131 : ∀ pc, dqf pc 131 = (pure .lxor : Decoder Instr) := dqfs.2.2.2.2.2.2.2.2.2.2.2.2.2.2.2.2.2.2.2.2.2.2.2.2.2.2.2.2.2.2.2.2.2.2.2.2.2.2.2.2.2.2.2.2.2.2.2.2.2.2.2.2.2.2.2.2.2.2.2.2.2.2.2.2.2.2.2.2.2.2.2.2.2.1
theorem dqf133 : ∀ pc, dqf pc 133 = (pure .i2l : Decoder Instr) := dqfs.2.2.2.2.2.2.2.2.2.2.2.2.2.2.2.2.2.2.2.2.2.2.2.2.2.2.2.2.2.2.2.2.2.2.2.2.2.2.2.2.2.2.2.2.2.2.2.2.2.2.2.2.2.2.2.2.2.2.2.2.2.2.2.2.2.2.2.2.2.2.2.2.2.2.1
theorem dqf136 : ∀ pc, dqf pc 136 = (pure .l2i : Decoder Instr) := dqfs.2.2.2.2.2.2.2.2.2.2.2.2.2.2.2.2.2.2.2.2.2.2.2.2.2.2.2.2.2.2.2.2.2.2.2.2.2.2.2.2.2.2.2.2.2.2.2.2.2.2.2.2.2.2.2.2.2.2.2.2.2.2.2.2.2.2.2.2.2.2.2.2.2.2.2.1
theorem dqf145 : ∀ pc, dqf pc 145 = (pure .i2b : Decoder Instr) := dqfs.2.2.2.2.2.2.2.2.2.2.2.2.2.2.2.2.2.2.2.2.2.2.2.2.2.2.2.2.2.2.2.2.2.2.2.2.2.2.2.2.2.2.2.2.2.2.2.2.2.2.2.2.2.2.2.2.2.2.2.2.2.2.2.2.2.2.2.2.2.2.2.2.2.2.2.2.1
theorem dqf146 : ∀ pc, dqf pc 146 = (pure .i2c : Decoder Instr) := dqfs.2.2.2.2.2.2.2.2.2.2.2.2.2.2.2.2.2.2.2.2.2.2.2.2.2.2.2.2.2.2.2.2.2.2.2.2.2.2.2.2.2.2.2.2.2.2.2.2.2.2.2.2.2.2.2.2.2.2.2.2.2.2.2.2.2.2.2.2.2.2.2.2.2.2.2.2.2.1
theorem dqf148 : ∀ pc, dqf pc 148 = (pure .lcmp : Decoder Instr) := dqfs.2.2.2.2.2.2.2.2.2.2.2.2.2.2.2.2.2.2.2.2.2.2.2.2.2.2.2.2.2.2.2.2.2.2.2.2.2.2.2.2.2.2.2.2.2.2.2.2.2.2.2.2.2.2.2.2.2.2.2.2.2.2.2.2.2.2.2.2.2.2.2.2.2.2.2.2.2.2.1
theorem dqf172 : ∀ pc, dqf pc 172 = (pure .ireturn : Decoder Instr) := dqfs.2.2.2.2.2.2.2.2.2.2.2.2.2.2.2.2.2.2.2.2.2.2.2.2.2.2.2.2.2.2.2.2.2.2.2.2.2.2.2.2.2.2.2.2.2.2.2.2.2.2.2.2.2.2.2.2.2.2.2.2.2.2.2.2.2.2.2.2.2.2.2.2.2.2.2.2.2.2.2.1
theorem dqf173 : ∀ pc, dqf pc 173 = (pure .lreturn : Decoder Instr) := dqfs.2.2.2.2.2.2.2.2.2.2.2.2.2.2.2.2.2.2.2.2.2.2.2.2.2.2.2.2.2.2.2.2.2.2.2.2.2.2.2.2.2.2.2.2.2.2.2.2.2.2.2.2.2.2.2.2.2.2.2.2.2.2.2.2.2.2.2.2.2.2.2.2.2.2.2.2.2.2.2.2.1
theorem dqf176 : ∀ pc, dqf pc 176 = (pure .areturn : Decoder Instr) := dqfs.2.2.2.2.2.2.2.2.2.2.2.2.2.2.2.2.2.2.2.2.2.2.2.2.2.2.2.2.2.2.2.2.2.2.2.2.2.2.2.2.2.2.2.2.2.2.2.2.2.2.2.2.2.2.2.2.2.2.2.2.2.2.2.2.2.2.2.2.2.2.2.2.2.2.2.2.2.2.2.2.2.1
theorem dqf177 : ∀ pc, dqf pc 177 = (pure .return_ : Decoder Instr) := dqfs.2.2.2.2.2.2.2.2.2.2.2.2.2.2.2.2.2.2.2.2.2.2.2.2.2.2.2.2.2.2.2.2.2.2.2.2.2.2.2.2.2.2.2.2.2.2.2.2.2.2.2.2.2.2.2.2.2.2.2.2.2.2.2.2.2.2.2.2.2.2.2.2.2.2.2.2.2.2.2.2.2.2.1
theorem dqf190 : ∀ pc, dqf pc 190 = (pure .arraylength : Decoder Instr) := dqfs.2.2.2.2.2.2.2.2.2.2.2.2.2.2.2.2.2.2.2.2.2.2.2.2.2.2.2.2.2.2.2.2.2.2.2.2.2.2.2.2.2.2.2.2.2.2.2.2.2.2.2.2.2.2.2.2.2.2.2.2.2.2.2.2.2.2.2.2.2.2.2.2.2.2.2.2.2.2.2.2.2.2.2.1
theorem dqf18 : ∀ pc, dqf pc 18 = ((Reader.u1 : Decoder Nat) >>= fun a => (pure (.ldc a) : Decoder Instr)) := dqfs.2.2.2.2.2.2.2.2.2.2.2.2.2.2.2.2.2.2.2.2.2.2.2.2.2.2.2.2.2.2.2.2.2.2.2.2.2.2.2.2.2.2.2.2.2.2.2.2.2.2.2.2.2.2.2.2.2.2.2.2.2.2.2.2.2.2.2.2.2.2.2.2.2.2.2.2.2.2.2.2.2.2.2.2.1
theorem dqf21 : ∀ pc, dqf pc 21 = ((Reader.u1 : Decoder Nat) >>= fun a => (pure (.iload a) : Decoder Instr)) := dqfs.2.2.2.2.2.2.2.2.2.2.2.2.2.2.2.2.2.2.2.2.2.2.2.2.2.2.2.2.2.2.2.2.2.2.2.2.2.2.2.2.2.2.2.2.2.2.2.2.2.2.2.2.2.2.2.2.2.2.2.2.2.2.2.2.2.2.2.2.2.2.2.2.2.2.2.2.2.2.2.2.2.2.2.2.2.1
theorem dqf22 : ∀ pc, dqf pc 22 = ((Reader.u1 : Decoder Nat) >>= fun a => (pure (.lload a) : Decoder Instr)) := dqfs.2.2.2.2.2.2.2.2.2.2.2.2.2.2.2.2.2.2.2.2.2.2.2.2.2.2.2.2.2.2.2.2.2.2.2.2.2.2.2.2.2.2.2.2.2.2.2.2.2.2.2.2.2.2.2.2.2.2.2.2.2.2.2.2.2.2.2.2.2.2.2.2.2.2.2.2.2.2.2.2.2.2.2.2.2.2.1
theorem dqf25 : ∀ pc, dqf pc 25 = ((Reader.u1 : Decoder Nat) >>= fun a => (pure (.aload a) : Decoder Instr)) := dqfs.2.2.2.2.2.2.2.2.2.2.2.2.2.2.2.2.2.2.2.2.2.2.2.2.2.2.2.2.2.2.2.2.2.2.2.2.2.2.2.2.2.2.2.2.2.2.2.2.2.2.2.2.2.2.2.2.2.2.2.2.2.2.2.2.2.2.2.2.2.2.2.2.2.2.2.2.2.2.2.2.2.2.2.2.2.2.2.1
theorem dqf54 : ∀ pc, dqf pc 54 = ((Reader.u1 : Decoder Nat) >>= fun a => (pure (.istore a) : Decoder Instr)) := dqfs.2.2.2.2.2.2.2.2.2.2.2.2.2.2.2.2.2.2.2.2.2.2.2.2.2.2.2.2.2.2.2.2.2.2.2.2.2.2.2.2.2.2.2.2.2.2.2.2.2.2.2.2.2.2.2.2.2.2.2.2.2.2.2.2.2.2.2.2.2.2.2.2.2.2.2.2.2.2.2.2.2.2.2.2.2.2.2.2.1
theorem dqf55 : ∀ pc, dqf pc 55 = ((Reader.u1 : Decoder Nat) >>= fun a => (pure (.lstore a) : Decoder Instr)) := dqfs.2.2.2.2.2.2.2.2.2.2.2.2.2.2.2.2.2.2.2.2.2.2.2.2.2.2.2.2.2.2.2.2.2.2.2.2.2.2.2.2.2.2.2.2.2.2.2.2.2.2.2.2.2.2.2.2.2.2.2.2.2.2.2.2.2.2.2.2.2.2.2.2.2.2.2.2.2.2.2.2.2.2.2.2.2.2.2.2.2.1
theorem dqf58 : ∀ pc, dqf pc 58 = ((Reader.u1 : Decoder Nat) >>= fun a => (pure (.astore a) : Decoder Instr)) := dqfs.2.2.2.2.2.2.2.2.2.2.2.2.2.2.2.2.2.2.2.2.2.2.2.2.2.2.2.2.2.2.2.2.2.2.2.2.2.2.2.2.2.2.2.2.2.2.2.2.2.2.2.2.2.2.2.2.2.2.2.2.2.2.2.2.2.2.2.2.2.2.2.2.2.2.2.2.2.2.2.2.2.2.2.2.2.2.2.2.2.2.1
theorem dqf16 : ∀ pc, dqf pc 16 = ((Reader.s1 : Decoder Int) >>= fun a => (pure (.bipush a) : Decoder Instr)) := dqfs.2.2.2.2.2.2.2.2.2.2.2.2.2.2.2.2.2.2.2.2.2.2.2.2.2.2.2.2.2.2.2.2.2.2.2.2.2.2.2.2.2.2.2.2.2.2.2.2.2.2.2.2.2.2.2.2.2.2.2.2.2.2.2.2.2.2.2.2.2.2.2.2.2.2.2.2.2.2.2.2.2.2.2.2.2.2.2.2.2.2.2.1
theorem dqf17 : ∀ pc, dqf pc 17 = ((Reader.s2 : Decoder Int) >>= fun a => (pure (.sipush a) : Decoder Instr)) := dqfs.2.2.2.2.2.2.2.2.2.2.2.2.2.2.2.2.2.2.2.2.2.2.2.2.2.2.2.2.2.2.2.2.2.2.2.2.2.2.2.2.2.2.2.2.2.2.2.2.2.2.2.2.2.2.2.2.2.2.2.2.2.2.2.2.2.2.2.2.2.2.2.2.2.2.2.2.2.2.2.2.2.2.2.2.2.2.2.2.2.2.2.2.1
theorem dqf167 : ∀ pc, dqf pc 167 = ((Reader.s2 : Decoder Int) >>= fun a => (pure (.goto a) : Decoder Instr)) := dqfs.2.2.2.2.2.2.2.2.2.2.2.2.2.2.2.2.2.2.2.2.2.2.2.2.2.2.2.2.2.2.2.2.2.2.2.2.2.2.2.2.2.2.2.2.2.2.2.2.2.2.2.2.2.2.2.2.2.2.2.2.2.2.2.2.2.2.2.2.2.2.2.2.2.2.2.2.2.2.2.2.2.2.2.2.2.2.2.2.2.2.2.2.2.1
theorem dqf198 : ∀ pc, dqf pc 198 = ((Reader.s2 : Decoder Int) >>= fun a => (pure (.ifnull a) : Decoder Instr)) := dqfs.2.2.2.2.2.2.2.2.2.2.2.2.2.2.2.2.2.2.2.2.2.2.2.2.2.2.2.2.2.2.2.2.2.2.2.2.2.2.2.2.2.2.2.2.2.2.2.2.2.2.2.2.2.2.2.2.2.2.2.2.2.2.2.2.2.2.2.2.2.2.2.2.2.2.2.2.2.2.2.2.2.2.2.2.2.2.2.2.2.2.2.2.2.2.1
theorem dqf199 : ∀ pc, dqf pc 199 = ((Reader.s2 : Decoder Int) >>= fun a => (pure (.ifnonnull a) : Decoder Instr)) := dqfs.2.2.2.2.2.2.2.2.2.2.2.2.2.2.2.2.2.2.2.2.2.2.2.2.2.2.2.2.2.2.2.2.2.2.2.2.2.2.2.2.2.2.2.2.2.2.2.2.2.2.2.2.2.2.2.2.2.2.2.2.2.2.2.2.2.2.2.2.2.2.2.2.2.2.2.2.2.2.2.2.2.2.2.2.2.2.2.2.2.2.2.2.2.2.2.1
theorem dqf153 : ∀ pc, dqf pc 153 = ((Reader.s2 : Decoder Int) >>= fun a => (pure (.ifCond .eq a) : Decoder Instr)) := dqfs.2.2.2.2.2.2.2.2.2.2.2.2.2.2.2.2.2.2.2.2.2.2.2.2.2.2.2.2.2.2.2.2.2.2.2.2.2.2.2.2.2.2.2.2.2.2.2.2.2.2.2.2.2.2.2.2.2.2.2.2.2.2.2.2.2.2.2.2.2.2.2.2.2.2.2.2.2.2.2.2.2.2.2.2.2.2.2.2.2.2.2.2.2.2.2.2.1
theorem dqf159 : ∀ pc, dqf pc 159 = ((Reader.s2 : Decoder Int) >>= fun a => (pure (.if_icmp .eq a) : Decoder Instr)) := dqfs.2.2.2.2.2.2.2.2.2.2.2.2.2.2.2.2.2.2.2.2.2.2.2.2.2.2.2.2.2.2.2.2.2.2.2.2.2.2.2.2.2.2.2.2.2.2.2.2.2.2.2.2.2.2.2.2.2.2.2.2.2.2.2.2.2.2.2.2.2.2.2.2.2.2.2.2.2.2.2.2.2.2.2.2.2.2.2.2.2.2.2.2.2.2.2.2.2.1
theorem dqf154 : ∀ pc, dqf pc 154 = ((Reader.s2 : Decoder Int) >>= fun a => (pure (.ifCond .ne a) : Decoder Instr)) := dqfs.2.2.2.2.2.2.2.2.2.2.2.2.2.2.2.2.2.2.2.2.2.2.2.2.2.2.2.2.2.2.2.2.2.2.2.2.2.2.2.2.2.2.2.2.2.2.2.2.2.2.2.2.2.2.2.2.2.2.2.2.2.2.2.2.2.2.2.2.2.2.2.2.2.2.2.2.2.2.2.2.2.2.2.2.2.2.2.2.2.2.2.2.2.2.2.2.2.2.1
theorem dqf160 : ∀ pc, dqf pc 160 = ((Reader.s2 : Decoder Int) >>= fun a => (pure (.if_icmp .ne a) : Decoder Instr)) := dqfs.2.2.2.2.2.2.2.2.2.2.2.2.2.2.2.2.2.2.2.2.2.2.2.2.2.2.2.2.2.2.2.2.2.2.2.2.2.2.2.2.2.2.2.2.2.2.2.2.2.2.2.2.2.2.2.2.2.2.2.2.2.2.2.2.2.2.2.2.2.2.2.2.2.2.2.2.2.2.2.2.2.2.2.2.2.2.2.2.2.2.2.2.2.2.2.2.2.2.2.1
theorem dqf155 : ∀ pc, dqf pc 155 = ((Reader.s2 : Decoder Int) >>= fun a => (pure (.ifCond .lt a) : Decoder Instr)) := dqfs.2.2.2.2.2.2.2.2.2.2.2.2.2.2.2.2.2.2.2.2.2.2.2.2.2.2.2.2.2.2.2.2.2.2.2.2.2.2.2.2.2.2.2.2.2.2.2.2.2.2.2.2.2.2.2.2.2.2.2.2.2.2.2.2.2.2.2.2.2.2.2.2.2.2.2.2.2.2.2.2.2.2.2.2.2.2.2.2.2.2.2.2.2.2.2.2.2.2.2.2.1
theorem dqf161 : ∀ pc, dqf pc 161 = ((Reader.s2 : Decoder Int) >>= fun a => (pure (.if_icmp .lt a) : Decoder Instr)) := dqfs.2.2.2.2.2.2.2.2.2.2.2.2.2.2.2.2.2.2.2.2.2.2.2.2.2.2.2.2.2.2.2.2.2.2.2.2.2.2.2.2.2.2.2.2.2.2.2.2.2.2.2.2.2.2.2.2.2.2.2.2.2.2.2.2.2.2.2.2.2.2.2.2.2.2.2.2.2.2.2.2.2.2.2.2.2.2.2.2.2.2.2.2.2.2.2.2.2.2.2.2.2.1
theorem dqf156 : ∀ pc, dqf pc 156 = ((Reader.s2 : Decoder Int) >>= fun a => (pure (.ifCond .ge a) : Decoder Instr)) := dqfs.2.2.2.2.2.2.2.2.2.2.2.2.2.2.2.2.2.2.2.2.2.2.2.2.2.2.2.2.2.2.2.2.2.2.2.2.2.2.2.2.2.2.2.2.2.2.2.2.2.2.2.2.2.2.2.2.2.2.2.2.2.2.2.2.2.2.2.2.2.2.2.2.2.2.2.2.2.2.2.2.2.2.2.2.2.2.2.2.2.2.2.2.2.2.2.2.2.2.2.2.2.2.1
theorem dqf162 : ∀ pc, dqf pc 162 = ((Reader.s2 : Decoder Int) >>= fun a => (pure (.if_icmp .ge a) : Decoder Instr)) := dqfs.2.2.2.2.2.2.2.2.2.2.2.2.2.2.2.2.2.2.2.2.2.2.2.2.2.2.2.2.2.2.2.2.2.2.2.2.2.2.2.2.2.2.2.2.2.2.2.2.2.2.2.2.2.2.2.2.2.2.2.2.2.2.2.2.2.2.2.2.2.2.2.2.2.2.2.2.2.2.2.2.2.2.2.2.2.2.2.2.2.2.2.2.2.2.2.2.2.2.2.2.2.2.2.1
theorem dqf157 : ∀ pc, dqf pc 157 = ((Reader.s2 : Decoder Int) >>= fun a => (pure (.ifCond .gt a) : Decoder Instr)) := dqfs.2.2.2.2.2.2.2.2.2.2.2.2.2.2.2.2.2.2.2.2.2.2.2.2.2.2.2.2.2.2.2.2.2.2.2.2.2.2.2.2.2.2.2.2.2.2.2.2.2.2.2.2.2.2.2.2.2.2.2.2.2.2.2.2.2.2.2.2.2.2.2.2.2.2.2.2.2.2.2.2.2.2.2.2.2.2.2.2.2.2.2.2.2.2.2.2.2.2.2.2.2.2.2.2.1
theorem dqf163 : ∀ pc, dqf pc 163 = ((Reader.s2 : Decoder Int) >>= fun a => (pure (.if_icmp .gt a) : Decoder Instr)) := dqfs.2.2.2.2.2.2.2.2.2.2.2.2.2.2.2.2.2.2.2.2.2.2.2.2.2.2.2.2.2.2.2.2.2.2.2.2.2.2.2.2.2.2.2.2.2.2.2.2.2.2.2.2.2.2.2.2.2.2.2.2.2.2.2.2.2.2.2.2.2.2.2.2.2.2.2.2.2.2.2.2.2.2.2.2.2.2.2.2.2.2.2.2.2.2.2.2.2.2.2.2.2.2.2.2.2.1
theorem dqf158 : ∀ pc, dqf pc 158 = ((Reader.s2 : Decoder Int) >>= fun a => (pure (.ifCond .le a) : Decoder Instr)) := dqfs.2.2.2.2.2.2.2.2.2.2.2.2.2.2.2.2.2.2.2.2.2.2.2.2.2.2.2.2.2.2.2.2.2.2.2.2.2.2.2.2.2.2.2.2.2.2.2.2.2.2.2.2.2.2.2.2.2.2.2.2.2.2.2.2.2.2.2.2.2.2.2.2.2.2.2.2.2.2.2.2.2.2.2.2.2.2.2.2.2.2.2.2.2.2.2.2.2.2.2.2.2.2.2.2.2.2.1
theorem dqf164 : ∀ pc, dqf pc 164 = ((Reader.s2 : Decoder Int) >>= fun a => (pure (.if_icmp .le a) : Decoder Instr)) := dqfs.2.2.2.2.2.2.2.2.2.2.2.2.2.2.2.2.2.2.2.2.2.2.2.2.2.2.2.2.2.2.2.2.2.2.2.2.2.2.2.2.2.2.2.2.2.2.2.2.2.2.2.2.2.2.2.2.2.2.2.2.2.2.2.2.2.2.2.2.2.2.2.2.2.2.2.2.2.2.2.2.2.2.2.2.2.2.2.2.2.2.2.2.2.2.2.2.2.2.2.2.2.2.2.2.2.2.2.1
theorem dqf165 : ∀ pc, dqf pc 165 = ((Reader.s2 : Decoder Int) >>= fun a => (pure (.if_acmp .eq a) : Decoder Instr)) := dqfs.2.2.2.2.2.2.2.2.2.2.2.2.2.2.2.2.2.2.2.2.2.2.2.2.2.2.2.2.2.2.2.2.2.2.2.2.2.2.2.2.2.2.2.2.2.2.2.2.2.2.2.2.2.2.2.2.2.2.2.2.2.2.2.2.2.2.2.2.2.2.2.2.2.2.2.2.2.2.2.2.2.2.2.2.2.2.2.2.2.2.2.2.2.2.2.2.2.2.2.2.2.2.2.2.2.2.2.2.1
theorem dqf166 : ∀ pc, dqf pc 166 = ((Reader.s2 : Decoder Int) >>= fun a => (pure (.if_acmp .ne a) : Decoder Instr)) := dqfs.2.2.2.2.2.2.2.2.2.2.2.2.2.2.2.2.2.2.2.2.2.2.2.2.2.2.2.2.2.2.2.2.2.2.2.2.2.2.2.2.2.2.2.2.2.2.2.2.2.2.2.2.2.2.2.2.2.2.2.2.2.2.2.2.2.2.2.2.2.2.2.2.2.2.2.2.2.2.2.2.2.2.2.2.2.2.2.2.2.2.2.2.2.2.2.2.2.2.2.2.2.2.2.2.2.2.2.2.2.1
theorem dqf19 : ∀ pc, dqf pc 19 = ((Reader.u2 : Decoder Nat) >>= fun a => (pure (.ldc_w a) : Decoder Instr)) := dqfs.2.2.2.2.2.2.2.2.2.2.2.2.2.2.2.2.2.2.2.2.2.2.2.2.2.2.2.2.2.2.2.2.2.2.2.2.2.2.2.2.2.2.2.2.2.2.2.2.2.2.2.2.2.2.2.2.2.2.2.2.2.2.2.2.2.2.2.2.2.2.2.2.2.2.2.2.2.2.2.2.2.2.2.2.2.2.2.2.2.2.2.2.2.2.2.2.2.2.2.2.2.2.2.2.2.2.2.2.2.2.1
theorem dqf20 : ∀ pc, dqf pc 20 = ((Reader.u2 : Decoder Nat) >>= fun a => (pure (.ldc2_w a) : Decoder Instr)) := dqfs.2.2.2.2.2.2.2.2.2.2.2.2.2.2.2.2.2.2.2.2.2.2.2.2.2.2.2.2.2.2.2.2.2.2.2.2.2.2.2.2.2.2.2.2.2.2.2.2.2.2.2.2.2.2.2.2.2.2.2.2.2.2.2.2.2.2.2.2.2.2.2.2.2.2.2.2.2.2.2.2.2.2.2.2.2.2.2.2.2.2.2.2.2.2.2.2.2.2.2.2.2.2.2.2.2.2.2.2.2.2.2.1
theorem dqf178 : ∀ pc, dqf pc 178 = ((Reader.u2 : Decoder Nat) >>= fun a => (pure (.getstatic a) : Decoder Instr)) := dqfs.2.2.2.2.2.2.2.2.2.2.2.2.2.2.2.2.2.2.2.2.2.2.2.2.2.2.2.2.2.2.2.2.2.2.2.2.2.2.2.2.2.2.2.2.2.2.2.2.2.2.2.2.2.2.2.2.2.2.2.2.2.2.2.2.2.2.2.2.2.2.2.2.2.2.2.2.2.2.2.2.2.2.2.2.2.2.2.2.2.2.2.2.2.2.2.2.2.2.2.2.2.2.2.2.2.2.2.2.2.2.2.2.1
theorem dqf179 : ∀ pc, dqf pc 179 = ((Reader.u2 : Decoder Nat) >>= fun a => (pure (.putstatic a) : Decoder Instr)) := dqfs.2.2.2.2.2.2.2.2.2.2.2.2.2.2.2.2.2.2.2.2.2.2.2.2.2.2.2.2.2.2.2.2.2.2.2.2.2.2.2.2.2.2.2.2.2.2.2.2.2.2.2.2.2.2.2.2.2.2.2.2.2.2.2.2.2.2.2.2.2.2.2.2.2.2.2.2.2.2.2.2.2.2.2.2.2.2.2.2.2.2.2.2.2.2.2.2.2.2.2.2.2.2.2.2.2.2.2.2.2.2.2.2.2.1
theorem dqf180 : ∀ pc, dqf pc 180 = ((Reader.u2 : Decoder Nat) >>= fun a => (pure (.getfield a) : Decoder Instr)) := dqfs.2.2.2.2.2.2.2.2.2.2.2.2.2.2.2.2.2.2.2.2.2.2.2.2.2.2.2.2.2.2.2.2.2.2.2.2.2.2.2.2.2.2.2.2.2.2.2.2.2.2.2.2.2.2.2.2.2.2.2.2.2.2.2.2.2.2.2.2.2.2.2.2.2.2.2.2.2.2.2.2.2.2.2.2.2.2.2.2.2.2.2.2.2.2.2.2.2.2.2.2.2.2.2.2.2.2.2.2.2.2.2.2.2.2.1
theorem dqf181 : ∀ pc, dqf pc 181 = ((Reader.u2 : Decoder Nat) >>= fun a => (pure (.putfield a) : Decoder Instr)) := dqfs.2.2.2.2.2.2.2.2.2.2.2.2.2.2.2.2.2.2.2.2.2.2.2.2.2.2.2.2.2.2.2.2.2.2.2.2.2.2.2.2.2.2.2.2.2.2.2.2.2.2.2.2.2.2.2.2.2.2.2.2.2.2.2.2.2.2.2.2.2.2.2.2.2.2.2.2.2.2.2.2.2.2.2.2.2.2.2.2.2.2.2.2.2.2.2.2.2.2.2.2.2.2.2.2.2.2.2.2.2.2.2.2.2.2.2.1
theorem dqf182 : ∀ pc, dqf pc 182 = ((Reader.u2 : Decoder Nat) >>= fun a => (pure (.invokevirtual a) : Decoder Instr)) := dqfs.2.2.2.2.2.2.2.2.2.2.2.2.2.2.2.2.2.2.2.2.2.2.2.2.2.2.2.2.2.2.2.2.2.2.2.2.2.2.2.2.2.2.2.2.2.2.2.2.2.2.2.2.2.2.2.2.2.2.2.2.2.2.2.2.2.2.2.2.2.2.2.2.2.2.2.2.2.2.2.2.2.2.2.2.2.2.2.2.2.2.2.2.2.2.2.2.2.2.2.2.2.2.2.2.2.2.2.2.2.2.2.2.2.2.2.2.1
theorem dqf183 : ∀ pc, dqf pc 183 = ((Reader.u2 : Decoder Nat) >>= fun a => (pure (.invokespecial a) : Decoder Instr)) := dqfs.2.2.2.2.2.2.2.2.2.2.2.2.2.2.2.2.2.2.2.2.2.2.2.2.2.2.2.2.2.2.2.2.2.2.2.2.2.2.2.2.2.2.2.2.2.2.2.2.2.2.2.2.2.2.2.2.2.2.2.2.2.2.2.2.2.2.2.2.2.2.2.2.2.2.2.2.2.2.2.2.2.2.2.2.2.2.2.2.2.2.2.2.2.2.2.2.2.2.2.2.2.2.2.2.2.2.2.2.2.2.2.2.2.2.2.2.2.1
theorem dqf184 : ∀ pc, dqf pc 184 = ((Reader.u2 : Decoder Nat) >>= fun a => (pure (.invokestatic a) : Decoder Instr)) := dqfs.2.2.2.2.2.2.2.2.2.2.2.2.2.2.2.2.2.2.2.2.2.2.2.2.2.2.2.2.2.2.2.2.2.2.2.2.2.2.2.2.2.2.2.2.2.2.2.2.2.2.2.2.2.2.2.2.2.2.2.2.2.2.2.2.2.2.2.2.2.2.2.2.2.2.2.2.2.2.2.2.2.2.2.2.2.2.2.2.2.2.2.2.2.2.2.2.2.2.2.2.2.2.2.2.2.2.2.2.2.2.2.2.2.2.2.2.2.2.1
theorem dqf187 : ∀ pc, dqf pc 187 = ((Reader.u2 : Decoder Nat) >>= fun a => (pure (.new a) : Decoder Instr)) := dqfs.2.2.2.2.2.2.2.2.2.2.2.2.2.2.2.2.2.2.2.2.2.2.2.2.2.2.2.2.2.2.2.2.2.2.2.2.2.2.2.2.2.2.2.2.2.2.2.2.2.2.2.2.2.2.2.2.2.2.2.2.2.2.2.2.2.2.2.2.2.2.2.2.2.2.2.2.2.2.2.2.2.2.2.2.2.2.2.2.2.2.2.2.2.2.2.2.2.2.2.2.2.2.2.2.2.2.2.2.2.2.2.2.2.2.2.2.2.2.2.1
theorem dqf189 : ∀ pc, dqf pc 189 = ((Reader.u2 : Decoder Nat) >>= fun a => (pure (.anewarray a) : Decoder Instr)) := dqfs.2.2.2.2.2.2.2.2.2.2.2.2.2.2.2.2.2.2.2.2.2.2.2.2.2.2.2.2.2.2.2.2.2.2.2.2.2.2.2.2.2.2.2.2.2.2.2.2.2.2.2.2.2.2.2.2.2.2.2.2.2.2.2.2.2.2.2.2.2.2.2.2.2.2.2.2.2.2.2.2.2.2.2.2.2.2.2.2.2.2.2.2.2.2.2.2.2.2.2.2.2.2.2.2.2.2.2.2.2.2.2.2.2.2.2.2.2.2.2.2.1
theorem dqf192 : ∀ pc, dqf pc 192 = ((Reader.u2 : Decoder Nat) >>= fun a => (pure (.checkcast a) : Decoder Instr)) := dqfs.2.2.2.2.2.2.2.2.2.2.2.2.2.2.2.2.2.2.2.2.2.2.2.2.2.2.2.2.2.2.2.2.2.2.2.2.2.2.2.2.2.2.2.2.2.2.2.2.2.2.2.2.2.2.2.2.2.2.2.2.2.2.2.2.2.2.2.2.2.2.2.2.2.2.2.2.2.2.2.2.2.2.2.2.2.2.2.2.2.2.2.2.2.2.2.2.2.2.2.2.2.2.2.2.2.2.2.2.2.2.2.2.2.2.2.2.2.2.2.2.2.1
theorem dqf193 : ∀ pc, dqf pc 193 = ((Reader.u2 : Decoder Nat) >>= fun a => (pure (.instanceof a) : Decoder Instr)) := dqfs.2.2.2.2.2.2.2.2.2.2.2.2.2.2.2.2.2.2.2.2.2.2.2.2.2.2.2.2.2.2.2.2.2.2.2.2.2.2.2.2.2.2.2.2.2.2.2.2.2.2.2.2.2.2.2.2.2.2.2.2.2.2.2.2.2.2.2.2.2.2.2.2.2.2.2.2.2.2.2.2.2.2.2.2.2.2.2.2.2.2.2.2.2.2.2.2.2.2.2.2.2.2.2.2.2.2.2.2.2.2.2.2.2.2.2.2.2.2.2.2.2.2.1
theorem dqf132 : ∀ pc, dqf pc 132 = ((Reader.u1 : Decoder Nat) >>= fun a => (Reader.s1 : Decoder Int) >>= fun b => (pure (.iinc a b) : Decoder Instr)) := dqfs.2.2.2.2.2.2.2.2.2.2.2.2.2.2.2.2.2.2.2.2.2.2.2.2.2.2.2.2.2.2.2.2.2.2.2.2.2.2.2.2.2.2.2.2.2.2.2.2.2.2.2.2.2.2.2.2.2.2.2.2.2.2.2.2.2.2.2.2.2.2.2.2.2.2.2.2.2.2.2.2.2.2.2.2.2.2.2.2.2.2.2.2.2.2.2.2.2.2.2.2.2.2.2.2.2.2.2.2.2.2.2.2.2.2.2.2.2.2.2.2.2.2.2
theorem dq_go {c : ByteArray} {pc n : Nat} (hp : pc < c.size) (hn : (c[pc]'hp).toNat = n) : Reader.runAt (Decoder.instr pc) c pc = Reader.runAt (dqf pc n) c (pc + 1) := by
  rw [dqfs.1, dq_bind, dq_u1 c pc hp, hn]; rfl
theorem dq0 {c : ByteArray} {pc n : Nat} {I : Instr} (hf : ∀ pc, dqf pc n = Pure.pure I) (h : dqB c pc [n] = true) : decode c pc = .ok (I, 1) := by
  obtain ⟨⟨hp, hn⟩, -⟩ := dq_at h
  exact dq_dec (by rw [dq_go hp hn, hf]; rfl)
theorem dq1 {c : ByteArray} {pc n a : Nat} {C : Nat → Instr} (hf : ∀ pc, dqf pc n = (Reader.u1 >>= fun a => Pure.pure (C a))) (h : dqB c pc [n, a] = true) : decode c pc = .ok (C a, 2) := by
  obtain ⟨⟨hp, hn⟩, h2⟩ := dq_at h
  obtain ⟨⟨hq, ha⟩, -⟩ := dq_at h2
  exact dq_dec (by rw [dq_go hp hn, hf, dq_bind, dq_u1 c (pc + 1) hq, ha]; rfl)
theorem dqs1 {c : ByteArray} {pc n a : Nat} {v : Int} {C : Int → Instr} (hf : ∀ pc, dqf pc n = (Reader.s1 >>= fun a => Pure.pure (C a))) (h : (dqB c pc [n, a] && decide (Reader.signed 8 a = v)) = true) : decode c pc = .ok (C v, 2) := by
  rw [Bool.and_eq_true, decide_eq_true_eq] at h
  obtain ⟨⟨hp, hn⟩, h2⟩ := dq_at h.1
  obtain ⟨⟨hq, ha⟩, -⟩ := dq_at h2
  exact dq_dec (by rw [dq_go hp hn, hf, dq_bind, dq_s1 c (pc + 1) hq, ha, h.2]; rfl)
theorem dq2 {c : ByteArray} {pc n a b v : Nat} {C : Nat → Instr} (hf : ∀ pc, dqf pc n = (Reader.u2 >>= fun a => Pure.pure (C a))) (h : (dqB c pc [n, a, b] && Nat.beq (a * 256 + b) v) = true) : decode c pc = .ok (C v, 3) := by
  rw [Bool.and_eq_true] at h
  have hv := Nat.eq_of_beq_eq_true h.2
  obtain ⟨⟨hp, hn⟩, h2⟩ := dq_at h.1
  obtain ⟨⟨hq, ha⟩, h3⟩ := dq_at h2
  obtain ⟨⟨hr, hb⟩, -⟩ := dq_at h3
  exact dq_dec (by rw [dq_go hp hn, hf, dq_bind, dq_u2 c (pc + 1) hq hr, ha, hb, hv]; rfl)
theorem dqs2 {c : ByteArray} {pc n a b : Nat} {v : Int} {C : Int → Instr} (hf : ∀ pc, dqf pc n = (Reader.s2 >>= fun a => Pure.pure (C a))) (h : (dqB c pc [n, a, b] && decide (Reader.signed 16 (a * 256 + b) = v)) = true) : decode c pc = .ok (C v, 3) := by
  rw [Bool.and_eq_true, decide_eq_true_eq] at h
  obtain ⟨⟨hp, hn⟩, h2⟩ := dq_at h.1
  obtain ⟨⟨hq, ha⟩, h3⟩ := dq_at h2
  obtain ⟨⟨hr, hb⟩, -⟩ := dq_at h3
  exact dq_dec (by rw [dq_go hp hn, hf, dq_bind, dq_s2 c (pc + 1) hq hr, ha, hb, h.2]; rfl)
theorem dqi {c : ByteArray} {pc a b : Nat} {v : Int} (hf : ∀ pc, dqf pc 132 = (Reader.u1 >>= fun a => Reader.s1 >>= fun b => Pure.pure (Instr.iinc a b))) (h : (dqB c pc [132, a, b] && decide (Reader.signed 8 b = v)) = true) : decode c pc = .ok (.iinc a v, 3) := by
  rw [Bool.and_eq_true, decide_eq_true_eq] at h
  obtain ⟨⟨hp, hn⟩, h2⟩ := dq_at h.1
  obtain ⟨⟨hq, ha⟩, h3⟩ := dq_at h2
  obtain ⟨⟨hr, hb⟩, -⟩ := dq_at h3
  have e : Reader.runAt (Reader.s1 >>= fun b => Pure.pure (Instr.iinc a b) : Decoder Instr) c (pc + 1 + 1) = .ok (.iinc a v, pc + 3) := by
    rw [dq_bind, dq_s1 c (pc + 1 + 1) hr, hb, h.2]; rfl
  exact dq_dec (by rw [dq_go hp hn, hf, dq_bind, dq_u1 c (pc + 1) hq, ha]; exact e)
