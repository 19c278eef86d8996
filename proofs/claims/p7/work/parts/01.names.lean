-- ===== PART A: goes FIRST, ahead of the names: the tables' words, and 'selects' of the private methods out of them =====
/-- a private method of a class that the tables say can be made, by its rows of tables_1 -/
def lw_okq (q : MethodName × Nat) : Prop := (q.1.cls ≠ "java/lang/invoke/MethodHandle" ∧ q.1.cls ≠ "java/lang/invoke/VarHandle") ∧ Cond.instantiable q.1.cls q.2 ∈ tables_1 ∧ Cond.privateMethod q.1 ∈ tables_1 ∧ Cond.instanceMethod q.1 ∈ tables_1
theorem lw_c0 : ("ScruffPaper" ≠ "java/lang/invoke/MethodHandle" ∧ "ScruffPaper" ≠ "java/lang/invoke/VarHandle") ∧ Cond.instantiable "ScruffPaper" 9 ∈ tables_1 := ⟨⟨by decide +kernel, by decide +kernel⟩, List.mem_of_getElem? (i := 23) (by decide +kernel)⟩
theorem lw_p0 : lw_okq (⟨"ScruffPaper", "tapeHas", "(II)Z"⟩, 9) := ⟨lw_c0.1, lw_c0.2, List.mem_of_getElem? (i := 361) (by decide +kernel), List.mem_of_getElem? (i := 362) (by decide +kernel)⟩
theorem lw_c1 : ("ScruffPaper$Scribe" ≠ "java/lang/invoke/MethodHandle" ∧ "ScruffPaper$Scribe" ≠ "java/lang/invoke/VarHandle") ∧ Cond.instantiable "ScruffPaper$Scribe" 8 ∈ tables_1 := ⟨⟨by decide +kernel, by decide +kernel⟩, List.mem_of_getElem? (i := 47) (by decide +kernel)⟩
theorem lw_p1 : lw_okq (⟨"ScruffPaper$Scribe", "begin", "([II)V"⟩, 8) := ⟨lw_c1.1, lw_c1.2, List.mem_of_getElem? (i := 369) (by decide +kernel), List.mem_of_getElem? (i := 370) (by decide +kernel)⟩
theorem lw_p2 : lw_okq (⟨"ScruffPaper$Scribe", "clauseStands", "(CI)Z"⟩, 8) := ⟨lw_c1.1, lw_c1.2, List.mem_of_getElem? (i := 376) (by decide +kernel), List.mem_of_getElem? (i := 377) (by decide +kernel)⟩
theorem lw_p3 : lw_okq (⟨"ScruffPaper$Scribe", "signStands", "(C)Z"⟩, 8) := ⟨lw_c1.1, lw_c1.2, List.mem_of_getElem? (i := 380) (by decide +kernel), List.mem_of_getElem? (i := 381) (by decide +kernel)⟩
theorem lw_p4 : lw_okq (⟨"ScruffPaper$Scribe", "next", "()I"⟩, 8) := ⟨lw_c1.1, lw_c1.2, List.mem_of_getElem? (i := 384) (by decide +kernel), List.mem_of_getElem? (i := 385) (by decide +kernel)⟩
theorem lw_p5 : lw_okq (⟨"ScruffPaper$Scribe", "fail", "(I)Z"⟩, 8) := ⟨lw_c1.1, lw_c1.2, List.mem_of_getElem? (i := 388) (by decide +kernel), List.mem_of_getElem? (i := 389) (by decide +kernel)⟩
theorem lw_p6 : lw_okq (⟨"ScruffPaper$Scribe", "rowStands", "(II)Z"⟩, 8) := ⟨lw_c1.1, lw_c1.2, List.mem_of_getElem? (i := 392) (by decide +kernel), List.mem_of_getElem? (i := 393) (by decide +kernel)⟩
theorem lw_p7 : lw_okq (⟨"ScruffPaper$Scribe", "operandStands", "(II)Z"⟩, 8) := ⟨lw_c1.1, lw_c1.2, List.mem_of_getElem? (i := 396) (by decide +kernel), List.mem_of_getElem? (i := 397) (by decide +kernel)⟩
theorem lw_p8 : lw_okq (⟨"ScruffPaper$Scribe", "pieceStands", "(I)Z"⟩, 8) := ⟨lw_c1.1, lw_c1.2, List.mem_of_getElem? (i := 400) (by decide +kernel), List.mem_of_getElem? (i := 401) (by decide +kernel)⟩
theorem lw_p9 : lw_okq (⟨"ScruffPaper$Scribe", "put", "(II)V"⟩, 8) := ⟨lw_c1.1, lw_c1.2, List.mem_of_getElem? (i := 404) (by decide +kernel), List.mem_of_getElem? (i := 405) (by decide +kernel)⟩
theorem lw_p10 : lw_okq (⟨"ScruffPaper$Scribe", "factorStands", "(I)Z"⟩, 8) := ⟨lw_c1.1, lw_c1.2, List.mem_of_getElem? (i := 408) (by decide +kernel), List.mem_of_getElem? (i := 409) (by decide +kernel)⟩
theorem lw_p11 : lw_okq (⟨"ScruffPaper$Scribe", "numberStands", "()Z"⟩, 8) := ⟨lw_c1.1, lw_c1.2, List.mem_of_getElem? (i := 415) (by decide +kernel), List.mem_of_getElem? (i := 416) (by decide +kernel)⟩
theorem lw_p12 : lw_okq (⟨"ScruffPaper$Scribe", "leapHere", "(I)V"⟩, 8) := ⟨lw_c1.1, lw_c1.2, List.mem_of_getElem? (i := 507) (by decide +kernel), List.mem_of_getElem? (i := 508) (by decide +kernel)⟩
theorem lw_p13 : lw_okq (⟨"ScruffPaper$Scribe", "written", "(I)LScruffPaper$Text;"⟩, 8) := ⟨lw_c1.1, lw_c1.2, List.mem_of_getElem? (i := 511) (by decide +kernel), List.mem_of_getElem? (i := 512) (by decide +kernel)⟩
theorem lw_c2 : ("ScruffPaper$Sky" ≠ "java/lang/invoke/MethodHandle" ∧ "ScruffPaper$Sky" ≠ "java/lang/invoke/VarHandle") ∧ Cond.instantiable "ScruffPaper$Sky" 4 ∈ tables_1 := ⟨⟨by decide +kernel, by decide +kernel⟩, List.mem_of_getElem? (i := 78) (by decide +kernel)⟩
theorem lw_p14 : lw_okq (⟨"ScruffPaper$Sky", "luck", "(III)I"⟩, 4) := ⟨lw_c2.1, lw_c2.2, List.mem_of_getElem? (i := 614) (by decide +kernel), List.mem_of_getElem? (i := 615) (by decide +kernel)⟩
theorem lw_c3 : ("ScruffPaper$Reckoner" ≠ "java/lang/invoke/MethodHandle" ∧ "ScruffPaper$Reckoner" ≠ "java/lang/invoke/VarHandle") ∧ Cond.instantiable "ScruffPaper$Reckoner" 2 ∈ tables_1 := ⟨⟨by decide +kernel, by decide +kernel⟩, List.mem_of_getElem? (i := 86) (by decide +kernel)⟩
theorem lw_p15 : lw_okq (⟨"ScruffPaper$Reckoner", "reckon", "([III)I"⟩, 2) := ⟨lw_c3.1, lw_c3.2, List.mem_of_getElem? (i := 623) (by decide +kernel), List.mem_of_getElem? (i := 624) (by decide +kernel)⟩
def lw_privs_1 : List (MethodName × Nat) := [(⟨"ScruffPaper", "tapeHas", "(II)Z"⟩, 9), (⟨"ScruffPaper$Scribe", "begin", "([II)V"⟩, 8), (⟨"ScruffPaper$Scribe", "clauseStands", "(CI)Z"⟩, 8), (⟨"ScruffPaper$Scribe", "signStands", "(C)Z"⟩, 8), (⟨"ScruffPaper$Scribe", "next", "()I"⟩, 8), (⟨"ScruffPaper$Scribe", "fail", "(I)Z"⟩, 8), (⟨"ScruffPaper$Scribe", "rowStands", "(II)Z"⟩, 8), (⟨"ScruffPaper$Scribe", "operandStands", "(II)Z"⟩, 8), (⟨"ScruffPaper$Scribe", "pieceStands", "(I)Z"⟩, 8), (⟨"ScruffPaper$Scribe", "put", "(II)V"⟩, 8), (⟨"ScruffPaper$Scribe", "factorStands", "(I)Z"⟩, 8), (⟨"ScruffPaper$Scribe", "numberStands", "()Z"⟩, 8), (⟨"ScruffPaper$Scribe", "leapHere", "(I)V"⟩, 8), (⟨"ScruffPaper$Scribe", "written", "(I)LScruffPaper$Text;"⟩, 8), (⟨"ScruffPaper$Sky", "luck", "(III)I"⟩, 4), (⟨"ScruffPaper$Reckoner", "reckon", "([III)I"⟩, 2)]
theorem lw_r1 : ∀ q ∈ lw_privs_1, lw_okq q := List.forall_mem_cons.mpr ⟨lw_p0, List.forall_mem_cons.mpr ⟨lw_p1, List.forall_mem_cons.mpr ⟨lw_p2, List.forall_mem_cons.mpr ⟨lw_p3, List.forall_mem_cons.mpr ⟨lw_p4, List.forall_mem_cons.mpr ⟨lw_p5, List.forall_mem_cons.mpr ⟨lw_p6, List.forall_mem_cons.mpr ⟨lw_p7, List.forall_mem_cons.mpr ⟨lw_p8, List.forall_mem_cons.mpr ⟨lw_p9, List.forall_mem_cons.mpr ⟨lw_p10, List.forall_mem_cons.mpr ⟨lw_p11, List.forall_mem_cons.mpr ⟨lw_p12, List.forall_mem_cons.mpr ⟨lw_p13, List.forall_mem_cons.mpr ⟨lw_p14, List.forall_mem_cons.mpr ⟨lw_p15, fun _ h => absurd h List.not_mem_nil⟩⟩⟩⟩⟩⟩⟩⟩⟩⟩⟩⟩⟩⟩⟩⟩
theorem lw_p16 : lw_okq (⟨"ScruffPaper$Sky", "layOne", "(LScruffPaper$Page;LScruffPaper$Source;)V"⟩, 4) := ⟨lw_c2.1, lw_c2.2, List.mem_of_getElem? (i := 654) (by decide +kernel), List.mem_of_getElem? (i := 655) (by decide +kernel)⟩
theorem lw_c4 : ("ScruffPaper$Page" ≠ "java/lang/invoke/MethodHandle" ∧ "ScruffPaper$Page" ≠ "java/lang/invoke/VarHandle") ∧ Cond.instantiable "ScruffPaper$Page" 7 ∈ tables_1 := ⟨⟨by decide +kernel, by decide +kernel⟩, List.mem_of_getElem? (i := 117) (by decide +kernel)⟩
theorem lw_p17 : lw_okq (⟨"ScruffPaper$Page", "greatestBefore", "(II)I"⟩, 7) := ⟨lw_c4.1, lw_c4.2, List.mem_of_getElem? (i := 674) (by decide +kernel), List.mem_of_getElem? (i := 675) (by decide +kernel)⟩
theorem lw_p18 : lw_okq (⟨"ScruffPaper$Page", "greatestOf", "(II)I"⟩, 7) := ⟨lw_c4.1, lw_c4.2, List.mem_of_getElem? (i := 678) (by decide +kernel), List.mem_of_getElem? (i := 679) (by decide +kernel)⟩
theorem lw_p19 : lw_okq (⟨"ScruffPaper$Page", "isMarked", "(II)Z"⟩, 7) := ⟨lw_c4.1, lw_c4.2, List.mem_of_getElem? (i := 684) (by decide +kernel), List.mem_of_getElem? (i := 685) (by decide +kernel)⟩
theorem lw_p20 : lw_okq (⟨"ScruffPaper$Page", "beginsMark", "(II)Z"⟩, 7) := ⟨lw_c4.1, lw_c4.2, List.mem_of_getElem? (i := 694) (by decide +kernel), List.mem_of_getElem? (i := 695) (by decide +kernel)⟩
theorem lw_p21 : lw_okq (⟨"ScruffPaper$Page", "numberOf", "(III)I"⟩, 7) := ⟨lw_c4.1, lw_c4.2, List.mem_of_getElem? (i := 702) (by decide +kernel), List.mem_of_getElem? (i := 703) (by decide +kernel)⟩
theorem lw_p22 : lw_okq (⟨"ScruffPaper$Page", "lastOf", "(II)I"⟩, 7) := ⟨lw_c4.1, lw_c4.2, List.mem_of_getElem? (i := 706) (by decide +kernel), List.mem_of_getElem? (i := 707) (by decide +kernel)⟩
theorem lw_p23 : lw_okq (⟨"ScruffPaper$Page", "beginsPassed", "(III)Z"⟩, 7) := ⟨lw_c4.1, lw_c4.2, List.mem_of_getElem? (i := 718) (by decide +kernel), List.mem_of_getElem? (i := 719) (by decide +kernel)⟩
theorem lw_c5 : ("ScruffPaper$Notes" ≠ "java/lang/invoke/MethodHandle" ∧ "ScruffPaper$Notes" ≠ "java/lang/invoke/VarHandle") ∧ Cond.instantiable "ScruffPaper$Notes" 5 ∈ tables_1 := ⟨⟨by decide +kernel, by decide +kernel⟩, List.mem_of_getElem? (i := 152) (by decide +kernel)⟩
theorem lw_p24 : lw_okq (⟨"ScruffPaper$Notes", "gather", "(IIZ)I"⟩, 5) := ⟨lw_c5.1, lw_c5.2, List.mem_of_getElem? (i := 742) (by decide +kernel), List.mem_of_getElem? (i := 743) (by decide +kernel)⟩
theorem lw_p25 : lw_okq (⟨"ScruffPaper$Notes", "rowFrom", "(III)I"⟩, 5) := ⟨lw_c5.1, lw_c5.2, List.mem_of_getElem? (i := 770) (by decide +kernel), List.mem_of_getElem? (i := 771) (by decide +kernel)⟩
theorem lw_p26 : lw_okq (⟨"ScruffPaper", "canScan", "(III)Z"⟩, 9) := ⟨lw_c0.1, lw_c0.2, List.mem_of_getElem? (i := 801) (by decide +kernel), List.mem_of_getElem? (i := 802) (by decide +kernel)⟩
theorem lw_c6 : ("ScruffPaper$Nights" ≠ "java/lang/invoke/MethodHandle" ∧ "ScruffPaper$Nights" ≠ "java/lang/invoke/VarHandle") ∧ Cond.instantiable "ScruffPaper$Nights" 6 ∈ tables_1 := ⟨⟨by decide +kernel, by decide +kernel⟩, List.mem_of_getElem? (i := 204) (by decide +kernel)⟩
theorem lw_p27 : lw_okq (⟨"ScruffPaper$Nights", "greatestSize", "(III)I"⟩, 6) := ⟨lw_c6.1, lw_c6.2, List.mem_of_getElem? (i := 893) (by decide +kernel), List.mem_of_getElem? (i := 894) (by decide +kernel)⟩
theorem lw_c7 : ("ScruffPaper$Lots" ≠ "java/lang/invoke/MethodHandle" ∧ "ScruffPaper$Lots" ≠ "java/lang/invoke/VarHandle") ∧ Cond.instantiable "ScruffPaper$Lots" 4 ∈ tables_1 := ⟨⟨by decide +kernel, by decide +kernel⟩, List.mem_of_getElem? (i := 234) (by decide +kernel)⟩
theorem lw_p28 : lw_okq (⟨"ScruffPaper$Lots", "weigh", "(II)V"⟩, 4) := ⟨lw_c7.1, lw_c7.2, List.mem_of_getElem? (i := 915) (by decide +kernel), List.mem_of_getElem? (i := 916) (by decide +kernel)⟩
theorem lw_p29 : lw_okq (⟨"ScruffPaper$Lots", "missesFrom", "(III)I"⟩, 4) := ⟨lw_c7.1, lw_c7.2, List.mem_of_getElem? (i := 919) (by decide +kernel), List.mem_of_getElem? (i := 920) (by decide +kernel)⟩
theorem lw_p30 : lw_okq (⟨"ScruffPaper$Lots", "goesOn", "(IIII)Z"⟩, 4) := ⟨lw_c7.1, lw_c7.2, List.mem_of_getElem? (i := 924) (by decide +kernel), List.mem_of_getElem? (i := 925) (by decide +kernel)⟩
theorem lw_p31 : lw_okq (⟨"ScruffPaper", "textCount", "(I)I"⟩, 9) := ⟨lw_c0.1, lw_c0.2, List.mem_of_getElem? (i := 970) (by decide +kernel), List.mem_of_getElem? (i := 971) (by decide +kernel)⟩
def lw_privs_2 : List (MethodName × Nat) := [(⟨"ScruffPaper$Sky", "layOne", "(LScruffPaper$Page;LScruffPaper$Source;)V"⟩, 4), (⟨"ScruffPaper$Page", "greatestBefore", "(II)I"⟩, 7), (⟨"ScruffPaper$Page", "greatestOf", "(II)I"⟩, 7), (⟨"ScruffPaper$Page", "isMarked", "(II)Z"⟩, 7), (⟨"ScruffPaper$Page", "beginsMark", "(II)Z"⟩, 7), (⟨"ScruffPaper$Page", "numberOf", "(III)I"⟩, 7), (⟨"ScruffPaper$Page", "lastOf", "(II)I"⟩, 7), (⟨"ScruffPaper$Page", "beginsPassed", "(III)Z"⟩, 7), (⟨"ScruffPaper$Notes", "gather", "(IIZ)I"⟩, 5), (⟨"ScruffPaper$Notes", "rowFrom", "(III)I"⟩, 5), (⟨"ScruffPaper", "canScan", "(III)Z"⟩, 9), (⟨"ScruffPaper$Nights", "greatestSize", "(III)I"⟩, 6), (⟨"ScruffPaper$Lots", "weigh", "(II)V"⟩, 4), (⟨"ScruffPaper$Lots", "missesFrom", "(III)I"⟩, 4), (⟨"ScruffPaper$Lots", "goesOn", "(IIII)Z"⟩, 4), (⟨"ScruffPaper", "textCount", "(I)I"⟩, 9)]
theorem lw_r2 : ∀ q ∈ lw_privs_2, lw_okq q := List.forall_mem_cons.mpr ⟨lw_p16, List.forall_mem_cons.mpr ⟨lw_p17, List.forall_mem_cons.mpr ⟨lw_p18, List.forall_mem_cons.mpr ⟨lw_p19, List.forall_mem_cons.mpr ⟨lw_p20, List.forall_mem_cons.mpr ⟨lw_p21, List.forall_mem_cons.mpr ⟨lw_p22, List.forall_mem_cons.mpr ⟨lw_p23, List.forall_mem_cons.mpr ⟨lw_p24, List.forall_mem_cons.mpr ⟨lw_p25, List.forall_mem_cons.mpr ⟨lw_p26, List.forall_mem_cons.mpr ⟨lw_p27, List.forall_mem_cons.mpr ⟨lw_p28, List.forall_mem_cons.mpr ⟨lw_p29, List.forall_mem_cons.mpr ⟨lw_p30, List.forall_mem_cons.mpr ⟨lw_p31, fun _ h => absurd h List.not_mem_nil⟩⟩⟩⟩⟩⟩⟩⟩⟩⟩⟩⟩⟩⟩⟩⟩
theorem lw_c8 : ("ScruffPaperModel" ≠ "java/lang/invoke/MethodHandle" ∧ "ScruffPaperModel" ≠ "java/lang/invoke/VarHandle") ∧ Cond.instantiable "ScruffPaperModel" 67 ∈ tables_1 := ⟨⟨by decide +kernel, by decide +kernel⟩, List.mem_of_getElem? (i := 977) (by decide +kernel)⟩
theorem lw_p32 : lw_okq (⟨"ScruffPaperModel", "push", "(I)V"⟩, 67) := ⟨lw_c8.1, lw_c8.2, List.mem_of_getElem? (i := 1190) (by decide +kernel), List.mem_of_getElem? (i := 1191) (by decide +kernel)⟩
theorem lw_p33 : lw_okq (⟨"ScruffPaperModel", "isSource", "(I)Z"⟩, 67) := ⟨lw_c8.1, lw_c8.2, List.mem_of_getElem? (i := 1198) (by decide +kernel), List.mem_of_getElem? (i := 1199) (by decide +kernel)⟩
theorem lw_p34 : lw_okq (⟨"ScruffPaperModel", "canRead", "(II)Z"⟩, 67) := ⟨lw_c8.1, lw_c8.2, List.mem_of_getElem? (i := 1205) (by decide +kernel), List.mem_of_getElem? (i := 1206) (by decide +kernel)⟩
theorem lw_p35 : lw_okq (⟨"ScruffPaperModel", "readsText", "(IIZ)I"⟩, 67) := ⟨lw_c8.1, lw_c8.2, List.mem_of_getElem? (i := 1209) (by decide +kernel), List.mem_of_getElem? (i := 1210) (by decide +kernel)⟩
theorem lw_p36 : lw_okq (⟨"ScruffPaperModel", "begins", "(I)V"⟩, 67) := ⟨lw_c8.1, lw_c8.2, List.mem_of_getElem? (i := 1213) (by decide +kernel), List.mem_of_getElem? (i := 1214) (by decide +kernel)⟩
theorem lw_p37 : lw_okq (⟨"ScruffPaperModel", "isGood", "()Z"⟩, 67) := ⟨lw_c8.1, lw_c8.2, List.mem_of_getElem? (i := 1217) (by decide +kernel), List.mem_of_getElem? (i := 1218) (by decide +kernel)⟩
theorem lw_p38 : lw_okq (⟨"ScruffPaperModel", "clause", "(Z)V"⟩, 67) := ⟨lw_c8.1, lw_c8.2, List.mem_of_getElem? (i := 1221) (by decide +kernel), List.mem_of_getElem? (i := 1222) (by decide +kernel)⟩
theorem lw_p39 : lw_okq (⟨"ScruffPaperModel", "here", "()I"⟩, 67) := ⟨lw_c8.1, lw_c8.2, List.mem_of_getElem? (i := 1225) (by decide +kernel), List.mem_of_getElem? (i := 1226) (by decide +kernel)⟩
theorem lw_p40 : lw_okq (⟨"ScruffPaperModel", "wrongs", "(II)V"⟩, 67) := ⟨lw_c8.1, lw_c8.2, List.mem_of_getElem? (i := 1229) (by decide +kernel), List.mem_of_getElem? (i := 1230) (by decide +kernel)⟩
theorem lw_p41 : lw_okq (⟨"ScruffPaperModel", "value", "()V"⟩, 67) := ⟨lw_c8.1, lw_c8.2, List.mem_of_getElem? (i := 1233) (by decide +kernel), List.mem_of_getElem? (i := 1234) (by decide +kernel)⟩
theorem lw_p42 : lw_okq (⟨"ScruffPaperModel", "factor", "()V"⟩, 67) := ⟨lw_c8.1, lw_c8.2, List.mem_of_getElem? (i := 1237) (by decide +kernel), List.mem_of_getElem? (i := 1238) (by decide +kernel)⟩
theorem lw_p43 : lw_okq (⟨"ScruffPaperModel", "opens", "()V"⟩, 67) := ⟨lw_c8.1, lw_c8.2, List.mem_of_getElem? (i := 1241) (by decide +kernel), List.mem_of_getElem? (i := 1242) (by decide +kernel)⟩
theorem lw_p44 : lw_okq (⟨"ScruffPaperModel", "puts", "(I)V"⟩, 67) := ⟨lw_c8.1, lw_c8.2, List.mem_of_getElem? (i := 1245) (by decide +kernel), List.mem_of_getElem? (i := 1246) (by decide +kernel)⟩
theorem lw_p45 : lw_okq (⟨"ScruffPaperModel", "seesDigit", "()Z"⟩, 67) := ⟨lw_c8.1, lw_c8.2, List.mem_of_getElem? (i := 1249) (by decide +kernel), List.mem_of_getElem? (i := 1250) (by decide +kernel)⟩
theorem lw_p46 : lw_okq (⟨"ScruffPaperModel", "reads", "()I"⟩, 67) := ⟨lw_c8.1, lw_c8.2, List.mem_of_getElem? (i := 1255) (by decide +kernel), List.mem_of_getElem? (i := 1256) (by decide +kernel)⟩
theorem lw_p47 : lw_okq (⟨"ScruffPaperModel", "emit", "(II)V"⟩, 67) := ⟨lw_c8.1, lw_c8.2, List.mem_of_getElem? (i := 1259) (by decide +kernel), List.mem_of_getElem? (i := 1260) (by decide +kernel)⟩
def lw_privs_3 : List (MethodName × Nat) := [(⟨"ScruffPaperModel", "push", "(I)V"⟩, 67), (⟨"ScruffPaperModel", "isSource", "(I)Z"⟩, 67), (⟨"ScruffPaperModel", "canRead", "(II)Z"⟩, 67), (⟨"ScruffPaperModel", "readsText", "(IIZ)I"⟩, 67), (⟨"ScruffPaperModel", "begins", "(I)V"⟩, 67), (⟨"ScruffPaperModel", "isGood", "()Z"⟩, 67), (⟨"ScruffPaperModel", "clause", "(Z)V"⟩, 67), (⟨"ScruffPaperModel", "here", "()I"⟩, 67), (⟨"ScruffPaperModel", "wrongs", "(II)V"⟩, 67), (⟨"ScruffPaperModel", "value", "()V"⟩, 67), (⟨"ScruffPaperModel", "factor", "()V"⟩, 67), (⟨"ScruffPaperModel", "opens", "()V"⟩, 67), (⟨"ScruffPaperModel", "puts", "(I)V"⟩, 67), (⟨"ScruffPaperModel", "seesDigit", "()Z"⟩, 67), (⟨"ScruffPaperModel", "reads", "()I"⟩, 67), (⟨"ScruffPaperModel", "emit", "(II)V"⟩, 67)]
theorem lw_r3 : ∀ q ∈ lw_privs_3, lw_okq q := List.forall_mem_cons.mpr ⟨lw_p32, List.forall_mem_cons.mpr ⟨lw_p33, List.forall_mem_cons.mpr ⟨lw_p34, List.forall_mem_cons.mpr ⟨lw_p35, List.forall_mem_cons.mpr ⟨lw_p36, List.forall_mem_cons.mpr ⟨lw_p37, List.forall_mem_cons.mpr ⟨lw_p38, List.forall_mem_cons.mpr ⟨lw_p39, List.forall_mem_cons.mpr ⟨lw_p40, List.forall_mem_cons.mpr ⟨lw_p41, List.forall_mem_cons.mpr ⟨lw_p42, List.forall_mem_cons.mpr ⟨lw_p43, List.forall_mem_cons.mpr ⟨lw_p44, List.forall_mem_cons.mpr ⟨lw_p45, List.forall_mem_cons.mpr ⟨lw_p46, List.forall_mem_cons.mpr ⟨lw_p47, fun _ h => absurd h List.not_mem_nil⟩⟩⟩⟩⟩⟩⟩⟩⟩⟩⟩⟩⟩⟩⟩⟩
theorem lw_p48 : lw_okq (⟨"ScruffPaperModel", "stays", "()Z"⟩, 67) := ⟨lw_c8.1, lw_c8.2, List.mem_of_getElem? (i := 1266) (by decide +kernel), List.mem_of_getElem? (i := 1267) (by decide +kernel)⟩
theorem lw_p49 : lw_okq (⟨"ScruffPaperModel", "sums", "(Z)V"⟩, 67) := ⟨lw_c8.1, lw_c8.2, List.mem_of_getElem? (i := 1276) (by decide +kernel), List.mem_of_getElem? (i := 1277) (by decide +kernel)⟩
theorem lw_p50 : lw_okq (⟨"ScruffPaperModel", "top", "()I"⟩, 67) := ⟨lw_c8.1, lw_c8.2, List.mem_of_getElem? (i := 1280) (by decide +kernel), List.mem_of_getElem? (i := 1281) (by decide +kernel)⟩
theorem lw_p51 : lw_okq (⟨"ScruffPaperModel", "condition", "()V"⟩, 67) := ⟨lw_c8.1, lw_c8.2, List.mem_of_getElem? (i := 1284) (by decide +kernel), List.mem_of_getElem? (i := 1285) (by decide +kernel)⟩
theorem lw_p52 : lw_okq (⟨"ScruffPaperModel", "pieceOfC", "()V"⟩, 67) := ⟨lw_c8.1, lw_c8.2, List.mem_of_getElem? (i := 1288) (by decide +kernel), List.mem_of_getElem? (i := 1289) (by decide +kernel)⟩
theorem lw_p53 : lw_okq (⟨"ScruffPaperModel", "ends", "()V"⟩, 67) := ⟨lw_c8.1, lw_c8.2, List.mem_of_getElem? (i := 1295) (by decide +kernel), List.mem_of_getElem? (i := 1296) (by decide +kernel)⟩
theorem lw_p54 : lw_okq (⟨"ScruffPaperModel", "goesBehind", "()Z"⟩, 67) := ⟨lw_c8.1, lw_c8.2, List.mem_of_getElem? (i := 1299) (by decide +kernel), List.mem_of_getElem? (i := 1300) (by decide +kernel)⟩
theorem lw_p55 : lw_okq (⟨"ScruffPaperModel", "joins", "(Z)V"⟩, 67) := ⟨lw_c8.1, lw_c8.2, List.mem_of_getElem? (i := 1303) (by decide +kernel), List.mem_of_getElem? (i := 1304) (by decide +kernel)⟩
theorem lw_p56 : lw_okq (⟨"ScruffPaperModel", "keeps", "(I)V"⟩, 67) := ⟨lw_c8.1, lw_c8.2, List.mem_of_getElem? (i := 1307) (by decide +kernel), List.mem_of_getElem? (i := 1308) (by decide +kernel)⟩
theorem lw_p57 : lw_okq (⟨"ScruffPaperModel", "heightOf", "(III)I"⟩, 67) := ⟨lw_c8.1, lw_c8.2, List.mem_of_getElem? (i := 1357) (by decide +kernel), List.mem_of_getElem? (i := 1358) (by decide +kernel)⟩
theorem lw_p58 : lw_okq (⟨"ScruffPaperModel", "isThere", "(III)Z"⟩, 67) := ⟨lw_c8.1, lw_c8.2, List.mem_of_getElem? (i := 1361) (by decide +kernel), List.mem_of_getElem? (i := 1362) (by decide +kernel)⟩
theorem lw_p59 : lw_okq (⟨"ScruffPaperModel", "awayOf", "(III)I"⟩, 67) := ⟨lw_c8.1, lw_c8.2, List.mem_of_getElem? (i := 1368) (by decide +kernel), List.mem_of_getElem? (i := 1369) (by decide +kernel)⟩
theorem lw_p60 : lw_okq (⟨"ScruffPaperModel", "clears", "()V"⟩, 67) := ⟨lw_c8.1, lw_c8.2, List.mem_of_getElem? (i := 1375) (by decide +kernel), List.mem_of_getElem? (i := 1376) (by decide +kernel)⟩
theorem lw_p61 : lw_okq (⟨"ScruffPaperModel", "luckOf", "(III)I"⟩, 67) := ⟨lw_c8.1, lw_c8.2, List.mem_of_getElem? (i := 1379) (by decide +kernel), List.mem_of_getElem? (i := 1380) (by decide +kernel)⟩
theorem lw_p62 : lw_okq (⟨"ScruffPaperModel", "holds", "(I)Z"⟩, 67) := ⟨lw_c8.1, lw_c8.2, List.mem_of_getElem? (i := 1386) (by decide +kernel), List.mem_of_getElem? (i := 1387) (by decide +kernel)⟩
theorem lw_p63 : lw_okq (⟨"ScruffPaperModel", "works", "(II)V"⟩, 67) := ⟨lw_c8.1, lw_c8.2, List.mem_of_getElem? (i := 1390) (by decide +kernel), List.mem_of_getElem? (i := 1391) (by decide +kernel)⟩
def lw_privs_4 : List (MethodName × Nat) := [(⟨"ScruffPaperModel", "stays", "()Z"⟩, 67), (⟨"ScruffPaperModel", "sums", "(Z)V"⟩, 67), (⟨"ScruffPaperModel", "top", "()I"⟩, 67), (⟨"ScruffPaperModel", "condition", "()V"⟩, 67), (⟨"ScruffPaperModel", "pieceOfC", "()V"⟩, 67), (⟨"ScruffPaperModel", "ends", "()V"⟩, 67), (⟨"ScruffPaperModel", "goesBehind", "()Z"⟩, 67), (⟨"ScruffPaperModel", "joins", "(Z)V"⟩, 67), (⟨"ScruffPaperModel", "keeps", "(I)V"⟩, 67), (⟨"ScruffPaperModel", "heightOf", "(III)I"⟩, 67), (⟨"ScruffPaperModel", "isThere", "(III)Z"⟩, 67), (⟨"ScruffPaperModel", "awayOf", "(III)I"⟩, 67), (⟨"ScruffPaperModel", "clears", "()V"⟩, 67), (⟨"ScruffPaperModel", "luckOf", "(III)I"⟩, 67), (⟨"ScruffPaperModel", "holds", "(I)Z"⟩, 67), (⟨"ScruffPaperModel", "works", "(II)V"⟩, 67)]
theorem lw_r4 : ∀ q ∈ lw_privs_4, lw_okq q := List.forall_mem_cons.mpr ⟨lw_p48, List.forall_mem_cons.mpr ⟨lw_p49, List.forall_mem_cons.mpr ⟨lw_p50, List.forall_mem_cons.mpr ⟨lw_p51, List.forall_mem_cons.mpr ⟨lw_p52, List.forall_mem_cons.mpr ⟨lw_p53, List.forall_mem_cons.mpr ⟨lw_p54, List.forall_mem_cons.mpr ⟨lw_p55, List.forall_mem_cons.mpr ⟨lw_p56, List.forall_mem_cons.mpr ⟨lw_p57, List.forall_mem_cons.mpr ⟨lw_p58, List.forall_mem_cons.mpr ⟨lw_p59, List.forall_mem_cons.mpr ⟨lw_p60, List.forall_mem_cons.mpr ⟨lw_p61, List.forall_mem_cons.mpr ⟨lw_p62, List.forall_mem_cons.mpr ⟨lw_p63, fun _ h => absurd h List.not_mem_nil⟩⟩⟩⟩⟩⟩⟩⟩⟩⟩⟩⟩⟩⟩⟩⟩
theorem lw_p64 : lw_okq (⟨"ScruffPaperModel", "does", "(II)V"⟩, 67) := ⟨lw_c8.1, lw_c8.2, List.mem_of_getElem? (i := 1394) (by decide +kernel), List.mem_of_getElem? (i := 1395) (by decide +kernel)⟩
theorem lw_p65 : lw_okq (⟨"ScruffPaperModel", "valueOf", "(I)I"⟩, 67) := ⟨lw_c8.1, lw_c8.2, List.mem_of_getElem? (i := 1401) (by decide +kernel), List.mem_of_getElem? (i := 1402) (by decide +kernel)⟩
theorem lw_p66 : lw_okq (⟨"ScruffPaperModel", "sumOf", "(I)I"⟩, 67) := ⟨lw_c8.1, lw_c8.2, List.mem_of_getElem? (i := 1405) (by decide +kernel), List.mem_of_getElem? (i := 1406) (by decide +kernel)⟩
theorem lw_p67 : lw_okq (⟨"ScruffPaperModel", "looks", "(II)V"⟩, 67) := ⟨lw_c8.1, lw_c8.2, List.mem_of_getElem? (i := 1413) (by decide +kernel), List.mem_of_getElem? (i := 1414) (by decide +kernel)⟩
theorem lw_p68 : lw_okq (⟨"ScruffPaperModel", "lays", "(I)V"⟩, 67) := ⟨lw_c8.1, lw_c8.2, List.mem_of_getElem? (i := 1421) (by decide +kernel), List.mem_of_getElem? (i := 1422) (by decide +kernel)⟩
theorem lw_p69 : lw_okq (⟨"ScruffPaperModel", "goesOver", "(III)V"⟩, 67) := ⟨lw_c8.1, lw_c8.2, List.mem_of_getElem? (i := 1425) (by decide +kernel), List.mem_of_getElem? (i := 1426) (by decide +kernel)⟩
theorem lw_p70 : lw_okq (⟨"ScruffPaperModel", "isMarked", "(IIII)Z"⟩, 67) := ⟨lw_c8.1, lw_c8.2, List.mem_of_getElem? (i := 1429) (by decide +kernel), List.mem_of_getElem? (i := 1430) (by decide +kernel)⟩
theorem lw_p71 : lw_okq (⟨"ScruffPaperModel", "isAlone", "(I)Z"⟩, 67) := ⟨lw_c8.1, lw_c8.2, List.mem_of_getElem? (i := 1438) (by decide +kernel), List.mem_of_getElem? (i := 1439) (by decide +kernel)⟩
theorem lw_p72 : lw_okq (⟨"ScruffPaperModel", "manyOf", "(II)I"⟩, 67) := ⟨lw_c8.1, lw_c8.2, List.mem_of_getElem? (i := 1457) (by decide +kernel), List.mem_of_getElem? (i := 1458) (by decide +kernel)⟩
theorem lw_p73 : lw_okq (⟨"ScruffPaperModel", "oneBits", "(III)I"⟩, 67) := ⟨lw_c8.1, lw_c8.2, List.mem_of_getElem? (i := 1461) (by decide +kernel), List.mem_of_getElem? (i := 1462) (by decide +kernel)⟩
theorem lw_p74 : lw_okq (⟨"ScruffPaperModel", "isOne", "(IIZI)Z"⟩, 67) := ⟨lw_c8.1, lw_c8.2, List.mem_of_getElem? (i := 1465) (by decide +kernel), List.mem_of_getElem? (i := 1466) (by decide +kernel)⟩
theorem lw_p75 : lw_okq (⟨"ScruffPaperModel", "minuteBy", "(IZ)I"⟩, 67) := ⟨lw_c8.1, lw_c8.2, List.mem_of_getElem? (i := 1469) (by decide +kernel), List.mem_of_getElem? (i := 1470) (by decide +kernel)⟩
theorem lw_p76 : lw_okq (⟨"ScruffPaperModel", "onArc", "(IIZII)I"⟩, 67) := ⟨lw_c8.1, lw_c8.2, List.mem_of_getElem? (i := 1473) (by decide +kernel), List.mem_of_getElem? (i := 1474) (by decide +kernel)⟩
theorem lw_p77 : lw_okq (⟨"ScruffPaperModel", "isFit", "(II)Z"⟩, 67) := ⟨lw_c8.1, lw_c8.2, List.mem_of_getElem? (i := 1499) (by decide +kernel), List.mem_of_getElem? (i := 1500) (by decide +kernel)⟩
theorem lw_p78 : lw_okq (⟨"ScruffPaperModel", "canBeat", "(III)Z"⟩, 67) := ⟨lw_c8.1, lw_c8.2, List.mem_of_getElem? (i := 1507) (by decide +kernel), List.mem_of_getElem? (i := 1508) (by decide +kernel)⟩
theorem lw_p79 : lw_okq (⟨"ScruffPaperModel", "fitsAll", "(III)V"⟩, 67) := ⟨lw_c8.1, lw_c8.2, List.mem_of_getElem? (i := 1511) (by decide +kernel), List.mem_of_getElem? (i := 1512) (by decide +kernel)⟩
def lw_privs_5 : List (MethodName × Nat) := [(⟨"ScruffPaperModel", "does", "(II)V"⟩, 67), (⟨"ScruffPaperModel", "valueOf", "(I)I"⟩, 67), (⟨"ScruffPaperModel", "sumOf", "(I)I"⟩, 67), (⟨"ScruffPaperModel", "looks", "(II)V"⟩, 67), (⟨"ScruffPaperModel", "lays", "(I)V"⟩, 67), (⟨"ScruffPaperModel", "goesOver", "(III)V"⟩, 67), (⟨"ScruffPaperModel", "isMarked", "(IIII)Z"⟩, 67), (⟨"ScruffPaperModel", "isAlone", "(I)Z"⟩, 67), (⟨"ScruffPaperModel", "manyOf", "(II)I"⟩, 67), (⟨"ScruffPaperModel", "oneBits", "(III)I"⟩, 67), (⟨"ScruffPaperModel", "isOne", "(IIZI)Z"⟩, 67), (⟨"ScruffPaperModel", "minuteBy", "(IZ)I"⟩, 67), (⟨"ScruffPaperModel", "onArc", "(IIZII)I"⟩, 67), (⟨"ScruffPaperModel", "isFit", "(II)Z"⟩, 67), (⟨"ScruffPaperModel", "canBeat", "(III)Z"⟩, 67), (⟨"ScruffPaperModel", "fitsAll", "(III)V"⟩, 67)]
theorem lw_r5 : ∀ q ∈ lw_privs_5, lw_okq q := List.forall_mem_cons.mpr ⟨lw_p64, List.forall_mem_cons.mpr ⟨lw_p65, List.forall_mem_cons.mpr ⟨lw_p66, List.forall_mem_cons.mpr ⟨lw_p67, List.forall_mem_cons.mpr ⟨lw_p68, List.forall_mem_cons.mpr ⟨lw_p69, List.forall_mem_cons.mpr ⟨lw_p70, List.forall_mem_cons.mpr ⟨lw_p71, List.forall_mem_cons.mpr ⟨lw_p72, List.forall_mem_cons.mpr ⟨lw_p73, List.forall_mem_cons.mpr ⟨lw_p74, List.forall_mem_cons.mpr ⟨lw_p75, List.forall_mem_cons.mpr ⟨lw_p76, List.forall_mem_cons.mpr ⟨lw_p77, List.forall_mem_cons.mpr ⟨lw_p78, List.forall_mem_cons.mpr ⟨lw_p79, fun _ h => absurd h List.not_mem_nil⟩⟩⟩⟩⟩⟩⟩⟩⟩⟩⟩⟩⟩⟩⟩⟩
theorem lw_p80 : lw_okq (⟨"ScruffPaperModel", "countOf", "(II)I"⟩, 67) := ⟨lw_c8.1, lw_c8.2, List.mem_of_getElem? (i := 1519) (by decide +kernel), List.mem_of_getElem? (i := 1520) (by decide +kernel)⟩
theorem lw_p81 : lw_okq (⟨"ScruffPaperModel", "isTold", "(I)Z"⟩, 67) := ⟨lw_c8.1, lw_c8.2, List.mem_of_getElem? (i := 1541) (by decide +kernel), List.mem_of_getElem? (i := 1542) (by decide +kernel)⟩
theorem lw_p82 : lw_okq (⟨"ScruffPaperModel", "isNight", "(I)Z"⟩, 67) := ⟨lw_c8.1, lw_c8.2, List.mem_of_getElem? (i := 1545) (by decide +kernel), List.mem_of_getElem? (i := 1546) (by decide +kernel)⟩
theorem lw_p83 : lw_okq (⟨"ScruffPaperModel", "saysOf", "(II)I"⟩, 67) := ⟨lw_c8.1, lw_c8.2, List.mem_of_getElem? (i := 1549) (by decide +kernel), List.mem_of_getElem? (i := 1550) (by decide +kernel)⟩
theorem lw_p84 : lw_okq (⟨"ScruffPaperModel", "fallsAt", "(II)I"⟩, 67) := ⟨lw_c8.1, lw_c8.2, List.mem_of_getElem? (i := 1561) (by decide +kernel), List.mem_of_getElem? (i := 1562) (by decide +kernel)⟩
theorem lw_p85 : lw_okq (⟨"ScruffPaperModel", "canGoAbout", "(IIII)Z"⟩, 67) := ⟨lw_c8.1, lw_c8.2, List.mem_of_getElem? (i := 1575) (by decide +kernel), List.mem_of_getElem? (i := 1576) (by decide +kernel)⟩
theorem lw_p86 : lw_okq (⟨"ScruffPaperModel", "leastAt", "(II)I"⟩, 67) := ⟨lw_c8.1, lw_c8.2, List.mem_of_getElem? (i := 1593) (by decide +kernel), List.mem_of_getElem? (i := 1594) (by decide +kernel)⟩
theorem lw_p87 : lw_okq (⟨"ScruffPaperModel", "numberAt", "(I)I"⟩, 67) := ⟨lw_c8.1, lw_c8.2, List.mem_of_getElem? (i := 1624) (by decide +kernel), List.mem_of_getElem? (i := 1625) (by decide +kernel)⟩
def lw_privs_6 : List (MethodName × Nat) := [(⟨"ScruffPaperModel", "countOf", "(II)I"⟩, 67), (⟨"ScruffPaperModel", "isTold", "(I)Z"⟩, 67), (⟨"ScruffPaperModel", "isNight", "(I)Z"⟩, 67), (⟨"ScruffPaperModel", "saysOf", "(II)I"⟩, 67), (⟨"ScruffPaperModel", "fallsAt", "(II)I"⟩, 67), (⟨"ScruffPaperModel", "canGoAbout", "(IIII)Z"⟩, 67), (⟨"ScruffPaperModel", "leastAt", "(II)I"⟩, 67), (⟨"ScruffPaperModel", "numberAt", "(I)I"⟩, 67)]
theorem lw_r6 : ∀ q ∈ lw_privs_6, lw_okq q := List.forall_mem_cons.mpr ⟨lw_p80, List.forall_mem_cons.mpr ⟨lw_p81, List.forall_mem_cons.mpr ⟨lw_p82, List.forall_mem_cons.mpr ⟨lw_p83, List.forall_mem_cons.mpr ⟨lw_p84, List.forall_mem_cons.mpr ⟨lw_p85, List.forall_mem_cons.mpr ⟨lw_p86, List.forall_mem_cons.mpr ⟨lw_p87, fun _ h => absurd h List.not_mem_nil⟩⟩⟩⟩⟩⟩⟩⟩
def lw_privs : List (MethodName × Nat) := lw_privs_1 ++ (lw_privs_2 ++ (lw_privs_3 ++ (lw_privs_4 ++ (lw_privs_5 ++ (lw_privs_6)))))
def lw_tbl : List Cond := k2_sels lw_privs ++ tables_1
theorem lw_privs_ok : ∀ q ∈ lw_privs, lw_okq q := by
  show ∀ q ∈ lw_privs_1 ++ (lw_privs_2 ++ (lw_privs_3 ++ (lw_privs_4 ++ (lw_privs_5 ++ (lw_privs_6))))), lw_okq q
  exact List.forall_mem_append.mpr ⟨lw_r1, List.forall_mem_append.mpr ⟨lw_r2, List.forall_mem_append.mpr ⟨lw_r3, List.forall_mem_append.mpr ⟨lw_r4, List.forall_mem_append.mpr ⟨lw_r5, lw_r6⟩⟩⟩⟩⟩
theorem goodIn_r {big : List Cond} (ws : List Cond) (ps : List Nat) (hp : ws = ps.filterMap (fun i => big[i]?)) (h : ws.all goodWord = true) : GoodIn big ws := by
  intro w hw
  have h1 := List.all_eq_true.mp h w hw
  rw [hp] at hw
  obtain ⟨i, -, hi⟩ := List.mem_filterMap.mp hw
  have hm : w ∈ big := by first | exact List.mem_of_getElem? hi | exact List.getElem?_mem hi
  exact ⟨hm, good_of_word h1⟩
theorem goodIn_app {big a b : List Cond} (ha : GoodIn big a) (hb : GoodIn big b) : GoodIn big (a ++ b) := fun w h => (List.mem_append.mp h).elim (ha w) (hb w)
theorem goodIn_ca {big a b : List Cond} {c : Cond} (ha : GoodIn big (c :: a)) (hb : GoodIn big b) : GoodIn big (c :: (a ++ b)) := fun w h => (List.mem_cons.mp h).elim (fun e => ha w (List.mem_cons.mpr (Or.inl e))) (fun h => (List.mem_append.mp h).elim (fun h => ha w (List.mem_cons.mpr (Or.inr h))) (hb w))
theorem goodIn_sub {big ws : List Cond} (hm : ∀ w ∈ ws, w ∈ big) (h : ws.all goodWord = true) : GoodIn big ws := fun w hw => ⟨hm w hw, good_of_word (List.all_eq_true.mp h w hw)⟩
def RX0 : String := "ScruffPaper$Blips"
def TX0 : u_T := fun k => match k with
  | 0 => ("ScruffPaper$Blips", "times", "[I", true)
  | 1 => ("ScruffPaper$Blips", "rests", "[I", true)
  | 2 => ("ScruffPaper$Blips", "many", "I", false)
  | 3 => ("ScruffPaper$Blips", "fitting", "I", false)
  | 4 => ("ScruffPaper$Blips", "least", "I", false)
  | _ => ("ScruffPaper$Blips", "greatest", "I", false)
def tyX0 : Nat → FieldType := fun k => match k with
  | 0 => .array .int
  | 1 => .array .int
  | 2 => .int
  | 3 => .int
  | 4 => .int
  | _ => .int
abbrev wsX00 : List Cond := u_ws RX0 TX0 6
theorem nmX0 : ∀ a, a < 6 → ∀ b, b < 6 → a ≠ b → (TX0 a).2.1 ≠ (TX0 b).2.1 := by decide +kernel
theorem tyX0_ok : ∀ k, k < 6 → parseFieldDescriptor (TX0 k).2.2.1 = some (tyX0 k) := by decide +kernel
abbrev cX0_init : ByteArray := prog_2_method_1_code
def yX0_init : MethodName := ⟨RX0, "<init>", "()V"⟩
abbrev cX0_add : ByteArray := prog_2_method_2_code
def yX0_add : MethodName := ⟨RX0, "add", "(I)I"⟩
abbrev cX0_fitTo : ByteArray := prog_2_method_3_code
def yX0_fitTo : MethodName := ⟨RX0, "fitTo", "(II)Z"⟩
abbrev cX0_scan : ByteArray := prog_2_method_4_code
def yX0_scan : MethodName := ⟨RX0, "scan", "(III)V"⟩
abbrev cX0_beatsTo : ByteArray := prog_2_method_5_code
def yX0_beatsTo : MethodName := ⟨RX0, "beatsTo", "(II)I"⟩
abbrev cX0_countAlike : ByteArray := prog_2_method_6_code
def yX0_countAlike : MethodName := ⟨RX0, "countAlike", "(II)Z"⟩
abbrev cX0_beatsTillLost : ByteArray := prog_2_method_7_code
def yX0_beatsTillLost : MethodName := ⟨RX0, "beatsTillLost", "()I"⟩
def RX1 : String := "ScruffPaper$Lots"
def TX1 : u_T := fun k => match k with
  | 0 => ("ScruffPaper$Lots", "tens", "[I", true)
  | 1 => ("ScruffPaper$Lots", "chosen", "[I", true)
  | 2 => ("ScruffPaper$Lots", "best", "[I", true)
  | _ => ("ScruffPaper$Lots", "unseen", "I", false)
def tyX1 : Nat → FieldType := fun k => match k with
  | 0 => .array .int
  | 1 => .array .int
  | 2 => .array .int
  | _ => .int
abbrev wsX10 : List Cond := u_ws RX1 TX1 4
theorem nmX1 : ∀ a, a < 4 → ∀ b, b < 4 → a ≠ b → (TX1 a).2.1 ≠ (TX1 b).2.1 := by decide +kernel
theorem tyX1_ok : ∀ k, k < 4 → parseFieldDescriptor (TX1 k).2.2.1 = some (tyX1 k) := by decide +kernel
abbrev cX1_init : ByteArray := prog_3_method_1_code
def yX1_init : MethodName := ⟨RX1, "<init>", "()V"⟩
abbrev cX1_choose : ByteArray := prog_3_method_2_code
def yX1_choose : MethodName := ⟨RX1, "choose", "(II)V"⟩
abbrev cX1_weigh : ByteArray := prog_3_method_3_code
def yX1_weigh : MethodName := ⟨RX1, "weigh", "(II)V"⟩
abbrev cX1_missesFrom : ByteArray := prog_3_method_4_code
def yX1_missesFrom : MethodName := ⟨RX1, "missesFrom", "(III)I"⟩
abbrev cX1_goesOn : ByteArray := prog_3_method_5_code
def yX1_goesOn : MethodName := ⟨RX1, "goesOn", "(IIII)Z"⟩
abbrev cX1_choices : ByteArray := prog_3_method_6_code
def yX1_choices : MethodName := ⟨RX1, "choices", "(II)J"⟩
abbrev cX1_drawsWith : ByteArray := prog_3_method_7_code
def yX1_drawsWith : MethodName := ⟨RX1, "drawsWith", "(IIII)J"⟩
abbrev cX1_commonDivisor : ByteArray := prog_3_method_8_code
def yX1_commonDivisor : MethodName := ⟨RX1, "commonDivisor", "(JJ)J"⟩
def RX2 : String := "ScruffPaper$Nights"
def TX2 : u_T := fun k => match k with
  | 0 => ("ScruffPaper$Nights", "days", "[I", true)
  | 1 => ("ScruffPaper$Nights", "shifts", "[I", true)
  | 2 => ("ScruffPaper$Nights", "fallen", "[I", true)
  | 3 => ("ScruffPaper$Nights", "reckoner", "LScruffPaper$Reckoner;", true)
  | 4 => ("ScruffPaper$Nights", "stories", "[LScruffPaper$Text;", true)
  | _ => ("ScruffPaper$Nights", "many", "I", false)
def tyX2 : Nat → FieldType := fun k => match k with
  | 0 => .array .int
  | 1 => .array .int
  | 2 => .array .int
  | 3 => .object "ScruffPaper$Reckoner"
  | 4 => .array (.object "ScruffPaper$Text")
  | _ => .int
abbrev wsX20 : List Cond := u_ws RX2 TX2 6
theorem nmX2 : ∀ a, a < 6 → ∀ b, b < 6 → a ≠ b → (TX2 a).2.1 ≠ (TX2 b).2.1 := by decide +kernel
theorem tyX2_ok : ∀ k, k < 6 → parseFieldDescriptor (TX2 k).2.2.1 = some (tyX2 k) := by decide +kernel
abbrev cX2_init : ByteArray := prog_4_method_1_code
def yX2_init : MethodName := ⟨RX2, "<init>", "()V"⟩
abbrev cX2_add : ByteArray := prog_4_method_2_code
def yX2_add : MethodName := ⟨RX2, "add", "(II)I"⟩
abbrev cX2_storyAt : ByteArray := prog_4_method_3_code
def yX2_storyAt : MethodName := ⟨RX2, "storyAt", "(I)LScruffPaper$Text;"⟩
abbrev cX2_shiftBy : ByteArray := prog_4_method_4_code
def yX2_shiftBy : MethodName := ⟨RX2, "shiftBy", "(LScruffPaper$Text;I)I"⟩
abbrev cX2_fallOf : ByteArray := prog_4_method_5_code
def yX2_fallOf : MethodName := ⟨RX2, "fallOf", "(LScruffPaper$Text;I)I"⟩
abbrev cX2_alone : ByteArray := prog_4_method_6_code
def yX2_alone : MethodName := ⟨RX2, "alone", "(II)I"⟩
abbrev cX2_greatestOrbit : ByteArray := prog_4_method_7_code
def yX2_greatestOrbit : MethodName := ⟨RX2, "greatestOrbit", "(II)I"⟩
abbrev cX2_greatestSize : ByteArray := prog_4_method_8_code
def yX2_greatestSize : MethodName := ⟨RX2, "greatestSize", "(III)I"⟩
abbrev cX2_waveAt : ByteArray := prog_4_method_9_code
def yX2_waveAt : MethodName := ⟨RX2, "waveAt", "(II)I"⟩
def RX3 : String := "ScruffPaper$Notes"
def TX3 : u_T := fun k => match k with
  | 0 => ("ScruffPaper$Notes", "days", "[I", true)
  | 1 => ("ScruffPaper$Notes", "minutes", "[I", true)
  | 2 => ("ScruffPaper$Notes", "shapes", "[I", true)
  | 3 => ("ScruffPaper$Notes", "gathered", "[I", true)
  | _ => ("ScruffPaper$Notes", "many", "I", false)
def tyX3 : Nat → FieldType := fun k => match k with
  | 0 => .array .int
  | 1 => .array .int
  | 2 => .array .int
  | 3 => .array .int
  | _ => .int
abbrev wsX30 : List Cond := u_ws RX3 TX3 5
theorem nmX3 : ∀ a, a < 5 → ∀ b, b < 5 → a ≠ b → (TX3 a).2.1 ≠ (TX3 b).2.1 := by decide +kernel
theorem tyX3_ok : ∀ k, k < 5 → parseFieldDescriptor (TX3 k).2.2.1 = some (tyX3 k) := by decide +kernel
abbrev cX3_init : ByteArray := prog_5_method_1_code
def yX3_init : MethodName := ⟨RX3, "<init>", "()V"⟩
abbrev cX3_add : ByteArray := prog_5_method_2_code
def yX3_add : MethodName := ⟨RX3, "add", "(III)I"⟩
abbrev cX3_gather : ByteArray := prog_5_method_3_code
def yX3_gather : MethodName := ⟨RX3, "gather", "(IIZ)I"⟩
abbrev cX3_oneBy : ByteArray := prog_5_method_4_code
def yX3_oneBy : MethodName := ⟨RX3, "oneBy", "(III)I"⟩
abbrev cX3_knownDay : ByteArray := prog_5_method_5_code
def yX3_knownDay : MethodName := ⟨RX3, "knownDay", "(II)I"⟩
abbrev cX3_longestRow : ByteArray := prog_5_method_6_code
def yX3_longestRow : MethodName := ⟨RX3, "longestRow", "(III)I"⟩
abbrev cX3_rowFrom : ByteArray := prog_5_method_7_code
def yX3_rowFrom : MethodName := ⟨RX3, "rowFrom", "(III)I"⟩
def RX4 : String := "ScruffPaper$Page"
def TX4 : u_T := fun k => match k with
  | 0 => ("ScruffPaper$Page", "heights", "[I", true)
  | 1 => ("ScruffPaper$Page", "shapes", "[I", true)
  | 2 => ("ScruffPaper$Page", "highest", "[I", true)
  | 3 => ("ScruffPaper$Page", "marked", "[I", true)
  | 4 => ("ScruffPaper$Page", "reckoner", "LScruffPaper$Reckoner;", true)
  | 5 => ("ScruffPaper$Page", "readers", "I", false)
  | _ => ("ScruffPaper$Page", "day", "I", false)
def tyX4 : Nat → FieldType := fun k => match k with
  | 0 => .array .int
  | 1 => .array .int
  | 2 => .array .int
  | 3 => .array .int
  | 4 => .object "ScruffPaper$Reckoner"
  | 5 => .int
  | _ => .int
abbrev wsX40 : List Cond := u_ws RX4 TX4 7
theorem nmX4 : ∀ a, a < 7 → ∀ b, b < 7 → a ≠ b → (TX4 a).2.1 ≠ (TX4 b).2.1 := by decide +kernel
theorem tyX4_ok : ∀ k, k < 7 → parseFieldDescriptor (TX4 k).2.2.1 = some (tyX4 k) := by decide +kernel
abbrev cX4_init : ByteArray := prog_6_method_1_code
def yX4_init : MethodName := ⟨RX4, "<init>", "()V"⟩
abbrev cX4_forget : ByteArray := prog_6_method_2_code
def yX4_forget : MethodName := ⟨RX4, "forget", "()V"⟩
abbrev cX4_forgetReader : ByteArray := prog_6_method_3_code
def yX4_forgetReader : MethodName := ⟨RX4, "forgetReader", "(I)V"⟩
abbrev cX4_clear : ByteArray := prog_6_method_4_code
def yX4_clear : MethodName := ⟨RX4, "clear", "(I)V"⟩
abbrev cX4_add : ByteArray := prog_6_method_5_code
def yX4_add : MethodName := ⟨RX4, "add", "(III)V"⟩
abbrev cX4_read : ByteArray := prog_6_method_6_code
def yX4_read : MethodName := ⟨RX4, "read", "(ILScruffPaper$Text;)V"⟩
abbrev cX4_greatestBefore : ByteArray := prog_6_method_7_code
def yX4_greatestBefore : MethodName := ⟨RX4, "greatestBefore", "(II)I"⟩
abbrev cX4_greatestOf : ByteArray := prog_6_method_8_code
def yX4_greatestOf : MethodName := ⟨RX4, "greatestOf", "(II)I"⟩
abbrev cX4_isMarked : ByteArray := prog_6_method_9_code
def yX4_isMarked : MethodName := ⟨RX4, "isMarked", "(II)Z"⟩
abbrev cX4_beginsMark : ByteArray := prog_6_method_10_code
def yX4_beginsMark : MethodName := ⟨RX4, "beginsMark", "(II)Z"⟩
abbrev cX4_lastOf : ByteArray := prog_6_method_11_code
def yX4_lastOf : MethodName := ⟨RX4, "lastOf", "(II)I"⟩
abbrev cX4_marksOf : ByteArray := prog_6_method_12_code
def yX4_marksOf : MethodName := ⟨RX4, "marksOf", "(I)I"⟩
abbrev cX4_markNumber : ByteArray := prog_6_method_13_code
def yX4_markNumber : MethodName := ⟨RX4, "markNumber", "(II)I"⟩
abbrev cX4_numberOf : ByteArray := prog_6_method_14_code
def yX4_numberOf : MethodName := ⟨RX4, "numberOf", "(III)I"⟩
abbrev cX4_beginsPassed : ByteArray := prog_6_method_15_code
def yX4_beginsPassed : MethodName := ⟨RX4, "beginsPassed", "(III)Z"⟩
abbrev cX4_passedMarks : ByteArray := prog_6_method_16_code
def yX4_passedMarks : MethodName := ⟨RX4, "passedMarks", "(II)I"⟩
abbrev cX4_firstPassed : ByteArray := prog_6_method_17_code
def yX4_firstPassed : MethodName := ⟨RX4, "firstPassed", "(II)I"⟩
abbrev cX4_firstWrong : ByteArray := prog_6_method_18_code
def yX4_firstWrong : MethodName := ⟨RX4, "firstWrong", "(ILScruffPaper$Tape;I)I"⟩
def RX5 : String := "ScruffPaper$Reckoner"
def TX5 : u_T := fun k => match k with
  | 0 => ("ScruffPaper$Reckoner", "letters", "[I", true)
  | _ => ("ScruffPaper$Reckoner", "values", "[I", true)
def tyX5 : Nat → FieldType := fun k => match k with
  | 0 => .array .int
  | _ => .array .int
abbrev wsX50 : List Cond := u_ws RX5 TX5 2
theorem nmX5 : ∀ a, a < 2 → ∀ b, b < 2 → a ≠ b → (TX5 a).2.1 ≠ (TX5 b).2.1 := by decide +kernel
theorem tyX5_ok : ∀ k, k < 2 → parseFieldDescriptor (TX5 k).2.2.1 = some (tyX5 k) := by decide +kernel
abbrev cX5_init : ByteArray := prog_7_method_1_code
def yX5_init : MethodName := ⟨RX5, "<init>", "()V"⟩
abbrev cX5_firstThatHolds : ByteArray := prog_7_method_2_code
def yX5_firstThatHolds : MethodName := ⟨RX5, "firstThatHolds", "(LScruffPaper$Text;)I"⟩
abbrev cX5_worth : ByteArray := prog_7_method_3_code
def yX5_worth : MethodName := ⟨RX5, "worth", "(LScruffPaper$Text;I)I"⟩
abbrev cX5_reckon : ByteArray := prog_7_method_4_code
def yX5_reckon : MethodName := ⟨RX5, "reckon", "([III)I"⟩
abbrev cX5_isDivision : ByteArray := prog_7_method_5_code
def yX5_isDivision : MethodName := ⟨RX5, "isDivision", "(I)Z"⟩
abbrev cX5_joined : ByteArray := prog_7_method_6_code
def yX5_joined : MethodName := ⟨RX5, "joined", "(III)I"⟩
def RX6 : String := "ScruffPaper$Scribe"
def TX6 : u_T := fun k => match k with
  | 0 => ("ScruffPaper$Scribe", "code", "[I", true)
  | 1 => ("ScruffPaper$Scribe", "starts", "[I", true)
  | 2 => ("ScruffPaper$Scribe", "middles", "[I", true)
  | 3 => ("ScruffPaper$Scribe", "bytes", "[I", false)
  | 4 => ("ScruffPaper$Scribe", "length", "I", false)
  | 5 => ("ScruffPaper$Scribe", "at", "I", false)
  | 6 => ("ScruffPaper$Scribe", "used", "I", false)
  | _ => ("ScruffPaper$Scribe", "fault", "I", false)
def tyX6 : Nat → FieldType := fun k => match k with
  | 0 => .array .int
  | 1 => .array .int
  | 2 => .array .int
  | 3 => .array .int
  | 4 => .int
  | 5 => .int
  | 6 => .int
  | _ => .int
abbrev wsX60 : List Cond := u_ws RX6 TX6 8
theorem nmX6 : ∀ a, a < 8 → ∀ b, b < 8 → a ≠ b → (TX6 a).2.1 ≠ (TX6 b).2.1 := by decide +kernel
theorem tyX6_ok : ∀ k, k < 8 → parseFieldDescriptor (TX6 k).2.2.1 = some (tyX6 k) := by decide +kernel
abbrev cX6_init : ByteArray := prog_8_method_1_code
def yX6_init : MethodName := ⟨RX6, "<init>", "()V"⟩
abbrev cX6_writeClauses : ByteArray := prog_8_method_2_code
def yX6_writeClauses : MethodName := ⟨RX6, "writeClauses", "([IIC)LScruffPaper$Text;"⟩
abbrev cX6_writeExpression : ByteArray := prog_8_method_3_code
def yX6_writeExpression : MethodName := ⟨RX6, "writeExpression", "([II)LScruffPaper$Text;"⟩
abbrev cX6_faultCode : ByteArray := prog_8_method_4_code
def yX6_faultCode : MethodName := ⟨RX6, "faultCode", "()I"⟩
abbrev cX6_begin : ByteArray := prog_8_method_5_code
def yX6_begin : MethodName := ⟨RX6, "begin", "([II)V"⟩
abbrev cX6_written : ByteArray := prog_8_method_6_code
def yX6_written : MethodName := ⟨RX6, "written", "(I)LScruffPaper$Text;"⟩
abbrev cX6_next : ByteArray := prog_8_method_7_code
def yX6_next : MethodName := ⟨RX6, "next", "()I"⟩
abbrev cX6_fail : ByteArray := prog_8_method_8_code
def yX6_fail : MethodName := ⟨RX6, "fail", "(I)Z"⟩
abbrev cX6_signStands : ByteArray := prog_8_method_9_code
def yX6_signStands : MethodName := ⟨RX6, "signStands", "(C)Z"⟩
abbrev cX6_put : ByteArray := prog_8_method_10_code
def yX6_put : MethodName := ⟨RX6, "put", "(II)V"⟩
abbrev cX6_leapHere : ByteArray := prog_8_method_11_code
def yX6_leapHere : MethodName := ⟨RX6, "leapHere", "(I)V"⟩
abbrev cX6_clauseStands : ByteArray := prog_8_method_12_code
def yX6_clauseStands : MethodName := ⟨RX6, "clauseStands", "(CI)Z"⟩
abbrev cX6_rowStands : ByteArray := prog_8_method_13_code
def yX6_rowStands : MethodName := ⟨RX6, "rowStands", "(II)Z"⟩
abbrev cX6_operandStands : ByteArray := prog_8_method_14_code
def yX6_operandStands : MethodName := ⟨RX6, "operandStands", "(II)Z"⟩
abbrev cX6_joins : ByteArray := prog_8_method_15_code
def yX6_joins : MethodName := ⟨RX6, "joins", "(II)Z"⟩
abbrev cX6_pieceStands : ByteArray := prog_8_method_16_code
def yX6_pieceStands : MethodName := ⟨RX6, "pieceStands", "(I)Z"⟩
abbrev cX6_factorStands : ByteArray := prog_8_method_17_code
def yX6_factorStands : MethodName := ⟨RX6, "factorStands", "(I)Z"⟩
abbrev cX6_numberStands : ByteArray := prog_8_method_18_code
def yX6_numberStands : MethodName := ⟨RX6, "numberStands", "()Z"⟩
abbrev cX6_isDigit : ByteArray := prog_8_method_19_code
def yX6_isDigit : MethodName := ⟨RX6, "isDigit", "(I)Z"⟩
def RX7 : String := "ScruffPaper$Sky"
def TX7 : u_T := fun k => match k with
  | 0 => ("ScruffPaper$Sky", "sources", "[LScruffPaper$Source;", true)
  | 1 => ("ScruffPaper$Sky", "reckoner", "LScruffPaper$Reckoner;", true)
  | 2 => ("ScruffPaper$Sky", "many", "I", false)
  | _ => ("ScruffPaper$Sky", "seed", "I", false)
def tyX7 : Nat → FieldType := fun k => match k with
  | 0 => .array (.object "ScruffPaper$Source")
  | 1 => .object "ScruffPaper$Reckoner"
  | 2 => .int
  | _ => .int
abbrev wsX70 : List Cond := u_ws RX7 TX7 4
theorem nmX7 : ∀ a, a < 4 → ∀ b, b < 4 → a ≠ b → (TX7 a).2.1 ≠ (TX7 b).2.1 := by decide +kernel
theorem tyX7_ok : ∀ k, k < 4 → parseFieldDescriptor (TX7 k).2.2.1 = some (tyX7 k) := by decide +kernel
abbrev cX7_init : ByteArray := prog_9_method_1_code
def yX7_init : MethodName := ⟨RX7, "<init>", "()V"⟩
abbrev cX7_add : ByteArray := prog_9_method_2_code
def yX7_add : MethodName := ⟨RX7, "add", "(LScruffPaper$Source;)I"⟩
abbrev cX7_sourceAt : ByteArray := prog_9_method_3_code
def yX7_sourceAt : MethodName := ⟨RX7, "sourceAt", "(I)LScruffPaper$Source;"⟩
abbrev cX7_heightOf : ByteArray := prog_9_method_4_code
def yX7_heightOf : MethodName := ⟨RX7, "heightOf", "(LScruffPaper$Source;II)I"⟩
abbrev cX7_lay : ByteArray := prog_9_method_5_code
def yX7_lay : MethodName := ⟨RX7, "lay", "(LScruffPaper$Page;I)V"⟩
abbrev cX7_layOne : ByteArray := prog_9_method_6_code
def yX7_layOne : MethodName := ⟨RX7, "layOne", "(LScruffPaper$Page;LScruffPaper$Source;)V"⟩
abbrev cX7_luck : ByteArray := prog_9_method_7_code
def yX7_luck : MethodName := ⟨RX7, "luck", "(III)I"⟩
def RX8 : String := "ScruffPaper$Source"
def TX8 : u_T := fun k => match k with
  | 0 => ("ScruffPaper$Source", "number", "I", true)
  | 1 => ("ScruffPaper$Source", "star", "Z", true)
  | 2 => ("ScruffPaper$Source", "minute", "I", true)
  | 3 => ("ScruffPaper$Source", "wide", "I", true)
  | 4 => ("ScruffPaper$Source", "shape", "I", true)
  | 5 => ("ScruffPaper$Source", "weekdays", "I", true)
  | _ => ("ScruffPaper$Source", "law", "LScruffPaper$Text;", false)
def tyX8 : Nat → FieldType := fun k => match k with
  | 0 => .int
  | 1 => .boolean
  | 2 => .int
  | 3 => .int
  | 4 => .int
  | 5 => .int
  | _ => .object "ScruffPaper$Text"
abbrev wsX80 : List Cond := u_ws RX8 TX8 7
theorem nmX8 : ∀ a, a < 7 → ∀ b, b < 7 → a ≠ b → (TX8 a).2.1 ≠ (TX8 b).2.1 := by decide +kernel
theorem tyX8_ok : ∀ k, k < 7 → parseFieldDescriptor (TX8 k).2.2.1 = some (tyX8 k) := by decide +kernel
abbrev cX8_init : ByteArray := prog_10_method_1_code
def yX8_init : MethodName := ⟨RX8, "<init>", "(IZIIII)V"⟩
abbrev cX8_comesOn : ByteArray := prog_10_method_2_code
def yX8_comesOn : MethodName := ⟨RX8, "comesOn", "(I)Z"⟩
def RX9 : String := "ScruffPaper$Tape"
def TX9 : u_T := fun k => match k with
  | 0 => ("ScruffPaper$Tape", "bytes", "[I", true)
  | _ => ("ScruffPaper$Tape", "length", "I", false)
def tyX9 : Nat → FieldType := fun k => match k with
  | 0 => .array .int
  | _ => .int
abbrev wsX90 : List Cond := u_ws RX9 TX9 2
theorem nmX9 : ∀ a, a < 2 → ∀ b, b < 2 → a ≠ b → (TX9 a).2.1 ≠ (TX9 b).2.1 := by decide +kernel
theorem tyX9_ok : ∀ k, k < 2 → parseFieldDescriptor (TX9 k).2.2.1 = some (tyX9 k) := by decide +kernel
abbrev cX9_init : ByteArray := prog_11_method_1_code
def yX9_init : MethodName := ⟨RX9, "<init>", "()V"⟩
abbrev cX9_put : ByteArray := prog_11_method_2_code
def yX9_put : MethodName := ⟨RX9, "put", "(I)V"⟩
abbrev cX9_wordAt : ByteArray := prog_11_method_3_code
def yX9_wordAt : MethodName := ⟨RX9, "wordAt", "(I)I"⟩
abbrev cX9_clear : ByteArray := prog_11_method_4_code
def yX9_clear : MethodName := ⟨RX9, "clear", "()V"⟩
def RX10 : String := "ScruffPaper$Text"
def TX10 : u_T := fun k => match k with
  | 0 => ("ScruffPaper$Text", "clauses", "I", true)
  | 1 => ("ScruffPaper$Text", "code", "[I", true)
  | 2 => ("ScruffPaper$Text", "starts", "[I", true)
  | _ => ("ScruffPaper$Text", "middles", "[I", true)
def tyX10 : Nat → FieldType := fun k => match k with
  | 0 => .int
  | 1 => .array .int
  | 2 => .array .int
  | _ => .array .int
abbrev wsX100 : List Cond := u_ws RX10 TX10 4
theorem nmX10 : ∀ a, a < 4 → ∀ b, b < 4 → a ≠ b → (TX10 a).2.1 ≠ (TX10 b).2.1 := by decide +kernel
theorem tyX10_ok : ∀ k, k < 4 → parseFieldDescriptor (TX10 k).2.2.1 = some (tyX10 k) := by decide +kernel
abbrev cX10_init : ByteArray := prog_12_method_1_code
def yX10_init : MethodName := ⟨RX10, "<init>", "(I[I[I[I)V"⟩
def RX11 : String := "ScruffPaper"
def TX11 : u_T := fun k => match k with
  | 0 => ("ScruffPaper", "tape", "LScruffPaper$Tape;", true)
  | 1 => ("ScruffPaper", "scribe", "LScruffPaper$Scribe;", true)
  | 2 => ("ScruffPaper", "sky", "LScruffPaper$Sky;", true)
  | 3 => ("ScruffPaper", "page", "LScruffPaper$Page;", true)
  | 4 => ("ScruffPaper", "ways", "[LScruffPaper$Text;", true)
  | 5 => ("ScruffPaper", "notes", "LScruffPaper$Notes;", true)
  | 6 => ("ScruffPaper", "blips", "LScruffPaper$Blips;", true)
  | 7 => ("ScruffPaper", "nights", "LScruffPaper$Nights;", true)
  | _ => ("ScruffPaper", "lots", "LScruffPaper$Lots;", true)
def tyX11 : Nat → FieldType := fun k => match k with
  | 0 => .object "ScruffPaper$Tape"
  | 1 => .object "ScruffPaper$Scribe"
  | 2 => .object "ScruffPaper$Sky"
  | 3 => .object "ScruffPaper$Page"
  | 4 => .array (.object "ScruffPaper$Text")
  | 5 => .object "ScruffPaper$Notes"
  | 6 => .object "ScruffPaper$Blips"
  | 7 => .object "ScruffPaper$Nights"
  | _ => .object "ScruffPaper$Lots"
abbrev wsX110 : List Cond := u_ws RX11 TX11 9
theorem nmX11 : ∀ a, a < 9 → ∀ b, b < 9 → a ≠ b → (TX11 a).2.1 ≠ (TX11 b).2.1 := by decide +kernel
theorem tyX11_ok : ∀ k, k < 9 → parseFieldDescriptor (TX11 k).2.2.1 = some (tyX11 k) := by decide +kernel
abbrev cX11_init : ByteArray := prog_1_method_1_code
def yX11_init : MethodName := ⟨RX11, "<init>", "()V"⟩
abbrev cX11_source : ByteArray := prog_1_method_2_code
def yX11_source : MethodName := ⟨RX11, "source", "(ZIIII)I"⟩
abbrev cX11_seed : ByteArray := prog_1_method_3_code
def yX11_seed : MethodName := ⟨RX11, "seed", "(I)Z"⟩
abbrev cX11_feed : ByteArray := prog_1_method_4_code
def yX11_feed : MethodName := ⟨RX11, "feed", "(IIIII)I"⟩
abbrev cX11_law : ByteArray := prog_1_method_5_code
def yX11_law : MethodName := ⟨RX11, "law", "(II)I"⟩
abbrev cX11_way : ByteArray := prog_1_method_6_code
def yX11_way : MethodName := ⟨RX11, "way", "(II)I"⟩
abbrev cX11_story : ByteArray := prog_1_method_7_code
def yX11_story : MethodName := ⟨RX11, "story", "(II)I"⟩
abbrev cX11_star : ByteArray := prog_1_method_8_code
def yX11_star : MethodName := ⟨RX11, "star", "(II)I"⟩
abbrev cX11_height : ByteArray := prog_1_method_9_code
def yX11_height : MethodName := ⟨RX11, "height", "(III)I"⟩
abbrev cX11_paper : ByteArray := prog_1_method_10_code
def yX11_paper : MethodName := ⟨RX11, "paper", "(III)I"⟩
abbrev cX11_marks : ByteArray := prog_1_method_11_code
def yX11_marks : MethodName := ⟨RX11, "marks", "(III)I"⟩
abbrev cX11_passed : ByteArray := prog_1_method_12_code
def yX11_passed : MethodName := ⟨RX11, "passed", "(IIIII)I"⟩
abbrev cX11_note : ByteArray := prog_1_method_13_code
def yX11_note : MethodName := ⟨RX11, "note", "(III)I"⟩
abbrev cX11_one : ByteArray := prog_1_method_14_code
def yX11_one : MethodName := ⟨RX11, "one", "(II)I"⟩
abbrev cX11_known : ByteArray := prog_1_method_15_code
def yX11_known : MethodName := ⟨RX11, "known", "(II)I"⟩
abbrev cX11_row : ByteArray := prog_1_method_16_code
def yX11_row : MethodName := ⟨RX11, "row", "(III)I"⟩
abbrev cX11_blip : ByteArray := prog_1_method_17_code
def yX11_blip : MethodName := ⟨RX11, "blip", "(I)I"⟩
abbrev cX11_fits : ByteArray := prog_1_method_18_code
def yX11_fits : MethodName := ⟨RX11, "fits", "(II)I"⟩
abbrev cX11_beats : ByteArray := prog_1_method_19_code
def yX11_beats : MethodName := ⟨RX11, "beats", "(IIII)I"⟩
abbrev cX11_counted : ByteArray := prog_1_method_20_code
def yX11_counted : MethodName := ⟨RX11, "counted", "(II)I"⟩
abbrev cX11_sure : ByteArray := prog_1_method_21_code
def yX11_sure : MethodName := ⟨RX11, "sure", "(III)I"⟩
abbrev cX11_lost : ByteArray := prog_1_method_22_code
def yX11_lost : MethodName := ⟨RX11, "lost", "(III)I"⟩
abbrev cX11_night : ByteArray := prog_1_method_23_code
def yX11_night : MethodName := ⟨RX11, "night", "(II)I"⟩
abbrev cX11_says : ByteArray := prog_1_method_24_code
def yX11_says : MethodName := ⟨RX11, "says", "(II)I"⟩
abbrev cX11_falls : ByteArray := prog_1_method_25_code
def yX11_falls : MethodName := ⟨RX11, "falls", "(II)I"⟩
abbrev cX11_told : ByteArray := prog_1_method_26_code
def yX11_told : MethodName := ⟨RX11, "told", "(II)I"⟩
abbrev cX11_bound : ByteArray := prog_1_method_27_code
def yX11_bound : MethodName := ⟨RX11, "bound", "(II)I"⟩
abbrev cX11_there : ByteArray := prog_1_method_28_code
def yX11_there : MethodName := ⟨RX11, "there", "(II)Z"⟩
abbrev cX11_pen : ByteArray := prog_1_method_29_code
def yX11_pen : MethodName := ⟨RX11, "pen", "(III)I"⟩
abbrev cX11_odds : ByteArray := prog_1_method_30_code
def yX11_odds : MethodName := ⟨RX11, "odds", "(IIIII)J"⟩
abbrev cX11_more : ByteArray := prog_1_method_31_code
def yX11_more : MethodName := ⟨RX11, "more", "(IIIII)I"⟩
abbrev cX11_check : ByteArray := prog_1_method_32_code
def yX11_check : MethodName := ⟨RX11, "check", "(III)I"⟩
abbrev cX11_count : ByteArray := prog_1_method_33_code
def yX11_count : MethodName := ⟨RX11, "count", "(I)I"⟩
abbrev cX11_textCount : ByteArray := prog_1_method_34_code
def yX11_textCount : MethodName := ⟨RX11, "textCount", "(I)I"⟩
abbrev cX11_tapeHas : ByteArray := prog_1_method_35_code
def yX11_tapeHas : MethodName := ⟨RX11, "tapeHas", "(II)Z"⟩
abbrev cX11_canScan : ByteArray := prog_1_method_36_code
def yX11_canScan : MethodName := ⟨RX11, "canScan", "(III)Z"⟩
abbrev cX11_clausesOf : ByteArray := prog_1_method_37_code
def yX11_clausesOf : MethodName := ⟨RX11, "clausesOf", "(LScruffPaper$Text;)I"⟩
abbrev cX11_isWithin : ByteArray := prog_1_method_38_code
def yX11_isWithin : MethodName := ⟨RX11, "isWithin", "(III)Z"⟩
abbrev cX11_isDay : ByteArray := prog_1_method_39_code
def yX11_isDay : MethodName := ⟨RX11, "isDay", "(I)Z"⟩
abbrev cX11_isMinute : ByteArray := prog_1_method_40_code
def yX11_isMinute : MethodName := ⟨RX11, "isMinute", "(I)Z"⟩
abbrev cX11_isShape : ByteArray := prog_1_method_41_code
def yX11_isShape : MethodName := ⟨RX11, "isShape", "(I)Z"⟩
abbrev cX11_isReader : ByteArray := prog_1_method_42_code
def yX11_isReader : MethodName := ⟨RX11, "isReader", "(I)Z"⟩
abbrev cX11_isStory : ByteArray := prog_1_method_43_code
def yX11_isStory : MethodName := ⟨RX11, "isStory", "(I)Z"⟩
abbrev cX11_isBeat : ByteArray := prog_1_method_44_code
def yX11_isBeat : MethodName := ⟨RX11, "isBeat", "(I)Z"⟩
abbrev cX11_isNightError : ByteArray := prog_1_method_45_code
def yX11_isNightError : MethodName := ⟨RX11, "isNightError", "(I)Z"⟩
abbrev cX11_isLook : ByteArray := prog_1_method_46_code
def yX11_isLook : MethodName := ⟨RX11, "isLook", "(III)Z"⟩
abbrev cX11_starMinute : ByteArray := prog_1_method_47_code
def yX11_starMinute : MethodName := ⟨RX11, "starMinute", "(II)I"⟩
abbrev cX11_minutesApart : ByteArray := prog_1_method_48_code
def yX11_minutesApart : MethodName := ⟨RX11, "minutesApart", "(II)I"⟩
abbrev cX11_lieOnArc : ByteArray := prog_1_method_49_code
def yX11_lieOnArc : MethodName := ⟨RX11, "lieOnArc", "([IIII)Z"⟩
abbrev cX11_lieOnArcFrom : ByteArray := prog_1_method_50_code
def yX11_lieOnArcFrom : MethodName := ⟨RX11, "lieOnArcFrom", "(I[IIII)Z"⟩
def RX12 : String := "ScruffPaperModel"
def TX12 : u_T := fun k => match k with
  | 0 => ("ScruffPaperModel", "tape", "[B", true)
  | 1 => ("ScruffPaperModel", "taped", "I", false)
  | 2 => ("ScruffPaperModel", "sources", "I", false)
  | 3 => ("ScruffPaperModel", "seed", "I", false)
  | 4 => ("ScruffPaperModel", "notes", "I", false)
  | 5 => ("ScruffPaperModel", "blips", "I", false)
  | 6 => ("ScruffPaperModel", "nights", "I", false)
  | 7 => ("ScruffPaperModel", "many", "[I", true)
  | 8 => ("ScruffPaperModel", "sumFrom", "[I", true)
  | 9 => ("ScruffPaperModel", "codeFrom", "[I", true)
  | 10 => ("ScruffPaperModel", "codeTo", "[I", true)
  | 11 => ("ScruffPaperModel", "code", "[I", true)
  | 12 => ("ScruffPaperModel", "codeArg", "[I", true)
  | 13 => ("ScruffPaperModel", "newSum", "[I", true)
  | 14 => ("ScruffPaperModel", "newFrom", "[I", true)
  | 15 => ("ScruffPaperModel", "newTo", "[I", true)
  | 16 => ("ScruffPaperModel", "newCode", "[I", true)
  | 17 => ("ScruffPaperModel", "newArg", "[I", true)
  | 18 => ("ScruffPaperModel", "place", "I", false)
  | 19 => ("ScruffPaperModel", "end", "I", false)
  | 20 => ("ScruffPaperModel", "bad", "I", false)
  | 21 => ("ScruffPaperModel", "clauses", "I", false)
  | 22 => ("ScruffPaperModel", "codes", "I", false)
  | 23 => ("ScruffPaperModel", "open", "I", false)
  | 24 => ("ScruffPaperModel", "stacked", "I", false)
  | 25 => ("ScruffPaperModel", "isOver", "Z", false)
  | 26 => ("ScruffPaperModel", "isBehind", "Z", false)
  | 27 => ("ScruffPaperModel", "stack", "[I", true)
  | 28 => ("ScruffPaperModel", "atA", "I", false)
  | 29 => ("ScruffPaperModel", "atB", "I", false)
  | 30 => ("ScruffPaperModel", "atD", "I", false)
  | 31 => ("ScruffPaperModel", "atF", "I", false)
  | 32 => ("ScruffPaperModel", "atG", "I", false)
  | 33 => ("ScruffPaperModel", "atH", "I", false)
  | 34 => ("ScruffPaperModel", "atL", "I", false)
  | 35 => ("ScruffPaperModel", "atM", "I", false)
  | 36 => ("ScruffPaperModel", "atN", "I", false)
  | 37 => ("ScruffPaperModel", "atS", "I", false)
  | 38 => ("ScruffPaperModel", "atT", "I", false)
  | 39 => ("ScruffPaperModel", "atU", "I", false)
  | 40 => ("ScruffPaperModel", "atX", "I", false)
  | 41 => ("ScruffPaperModel", "worth", "[I", true)
  | 42 => ("ScruffPaperModel", "isRefused", "[Z", true)
  | 43 => ("ScruffPaperModel", "byStar", "[Z", true)
  | 44 => ("ScruffPaperModel", "minuteOf", "[I", true)
  | 45 => ("ScruffPaperModel", "wide", "[I", true)
  | 46 => ("ScruffPaperModel", "shape", "[I", true)
  | 47 => ("ScruffPaperModel", "weekdays", "[I", true)
  | 48 => ("ScruffPaperModel", "paperHigh", "I", false)
  | 49 => ("ScruffPaperModel", "paperShape", "I", false)
  | 50 => ("ScruffPaperModel", "highAt", "[I", true)
  | 51 => ("ScruffPaperModel", "shapeAt", "[I", true)
  | 52 => ("ScruffPaperModel", "first", "[I", true)
  | 53 => ("ScruffPaperModel", "last", "[I", true)
  | 54 => ("ScruffPaperModel", "greatest", "[I", true)
  | 55 => ("ScruffPaperModel", "marked", "[I", true)
  | 56 => ("ScruffPaperModel", "noteDay", "[I", true)
  | 57 => ("ScruffPaperModel", "noteMinute", "[I", true)
  | 58 => ("ScruffPaperModel", "noteShape", "[I", true)
  | 59 => ("ScruffPaperModel", "time", "[I", true)
  | 60 => ("ScruffPaperModel", "fitMany", "I", false)
  | 61 => ("ScruffPaperModel", "fitLeast", "I", false)
  | 62 => ("ScruffPaperModel", "fitMost", "I", false)
  | 63 => ("ScruffPaperModel", "nightDay", "[I", true)
  | 64 => ("ScruffPaperModel", "found", "[I", true)
  | 65 => ("ScruffPaperModel", "ten", "[I", true)
  | _ => ("ScruffPaperModel", "leastFrom", "[I", true)
def tyX12 : Nat → FieldType := fun k => match k with
  | 0 => .array .byte
  | 1 => .int
  | 2 => .int
  | 3 => .int
  | 4 => .int
  | 5 => .int
  | 6 => .int
  | 7 => .array .int
  | 8 => .array .int
  | 9 => .array .int
  | 10 => .array .int
  | 11 => .array .int
  | 12 => .array .int
  | 13 => .array .int
  | 14 => .array .int
  | 15 => .array .int
  | 16 => .array .int
  | 17 => .array .int
  | 18 => .int
  | 19 => .int
  | 20 => .int
  | 21 => .int
  | 22 => .int
  | 23 => .int
  | 24 => .int
  | 25 => .boolean
  | 26 => .boolean
  | 27 => .array .int
  | 28 => .int
  | 29 => .int
  | 30 => .int
  | 31 => .int
  | 32 => .int
  | 33 => .int
  | 34 => .int
  | 35 => .int
  | 36 => .int
  | 37 => .int
  | 38 => .int
  | 39 => .int
  | 40 => .int
  | 41 => .array .int
  | 42 => .array .boolean
  | 43 => .array .boolean
  | 44 => .array .int
  | 45 => .array .int
  | 46 => .array .int
  | 47 => .array .int
  | 48 => .int
  | 49 => .int
  | 50 => .array .int
  | 51 => .array .int
  | 52 => .array .int
  | 53 => .array .int
  | 54 => .array .int
  | 55 => .array .int
  | 56 => .array .int
  | 57 => .array .int
  | 58 => .array .int
  | 59 => .array .int
  | 60 => .int
  | 61 => .int
  | 62 => .int
  | 63 => .array .int
  | 64 => .array .int
  | 65 => .array .int
  | _ => .array .int
abbrev wsX120 : List Cond := u_ws RX12 TX12 67
theorem nmX12 : ∀ a, a < 67 → ∀ b, b < 67 → a ≠ b → (TX12 a).2.1 ≠ (TX12 b).2.1 := by decide +kernel
theorem tyX12_ok : ∀ k, k < 67 → parseFieldDescriptor (TX12 k).2.2.1 = some (tyX12 k) := by decide +kernel
abbrev cX12_init : ByteArray := prog_14_method_1_code
def yX12_init : MethodName := ⟨RX12, "<init>", "()V"⟩
abbrev cX12_lies : ByteArray := prog_14_method_2_code
def yX12_lies : MethodName := ⟨RX12, "lies", "(JJJ)Z"⟩
abbrev cX12_has : ByteArray := prog_14_method_3_code
def yX12_has : MethodName := ⟨RX12, "has", "(II)Z"⟩
abbrev cX12_push : ByteArray := prog_14_method_4_code
def yX12_push : MethodName := ⟨RX12, "push", "(I)V"⟩
abbrev cX12_feed : ByteArray := prog_14_method_5_code
def yX12_feed : MethodName := ⟨RX12, "feed", "(IIIII)I"⟩
abbrev cX12_here : ByteArray := prog_14_method_6_code
def yX12_here : MethodName := ⟨RX12, "here", "()I"⟩
abbrev cX12_wrongs : ByteArray := prog_14_method_7_code
def yX12_wrongs : MethodName := ⟨RX12, "wrongs", "(II)V"⟩
abbrev cX12_isGood : ByteArray := prog_14_method_8_code
def yX12_isGood : MethodName := ⟨RX12, "isGood", "()Z"⟩
abbrev cX12_emit : ByteArray := prog_14_method_9_code
def yX12_emit : MethodName := ⟨RX12, "emit", "(II)V"⟩
abbrev cX12_top : ByteArray := prog_14_method_10_code
def yX12_top : MethodName := ⟨RX12, "top", "()I"⟩
abbrev cX12_puts : ByteArray := prog_14_method_11_code
def yX12_puts : MethodName := ⟨RX12, "puts", "(I)V"⟩
abbrev cX12_opens : ByteArray := prog_14_method_12_code
def yX12_opens : MethodName := ⟨RX12, "opens", "()V"⟩
abbrev cX12_seesDigit : ByteArray := prog_14_method_13_code
def yX12_seesDigit : MethodName := ⟨RX12, "seesDigit", "()Z"⟩
abbrev cX12_reads : ByteArray := prog_14_method_14_code
def yX12_reads : MethodName := ⟨RX12, "reads", "()I"⟩
abbrev cX12_isTimes : ByteArray := prog_14_method_15_code
def yX12_isTimes : MethodName := ⟨RX12, "isTimes", "(I)Z"⟩
abbrev cX12_isPlus : ByteArray := prog_14_method_16_code
def yX12_isPlus : MethodName := ⟨RX12, "isPlus", "(I)Z"⟩
abbrev cX12_isSign : ByteArray := prog_14_method_17_code
def yX12_isSign : MethodName := ⟨RX12, "isSign", "(I)Z"⟩
abbrev cX12_isValue : ByteArray := prog_14_method_18_code
def yX12_isValue : MethodName := ⟨RX12, "isValue", "(I)Z"⟩
abbrev cX12_sums : ByteArray := prog_14_method_19_code
def yX12_sums : MethodName := ⟨RX12, "sums", "(Z)V"⟩
abbrev cX12_joins : ByteArray := prog_14_method_20_code
def yX12_joins : MethodName := ⟨RX12, "joins", "(Z)V"⟩
abbrev cX12_ends : ByteArray := prog_14_method_21_code
def yX12_ends : MethodName := ⟨RX12, "ends", "()V"⟩
abbrev cX12_factor : ByteArray := prog_14_method_22_code
def yX12_factor : MethodName := ⟨RX12, "factor", "()V"⟩
abbrev cX12_stays : ByteArray := prog_14_method_23_code
def yX12_stays : MethodName := ⟨RX12, "stays", "()Z"⟩
abbrev cX12_value : ByteArray := prog_14_method_24_code
def yX12_value : MethodName := ⟨RX12, "value", "()V"⟩
abbrev cX12_pieceOfC : ByteArray := prog_14_method_25_code
def yX12_pieceOfC : MethodName := ⟨RX12, "pieceOfC", "()V"⟩
abbrev cX12_goesBehind : ByteArray := prog_14_method_26_code
def yX12_goesBehind : MethodName := ⟨RX12, "goesBehind", "()Z"⟩
abbrev cX12_condition : ByteArray := prog_14_method_27_code
def yX12_condition : MethodName := ⟨RX12, "condition", "()V"⟩
abbrev cX12_clause : ByteArray := prog_14_method_28_code
def yX12_clause : MethodName := ⟨RX12, "clause", "(Z)V"⟩
abbrev cX12_begins : ByteArray := prog_14_method_29_code
def yX12_begins : MethodName := ⟨RX12, "begins", "(I)V"⟩
abbrev cX12_keeps : ByteArray := prog_14_method_30_code
def yX12_keeps : MethodName := ⟨RX12, "keeps", "(I)V"⟩
abbrev cX12_readsText : ByteArray := prog_14_method_31_code
def yX12_readsText : MethodName := ⟨RX12, "readsText", "(IIZ)I"⟩
abbrev cX12_isSource : ByteArray := prog_14_method_32_code
def yX12_isSource : MethodName := ⟨RX12, "isSource", "(I)Z"⟩
abbrev cX12_isReader : ByteArray := prog_14_method_33_code
def yX12_isReader : MethodName := ⟨RX12, "isReader", "(I)Z"⟩
abbrev cX12_canRead : ByteArray := prog_14_method_34_code
def yX12_canRead : MethodName := ⟨RX12, "canRead", "(II)Z"⟩
abbrev cX12_law : ByteArray := prog_14_method_35_code
def yX12_law : MethodName := ⟨RX12, "law", "(II)I"⟩
abbrev cX12_way : ByteArray := prog_14_method_36_code
def yX12_way : MethodName := ⟨RX12, "way", "(II)I"⟩
abbrev cX12_isTale : ByteArray := prog_14_method_37_code
def yX12_isTale : MethodName := ⟨RX12, "isTale", "(I)Z"⟩
abbrev cX12_story : ByteArray := prog_14_method_38_code
def yX12_story : MethodName := ⟨RX12, "story", "(II)I"⟩
abbrev cX12_clears : ByteArray := prog_14_method_39_code
def yX12_clears : MethodName := ⟨RX12, "clears", "()V"⟩
abbrev cX12_valueOf : ByteArray := prog_14_method_40_code
def yX12_valueOf : MethodName := ⟨RX12, "valueOf", "(I)I"⟩
abbrev cX12_worked : ByteArray := prog_14_method_41_code
def yX12_worked : MethodName := ⟨RX12, "worked", "(III)I"⟩
abbrev cX12_does : ByteArray := prog_14_method_42_code
def yX12_does : MethodName := ⟨RX12, "does", "(II)V"⟩
abbrev cX12_works : ByteArray := prog_14_method_43_code
def yX12_works : MethodName := ⟨RX12, "works", "(II)V"⟩
abbrev cX12_holds : ByteArray := prog_14_method_44_code
def yX12_holds : MethodName := ⟨RX12, "holds", "(I)Z"⟩
abbrev cX12_sumOf : ByteArray := prog_14_method_45_code
def yX12_sumOf : MethodName := ⟨RX12, "sumOf", "(I)I"⟩
abbrev cX12_isDay : ByteArray := prog_14_method_46_code
def yX12_isDay : MethodName := ⟨RX12, "isDay", "(I)Z"⟩
abbrev cX12_isMinute : ByteArray := prog_14_method_47_code
def yX12_isMinute : MethodName := ⟨RX12, "isMinute", "(I)Z"⟩
abbrev cX12_source : ByteArray := prog_14_method_48_code
def yX12_source : MethodName := ⟨RX12, "source", "(ZIIII)I"⟩
abbrev cX12_seed : ByteArray := prog_14_method_49_code
def yX12_seed : MethodName := ⟨RX12, "seed", "(I)Z"⟩
abbrev cX12_starAt : ByteArray := prog_14_method_50_code
def yX12_starAt : MethodName := ⟨RX12, "starAt", "(II)I"⟩
abbrev cX12_farOf : ByteArray := prog_14_method_51_code
def yX12_farOf : MethodName := ⟨RX12, "farOf", "(II)I"⟩
abbrev cX12_star : ByteArray := prog_14_method_52_code
def yX12_star : MethodName := ⟨RX12, "star", "(II)I"⟩
abbrev cX12_awayOf : ByteArray := prog_14_method_53_code
def yX12_awayOf : MethodName := ⟨RX12, "awayOf", "(III)I"⟩
abbrev cX12_isThere : ByteArray := prog_14_method_54_code
def yX12_isThere : MethodName := ⟨RX12, "isThere", "(III)Z"⟩
abbrev cX12_luckOf : ByteArray := prog_14_method_55_code
def yX12_luckOf : MethodName := ⟨RX12, "luckOf", "(III)I"⟩
abbrev cX12_heightOf : ByteArray := prog_14_method_56_code
def yX12_heightOf : MethodName := ⟨RX12, "heightOf", "(III)I"⟩
abbrev cX12_height : ByteArray := prog_14_method_57_code
def yX12_height : MethodName := ⟨RX12, "height", "(III)I"⟩
abbrev cX12_looks : ByteArray := prog_14_method_58_code
def yX12_looks : MethodName := ⟨RX12, "looks", "(II)V"⟩
abbrev cX12_paper : ByteArray := prog_14_method_59_code
def yX12_paper : MethodName := ⟨RX12, "paper", "(III)I"⟩
abbrev cX12_lays : ByteArray := prog_14_method_60_code
def yX12_lays : MethodName := ⟨RX12, "lays", "(I)V"⟩
abbrev cX12_isMarked : ByteArray := prog_14_method_61_code
def yX12_isMarked : MethodName := ⟨RX12, "isMarked", "(IIII)Z"⟩
abbrev cX12_goesOver : ByteArray := prog_14_method_62_code
def yX12_goesOver : MethodName := ⟨RX12, "goesOver", "(III)V"⟩
abbrev cX12_marks : ByteArray := prog_14_method_63_code
def yX12_marks : MethodName := ⟨RX12, "marks", "(III)I"⟩
abbrev cX12_isAlone : ByteArray := prog_14_method_64_code
def yX12_isAlone : MethodName := ⟨RX12, "isAlone", "(I)Z"⟩
abbrev cX12_passed : ByteArray := prog_14_method_65_code
def yX12_passed : MethodName := ⟨RX12, "passed", "(IIIII)I"⟩
abbrev cX12_note : ByteArray := prog_14_method_66_code
def yX12_note : MethodName := ⟨RX12, "note", "(III)I"⟩
abbrev cX12_isWithin : ByteArray := prog_14_method_67_code
def yX12_isWithin : MethodName := ⟨RX12, "isWithin", "(I)Z"⟩
abbrev cX12_isShape : ByteArray := prog_14_method_68_code
def yX12_isShape : MethodName := ⟨RX12, "isShape", "(I)Z"⟩
abbrev cX12_minuteBy : ByteArray := prog_14_method_69_code
def yX12_minuteBy : MethodName := ⟨RX12, "minuteBy", "(IZ)I"⟩
abbrev cX12_onArc : ByteArray := prog_14_method_70_code
def yX12_onArc : MethodName := ⟨RX12, "onArc", "(IIZII)I"⟩
abbrev cX12_manyOf : ByteArray := prog_14_method_71_code
def yX12_manyOf : MethodName := ⟨RX12, "manyOf", "(II)I"⟩
abbrev cX12_isOne : ByteArray := prog_14_method_72_code
def yX12_isOne : MethodName := ⟨RX12, "isOne", "(IIZI)Z"⟩
abbrev cX12_oneBits : ByteArray := prog_14_method_73_code
def yX12_oneBits : MethodName := ⟨RX12, "oneBits", "(III)I"⟩
abbrev cX12_one : ByteArray := prog_14_method_74_code
def yX12_one : MethodName := ⟨RX12, "one", "(II)I"⟩
abbrev cX12_known : ByteArray := prog_14_method_75_code
def yX12_known : MethodName := ⟨RX12, "known", "(II)I"⟩
abbrev cX12_row : ByteArray := prog_14_method_76_code
def yX12_row : MethodName := ⟨RX12, "row", "(III)I"⟩
abbrev cX12_blip : ByteArray := prog_14_method_77_code
def yX12_blip : MethodName := ⟨RX12, "blip", "(I)I"⟩
abbrev cX12_isFit : ByteArray := prog_14_method_78_code
def yX12_isFit : MethodName := ⟨RX12, "isFit", "(II)Z"⟩
abbrev cX12_isBeat : ByteArray := prog_14_method_79_code
def yX12_isBeat : MethodName := ⟨RX12, "isBeat", "(I)Z"⟩
abbrev cX12_fits : ByteArray := prog_14_method_80_code
def yX12_fits : MethodName := ⟨RX12, "fits", "(II)I"⟩
abbrev cX12_canBeat : ByteArray := prog_14_method_81_code
def yX12_canBeat : MethodName := ⟨RX12, "canBeat", "(III)Z"⟩
abbrev cX12_fitsAll : ByteArray := prog_14_method_82_code
def yX12_fitsAll : MethodName := ⟨RX12, "fitsAll", "(III)V"⟩
abbrev cX12_beats : ByteArray := prog_14_method_83_code
def yX12_beats : MethodName := ⟨RX12, "beats", "(IIII)I"⟩
abbrev cX12_countOf : ByteArray := prog_14_method_84_code
def yX12_countOf : MethodName := ⟨RX12, "countOf", "(II)I"⟩
abbrev cX12_counted : ByteArray := prog_14_method_85_code
def yX12_counted : MethodName := ⟨RX12, "counted", "(II)I"⟩
abbrev cX12_sure : ByteArray := prog_14_method_86_code
def yX12_sure : MethodName := ⟨RX12, "sure", "(III)I"⟩
abbrev cX12_lost : ByteArray := prog_14_method_87_code
def yX12_lost : MethodName := ⟨RX12, "lost", "(III)I"⟩
abbrev cX12_night : ByteArray := prog_14_method_88_code
def yX12_night : MethodName := ⟨RX12, "night", "(II)I"⟩
abbrev cX12_isNight : ByteArray := prog_14_method_89_code
def yX12_isNight : MethodName := ⟨RX12, "isNight", "(I)Z"⟩
abbrev cX12_isTold : ByteArray := prog_14_method_90_code
def yX12_isTold : MethodName := ⟨RX12, "isTold", "(I)Z"⟩
abbrev cX12_saysOf : ByteArray := prog_14_method_91_code
def yX12_saysOf : MethodName := ⟨RX12, "saysOf", "(II)I"⟩
abbrev cX12_says : ByteArray := prog_14_method_92_code
def yX12_says : MethodName := ⟨RX12, "says", "(II)I"⟩
abbrev cX12_isError : ByteArray := prog_14_method_93_code
def yX12_isError : MethodName := ⟨RX12, "isError", "(I)Z"⟩
abbrev cX12_fallsAt : ByteArray := prog_14_method_94_code
def yX12_fallsAt : MethodName := ⟨RX12, "fallsAt", "(II)I"⟩
abbrev cX12_falls : ByteArray := prog_14_method_95_code
def yX12_falls : MethodName := ⟨RX12, "falls", "(II)I"⟩
abbrev cX12_told : ByteArray := prog_14_method_96_code
def yX12_told : MethodName := ⟨RX12, "told", "(II)I"⟩
abbrev cX12_waveOf : ByteArray := prog_14_method_97_code
def yX12_waveOf : MethodName := ⟨RX12, "waveOf", "(II)I"⟩
abbrev cX12_canGoAbout : ByteArray := prog_14_method_98_code
def yX12_canGoAbout : MethodName := ⟨RX12, "canGoAbout", "(IIII)Z"⟩
abbrev cX12_bound : ByteArray := prog_14_method_99_code
def yX12_bound : MethodName := ⟨RX12, "bound", "(II)I"⟩
abbrev cX12_there : ByteArray := prog_14_method_100_code
def yX12_there : MethodName := ⟨RX12, "there", "(II)Z"⟩
abbrev cX12_leastAt : ByteArray := prog_14_method_101_code
def yX12_leastAt : MethodName := ⟨RX12, "leastAt", "(II)I"⟩
abbrev cX12_pen : ByteArray := prog_14_method_102_code
def yX12_pen : MethodName := ⟨RX12, "pen", "(III)I"⟩
abbrev cX12_choices : ByteArray := prog_14_method_103_code
def yX12_choices : MethodName := ⟨RX12, "choices", "(II)J"⟩
abbrev cX12_divisor : ByteArray := prog_14_method_104_code
def yX12_divisor : MethodName := ⟨RX12, "divisor", "(JJ)J"⟩
abbrev cX12_canLook : ByteArray := prog_14_method_105_code
def yX12_canLook : MethodName := ⟨RX12, "canLook", "(III)Z"⟩
abbrev cX12_waysOf : ByteArray := prog_14_method_106_code
def yX12_waysOf : MethodName := ⟨RX12, "waysOf", "(IIII)J"⟩
abbrev cX12_odds : ByteArray := prog_14_method_107_code
def yX12_odds : MethodName := ⟨RX12, "odds", "(IIIII)J"⟩
abbrev cX12_more : ByteArray := prog_14_method_108_code
def yX12_more : MethodName := ⟨RX12, "more", "(IIIII)I"⟩
abbrev cX12_numberAt : ByteArray := prog_14_method_109_code
def yX12_numberAt : MethodName := ⟨RX12, "numberAt", "(I)I"⟩
abbrev cX12_check : ByteArray := prog_14_method_110_code
def yX12_check : MethodName := ⟨RX12, "check", "(III)I"⟩
abbrev cX12_count : ByteArray := prog_14_method_111_code
def yX12_count : MethodName := ⟨RX12, "count", "(I)I"⟩
def RJx145de : String := "java/io/Serializable"
def RJx9f9b0 : String := "java/lang/CharSequence"
def RJ11 : String := "java/lang/Character"
abbrev cJ11_isValidCodePoint_9a6ad : ByteArray := prog_15_method_11_code
def yJ11_isValidCodePoint_9a6ad : MethodName := ⟨RJ11, "isValidCodePoint", "(I)Z"⟩
abbrev cJ11_highSurrogate_5068e : ByteArray := prog_15_method_28_code
def yJ11_highSurrogate_5068e : MethodName := ⟨RJ11, "highSurrogate", "(I)C"⟩
abbrev cJ11_lowSurrogate_5068e : ByteArray := prog_15_method_29_code
def yJ11_lowSurrogate_5068e : MethodName := ⟨RJ11, "lowSurrogate", "(I)C"⟩
def RJx8e188 : String := "java/lang/Cloneable"
def RJxb160c : String := "java/lang/Comparable"
def RJ9 : String := "java/lang/Math"
abbrev cJ9_floorMod_7cf53 : ByteArray := prog_17_method_50_code
def yJ9_floorMod_7cf53 : MethodName := ⟨RJ9, "floorMod", "(II)I"⟩
abbrev cJ9_abs_0f7a4 : ByteArray := prog_17_method_59_code
def yJ9_abs_0f7a4 : MethodName := ⟨RJ9, "abs", "(I)I"⟩
abbrev cJ9_abs_067f4 : ByteArray := prog_17_method_61_code
def yJ9_abs_067f4 : MethodName := ⟨RJ9, "abs", "(J)J"⟩
abbrev cJ9_max_7cf53 : ByteArray := prog_17_method_65_code
def yJ9_max_7cf53 : MethodName := ⟨RJ9, "max", "(II)I"⟩
abbrev cJ9_max_f86c9 : ByteArray := prog_17_method_66_code
def yJ9_max_f86c9 : MethodName := ⟨RJ9, "max", "(JJ)J"⟩
abbrev cJ9_min_7cf53 : ByteArray := prog_17_method_69_code
def yJ9_min_7cf53 : MethodName := ⟨RJ9, "min", "(II)I"⟩
def RJ0 : String := "java/lang/String"
abbrev cJ0_length_8abf5 : ByteArray := prog_18_method_54_code
def yJ0_length_8abf5 : MethodName := ⟨RJ0, "length", "()I"⟩
abbrev cJ0_indexOf_0f7a4 : ByteArray := prog_18_method_79_code
def yJ0_indexOf_0f7a4 : MethodName := ⟨RJ0, "indexOf", "(I)I"⟩
abbrev cJ0_indexOf_7cf53 : ByteArray := prog_18_method_80_code
def yJ0_indexOf_7cf53 : MethodName := ⟨RJ0, "indexOf", "(II)I"⟩
abbrev cJ0_coder_7d493 : ByteArray := prog_18_method_152_code
def yJ0_coder_7d493 : MethodName := ⟨RJ0, "coder", "()B"⟩
abbrev cJ0_isLatin1_aae02 : ByteArray := prog_18_method_154_code
def yJ0_isLatin1_aae02 : MethodName := ⟨RJ0, "isLatin1", "()Z"⟩
abbrev cJ0_checkBoundsBeginEnd_23922 : ByteArray := prog_18_method_158_code
def yJ0_checkBoundsBeginEnd_23922 : MethodName := ⟨RJ0, "checkBoundsBeginEnd", "(III)V"⟩
def RJ1 : String := "java/lang/StringLatin1"
abbrev cJ1_canEncode_9a6ad : ByteArray := prog_19_method_4_code
def yJ1_canEncode_9a6ad : MethodName := ⟨RJ1, "canEncode", "(I)Z"⟩
abbrev cJ1_indexOf_4cfef : ByteArray := prog_19_method_22_code
def yJ1_indexOf_4cfef : MethodName := ⟨RJ1, "indexOf", "([BIII)I"⟩
abbrev cJ1_indexOfChar_4cfef : ByteArray := prog_19_method_23_code
def yJ1_indexOfChar_4cfef : MethodName := ⟨RJ1, "indexOfChar", "([BIII)I"⟩
def RJ2 : String := "java/lang/StringUTF16"
abbrev cJ2_getChar_3b067 : ByteArray := prog_20_method_5_code
def yJ2_getChar_3b067 : MethodName := ⟨RJ2, "getChar", "([BI)C"⟩
abbrev cJ2_length_9d52b : ByteArray := prog_20_method_6_code
def yJ2_length_9d52b : MethodName := ⟨RJ2, "length", "([B)I"⟩
abbrev cJ2_indexOf_4cfef : ByteArray := prog_20_method_40_code
def yJ2_indexOf_4cfef : MethodName := ⟨RJ2, "indexOf", "([BIII)I"⟩
abbrev cJ2_indexOfChar_4cfef : ByteArray := prog_20_method_47_code
def yJ2_indexOfChar_4cfef : MethodName := ⟨RJ2, "indexOfChar", "([BIII)I"⟩
abbrev cJ2_indexOfCharUnsafe_4cfef : ByteArray := prog_20_method_48_code
def yJ2_indexOfCharUnsafe_4cfef : MethodName := ⟨RJ2, "indexOfCharUnsafe", "([BIII)I"⟩
abbrev cJ2_indexOfSupplementary_4cfef : ByteArray := prog_20_method_49_code
def yJ2_indexOfSupplementary_4cfef : MethodName := ⟨RJ2, "indexOfSupplementary", "([BIII)I"⟩
abbrev cJ2_checkBoundsBeginEnd_d044e : ByteArray := prog_20_method_93_code
def yJ2_checkBoundsBeginEnd_d044e : MethodName := ⟨RJ2, "checkBoundsBeginEnd", "(II[B)V"⟩
def RJ10 : String := "java/lang/System"
def RJxfd54e : String := "java/lang/constant/Constable"
def RJx3cf43 : String := "java/lang/constant/ConstantDesc"
def RJ7 : String := "java/util/Arrays"
abbrev cJ7_fill_53178 : ByteArray := prog_22_method_103_code
def yJ7_fill_53178 : MethodName := ⟨RJ7, "fill", "([II)V"⟩
abbrev cJ7_copyOf_59c91 : ByteArray := prog_22_method_123_code
def yJ7_copyOf_59c91 : MethodName := ⟨RJ7, "copyOf", "([II)[I"⟩
def RJ3 : String := "jdk/internal/util/Preconditions"
abbrev cJ3_checkFromToIndex_8c36e : ByteArray := prog_23_method_12_code
def yJ3_checkFromToIndex_8c36e : MethodName := ⟨RJ3, "checkFromToIndex", "(IIILjava/util/function/BiFunction;)I"⟩
def RL : String := "ScruffPaperLaw"
abbrev cL_law : ByteArray := code
def yL_law : MethodName := ⟨RL, "law", "([I)Z"⟩
def wsL_law_r1 : List Cond := [Cond.classLink RL 7 RX11, Cond.instantiable RX11 9, Cond.initialized RX11, Cond.classLink RL 10 RX12, Cond.instantiable RX12 67, Cond.initialized RX12, Cond.methodLink RL 9 yX11_init, Cond.instanceMethod yX11_init, Cond.code yX11_init cX11_init 1 none, Cond.methodLink RX11 1 objectInit, Cond.instanceMethod objectInit, Cond.code objectInit ⟨#[0xb1]⟩ 1 none, Cond.classLink RX11 7 RX9, Cond.instantiable RX9 2, Cond.initialized RX9, Cond.fieldLink RX11 10 "ScruffPaper" "tape" "LScruffPaper$Tape;", Cond.classLink RX11 16 RX6, Cond.instantiable RX6 8, Cond.initialized RX6, Cond.fieldLink RX11 19 "ScruffPaper" "scribe" "LScruffPaper$Scribe;", Cond.classLink RX11 23 RX7, Cond.instantiable RX7 4, Cond.initialized RX7, Cond.fieldLink RX11 26 "ScruffPaper" "sky" "LScruffPaper$Sky;"]
def wsL_law_r2 : List Cond := [Cond.classLink RX11 30 RX4, Cond.instantiable RX4 7, Cond.initialized RX4, Cond.fieldLink RX11 33 "ScruffPaper" "page" "LScruffPaper$Page;", Cond.classLink RX11 37 RX10, Cond.fieldLink RX11 39 "ScruffPaper" "ways" "[LScruffPaper$Text;", Cond.classLink RX11 43 RX3, Cond.instantiable RX3 5, Cond.initialized RX3, Cond.fieldLink RX11 46 "ScruffPaper" "notes" "LScruffPaper$Notes;", Cond.classLink RX11 50 RX0, Cond.instantiable RX0 6, Cond.initialized RX0, Cond.fieldLink RX11 53 "ScruffPaper" "blips" "LScruffPaper$Blips;", Cond.classLink RX11 57 RX2, Cond.instantiable RX2 6, Cond.initialized RX2, Cond.fieldLink RX11 60 "ScruffPaper" "nights" "LScruffPaper$Nights;", Cond.classLink RX11 64 RX1, Cond.instantiable RX1 4, Cond.initialized RX1, Cond.fieldLink RX11 67 "ScruffPaper" "lots" "LScruffPaper$Lots;", Cond.methodLink RX11 9 yX9_init, Cond.instanceMethod yX9_init]
def wsL_law_r3 : List Cond := [Cond.code yX9_init cX9_init 1 none, Cond.methodLink RX9 3 objectInit, Cond.arrayClass .int, Cond.fieldLink RX9 9 "ScruffPaper$Tape" "bytes" "[I", Cond.fieldLink RX9 15 "ScruffPaper$Tape" "length" "I", Cond.methodLink RX11 18 yX6_init, Cond.instanceMethod yX6_init, Cond.code yX6_init cX6_init 1 none, Cond.methodLink RX6 3 objectInit, Cond.fieldLink RX6 9 "ScruffPaper$Scribe" "code" "[I", Cond.fieldLink RX6 15 "ScruffPaper$Scribe" "starts" "[I", Cond.fieldLink RX6 18 "ScruffPaper$Scribe" "middles" "[I", Cond.fieldLink RX6 21 "ScruffPaper$Scribe" "bytes" "[I", Cond.fieldLink RX6 24 "ScruffPaper$Scribe" "length" "I", Cond.fieldLink RX6 28 "ScruffPaper$Scribe" "at" "I", Cond.fieldLink RX6 31 "ScruffPaper$Scribe" "used" "I", Cond.fieldLink RX6 34 "ScruffPaper$Scribe" "fault" "I", Cond.methodLink RX11 25 yX7_init, Cond.instanceMethod yX7_init, Cond.code yX7_init cX7_init 1 none, Cond.methodLink RX7 3 objectInit, Cond.classLink RX7 9 RX8, Cond.fieldLink RX7 11 "ScruffPaper$Sky" "sources" "[LScruffPaper$Source;", Cond.classLink RX7 17 RX5]
def wsL_law_r4 : List Cond := [Cond.instantiable RX5 2, Cond.initialized RX5, Cond.fieldLink RX7 20 "ScruffPaper$Sky" "reckoner" "LScruffPaper$Reckoner;", Cond.fieldLink RX7 24 "ScruffPaper$Sky" "many" "I", Cond.fieldLink RX7 28 "ScruffPaper$Sky" "seed" "I", Cond.methodLink RX7 19 yX5_init, Cond.instanceMethod yX5_init, Cond.code yX5_init cX5_init 1 none, Cond.methodLink RX5 3 objectInit, Cond.fieldLink RX5 9 "ScruffPaper$Reckoner" "letters" "[I", Cond.fieldLink RX5 15 "ScruffPaper$Reckoner" "values" "[I", Cond.methodLink RX11 32 yX4_init, Cond.instanceMethod yX4_init, Cond.code yX4_init cX4_init 1 none, Cond.methodLink RX4 3 objectInit, Cond.fieldLink RX4 9 "ScruffPaper$Page" "heights" "[I", Cond.fieldLink RX4 15 "ScruffPaper$Page" "shapes" "[I", Cond.fieldLink RX4 18 "ScruffPaper$Page" "highest" "[I", Cond.fieldLink RX4 21 "ScruffPaper$Page" "marked" "[I", Cond.classLink RX4 24 RX5, Cond.fieldLink RX4 27 "ScruffPaper$Page" "reckoner" "LScruffPaper$Reckoner;", Cond.fieldLink RX4 31 "ScruffPaper$Page" "readers" "I", Cond.fieldLink RX4 35 "ScruffPaper$Page" "day" "I", Cond.methodLink RX4 26 yX5_init]
def wsL_law_r5 : List Cond := [Cond.methodLink RX11 45 yX3_init, Cond.instanceMethod yX3_init, Cond.code yX3_init cX3_init 1 none, Cond.methodLink RX3 3 objectInit, Cond.fieldLink RX3 9 "ScruffPaper$Notes" "days" "[I", Cond.fieldLink RX3 15 "ScruffPaper$Notes" "minutes" "[I", Cond.fieldLink RX3 18 "ScruffPaper$Notes" "shapes" "[I", Cond.fieldLink RX3 21 "ScruffPaper$Notes" "gathered" "[I", Cond.fieldLink RX3 24 "ScruffPaper$Notes" "many" "I", Cond.methodLink RX11 52 yX0_init, Cond.instanceMethod yX0_init, Cond.code yX0_init cX0_init 1 none, Cond.methodLink RX0 3 objectInit, Cond.fieldLink RX0 9 "ScruffPaper$Blips" "times" "[I", Cond.fieldLink RX0 15 "ScruffPaper$Blips" "rests" "[I", Cond.fieldLink RX0 18 "ScruffPaper$Blips" "many" "I", Cond.fieldLink RX0 22 "ScruffPaper$Blips" "fitting" "I", Cond.fieldLink RX0 25 "ScruffPaper$Blips" "least" "I", Cond.fieldLink RX0 28 "ScruffPaper$Blips" "greatest" "I", Cond.methodLink RX11 59 yX2_init, Cond.instanceMethod yX2_init, Cond.code yX2_init cX2_init 1 none, Cond.methodLink RX2 3 objectInit, Cond.fieldLink RX2 9 "ScruffPaper$Nights" "days" "[I"]
def wsL_law_r6 : List Cond := [Cond.fieldLink RX2 15 "ScruffPaper$Nights" "shifts" "[I", Cond.fieldLink RX2 18 "ScruffPaper$Nights" "fallen" "[I", Cond.classLink RX2 21 RX5, Cond.fieldLink RX2 24 "ScruffPaper$Nights" "reckoner" "LScruffPaper$Reckoner;", Cond.classLink RX2 28 RX10, Cond.fieldLink RX2 30 "ScruffPaper$Nights" "stories" "[LScruffPaper$Text;", Cond.fieldLink RX2 34 "ScruffPaper$Nights" "many" "I", Cond.methodLink RX2 23 yX5_init, Cond.methodLink RX11 66 yX1_init, Cond.instanceMethod yX1_init, Cond.code yX1_init cX1_init 1 none, Cond.methodLink RX1 3 objectInit, Cond.fieldLink RX1 9 "ScruffPaper$Lots" "tens" "[I", Cond.fieldLink RX1 15 "ScruffPaper$Lots" "chosen" "[I", Cond.fieldLink RX1 18 "ScruffPaper$Lots" "best" "[I", Cond.fieldLink RX1 21 "ScruffPaper$Lots" "unseen" "I", Cond.methodLink RL 12 yX12_init, Cond.instanceMethod yX12_init, Cond.code yX12_init cX12_init 1 none, Cond.methodLink RX12 1 objectInit, Cond.arrayClass .byte, Cond.fieldLink RX12 7 "ScruffPaperModel" "tape" "[B", Cond.fieldLink RX12 13 "ScruffPaperModel" "many" "[I", Cond.fieldLink RX12 17 "ScruffPaperModel" "sumFrom" "[I"]
def wsL_law_r7 : List Cond := [Cond.fieldLink RX12 20 "ScruffPaperModel" "codeFrom" "[I", Cond.fieldLink RX12 23 "ScruffPaperModel" "codeTo" "[I", Cond.fieldLink RX12 26 "ScruffPaperModel" "code" "[I", Cond.fieldLink RX12 29 "ScruffPaperModel" "codeArg" "[I", Cond.fieldLink RX12 32 "ScruffPaperModel" "newSum" "[I", Cond.fieldLink RX12 35 "ScruffPaperModel" "newFrom" "[I", Cond.fieldLink RX12 38 "ScruffPaperModel" "newTo" "[I", Cond.fieldLink RX12 41 "ScruffPaperModel" "newCode" "[I", Cond.fieldLink RX12 44 "ScruffPaperModel" "newArg" "[I", Cond.fieldLink RX12 47 "ScruffPaperModel" "stack" "[I", Cond.fieldLink RX12 50 "ScruffPaperModel" "worth" "[I", Cond.arrayClass .boolean, Cond.fieldLink RX12 53 "ScruffPaperModel" "isRefused" "[Z", Cond.fieldLink RX12 57 "ScruffPaperModel" "byStar" "[Z", Cond.fieldLink RX12 60 "ScruffPaperModel" "minuteOf" "[I", Cond.fieldLink RX12 63 "ScruffPaperModel" "wide" "[I", Cond.fieldLink RX12 66 "ScruffPaperModel" "shape" "[I", Cond.fieldLink RX12 69 "ScruffPaperModel" "weekdays" "[I", Cond.fieldLink RX12 72 "ScruffPaperModel" "highAt" "[I", Cond.fieldLink RX12 75 "ScruffPaperModel" "shapeAt" "[I", Cond.fieldLink RX12 78 "ScruffPaperModel" "first" "[I", Cond.fieldLink RX12 81 "ScruffPaperModel" "last" "[I", Cond.fieldLink RX12 84 "ScruffPaperModel" "greatest" "[I", Cond.fieldLink RX12 87 "ScruffPaperModel" "marked" "[I"]
def wsL_law_r8 : List Cond := [Cond.fieldLink RX12 90 "ScruffPaperModel" "noteDay" "[I", Cond.fieldLink RX12 93 "ScruffPaperModel" "noteMinute" "[I", Cond.fieldLink RX12 96 "ScruffPaperModel" "noteShape" "[I", Cond.fieldLink RX12 99 "ScruffPaperModel" "time" "[I", Cond.fieldLink RX12 102 "ScruffPaperModel" "nightDay" "[I", Cond.fieldLink RX12 105 "ScruffPaperModel" "found" "[I", Cond.fieldLink RX12 108 "ScruffPaperModel" "ten" "[I", Cond.fieldLink RX12 111 "ScruffPaperModel" "leastFrom" "[I", Cond.methodLink RL 13 yX11_source, Cond.instanceMethod yX11_source, Cond.selects RX11 yX11_source yX11_source, Cond.code yX11_source cX11_source 7 (some .int), Cond.fieldLink RX11 82 "ScruffPaper$Sky" "many" "I", Cond.classLink RX11 89 RX8, Cond.instantiable RX8 7, Cond.initialized RX8, Cond.methodLink RX11 71 yX11_isMinute, Cond.static yX11_isMinute, Cond.code yX11_isMinute cX11_isMinute 1 (some .boolean), Cond.methodLink RX11 75 yX11_isWithin, Cond.static yX11_isWithin, Cond.code yX11_isWithin cX11_isWithin 3 (some .boolean), Cond.methodLink RX11 79 yX11_isShape, Cond.static yX11_isShape]
def wsL_law_r9 : List Cond := [Cond.code yX11_isShape cX11_isShape 1 (some .boolean), Cond.methodLink RX11 86 yX4_forget, Cond.instanceMethod yX4_forget, Cond.selects RX4 yX4_forget yX4_forget, Cond.code yX4_forget cX4_forget 1 none, Cond.methodLink RX11 91 yX8_init, Cond.instanceMethod yX8_init, Cond.code yX8_init cX8_init 7 none, Cond.methodLink RX8 3 objectInit, Cond.fieldLink RX8 9 "ScruffPaper$Source" "law" "LScruffPaper$Text;", Cond.fieldLink RX8 15 "ScruffPaper$Source" "number" "I", Cond.fieldLink RX8 19 "ScruffPaper$Source" "star" "Z", Cond.fieldLink RX8 23 "ScruffPaper$Source" "minute" "I", Cond.fieldLink RX8 26 "ScruffPaper$Source" "wide" "I", Cond.fieldLink RX8 29 "ScruffPaper$Source" "shape" "I", Cond.fieldLink RX8 32 "ScruffPaper$Source" "weekdays" "I", Cond.methodLink RX11 94 yX7_add, Cond.instanceMethod yX7_add, Cond.selects RX7 yX7_add yX7_add, Cond.code yX7_add cX7_add 2 (some .int), Cond.methodLink RL 17 yX12_source, Cond.instanceMethod yX12_source, Cond.selects RX12 yX12_source yX12_source, Cond.code yX12_source cX12_source 6 (some .int)]
def wsL_law_r10 : List Cond := [Cond.fieldLink RX12 238 "ScruffPaperModel" "sources" "I", Cond.constantLong RX12 322 (30), Cond.constantLong RX12 241 (3), Cond.constantLong RX12 324 (127), Cond.methodLink RX12 319 yX12_isMinute, Cond.static yX12_isMinute, Cond.code yX12_isMinute cX12_isMinute 1 (some .boolean), Cond.constantLong RX12 317 (1439), Cond.methodLink RX12 159 yX12_lies, Cond.static yX12_lies, Cond.code yX12_lies cX12_lies 6 (some .boolean), Cond.methodLink RL 18 yX11_seed, Cond.instanceMethod yX11_seed, Cond.selects RX11 yX11_seed yX11_seed, Cond.code yX11_seed cX11_seed 2 (some .boolean), Cond.fieldLink RX11 98 "ScruffPaper$Sky" "seed" "I", Cond.methodLink RL 22 yX12_seed, Cond.instanceMethod yX12_seed, Cond.selects RX12 yX12_seed yX12_seed, Cond.code yX12_seed cX12_seed 2 (some .boolean), Cond.constantLong RX12 326 (999), Cond.fieldLink RX12 328 "ScruffPaperModel" "seed" "I", Cond.methodLink RL 23 yX11_feed, Cond.instanceMethod yX11_feed]
def wsL_law_r11 : List Cond := [Cond.selects RX11 yX11_feed yX11_feed, Cond.code yX11_feed cX11_feed 6 (some .int), Cond.fieldLink RX11 101 "ScruffPaper$Tape" "length" "I", Cond.methodLink RX11 104 yX9_put, Cond.instanceMethod yX9_put, Cond.selects RX9 yX9_put yX9_put, Cond.code yX9_put cX9_put 3 none, Cond.methodLink RL 27 yX12_feed, Cond.instanceMethod yX12_feed, Cond.selects RX12 yX12_feed yX12_feed, Cond.code yX12_feed cX12_feed 6 (some .int), Cond.fieldLink RX12 114 "ScruffPaperModel" "taped" "I", Cond.methodLink RX12 118 yX12_push, Cond.instanceMethod yX12_push, Cond.selects RX12 yX12_push yX12_push, Cond.code yX12_push cX12_push 3 none, Cond.methodLink RL 28 yX11_law, Cond.instanceMethod yX11_law, Cond.selects RX11 yX11_law yX11_law, Cond.code yX11_law cX11_law 5 (some .int), Cond.fieldLink RX11 116 "ScruffPaper$Tape" "bytes" "[I", Cond.fieldLink RX11 131 "ScruffPaper$Source" "law" "LScruffPaper$Text;", Cond.fieldLink RX11 135 "ScruffPaper$Text" "clauses" "I", Cond.methodLink RX11 108 yX7_sourceAt]
def wsL_law_r12 : List Cond := [Cond.instanceMethod yX7_sourceAt, Cond.selects RX7 yX7_sourceAt yX7_sourceAt, Cond.code yX7_sourceAt cX7_sourceAt 2 (some (.object "ScruffPaper$Source")), Cond.methodLink RX11 112 yX11_tapeHas, Cond.instanceMethod yX11_tapeHas, Cond.selects RX11 yX11_tapeHas yX11_tapeHas, Cond.code yX11_tapeHas cX11_tapeHas 3 (some .boolean), Cond.methodLink RX11 120 yX6_writeClauses, Cond.instanceMethod yX6_writeClauses, Cond.selects RX6 yX6_writeClauses yX6_writeClauses, Cond.code yX6_writeClauses cX6_writeClauses 5 (some (.object "ScruffPaper$Text")), Cond.methodLink RX6 37 yX6_begin, Cond.instanceMethod yX6_begin, Cond.selects RX6 yX6_begin yX6_begin, Cond.code yX6_begin cX6_begin 3 none, Cond.methodLink RX6 65 Lib.Math.min.name, Cond.static Lib.Math.min.name, Cond.initialized "java/lang/Math", Cond.code Lib.Math.min.name Lib.Math.min.code 2 (some .int), Cond.methodLink RX6 41 yX6_clauseStands, Cond.instanceMethod yX6_clauseStands, Cond.selects RX6 yX6_clauseStands yX6_clauseStands, Cond.code yX6_clauseStands cX6_clauseStands 3 (some .boolean), Cond.methodLink RX6 49 yX6_signStands]
def wsL_law_r13 : List Cond := [Cond.instanceMethod yX6_signStands, Cond.selects RX6 yX6_signStands yX6_signStands, Cond.code yX6_signStands cX6_signStands 2 (some .boolean), Cond.methodLink RX6 53 yX6_next, Cond.instanceMethod yX6_next, Cond.selects RX6 yX6_next yX6_next, Cond.code yX6_next cX6_next 1 (some .int), Cond.methodLink RX6 57 yX6_fail, Cond.instanceMethod yX6_fail, Cond.selects RX6 yX6_fail yX6_fail, Cond.code yX6_fail cX6_fail 2 (some .boolean), Cond.methodLink RX6 61 yX6_rowStands, Cond.instanceMethod yX6_rowStands, Cond.selects RX6 yX6_rowStands yX6_rowStands, Cond.code yX6_rowStands cX6_rowStands 7 (some .boolean), Cond.methodLink RX6 82 yX6_operandStands, Cond.instanceMethod yX6_operandStands, Cond.selects RX6 yX6_operandStands yX6_operandStands, Cond.methodLink RX6 85 yX6_joins, Cond.static yX6_joins, Cond.code yX6_joins cX6_joins 2 (some .boolean), Cond.methodLink RX6 88 yX6_put, Cond.instanceMethod yX6_put, Cond.selects RX6 yX6_put yX6_put]
def wsL_law_r14 : List Cond := [Cond.code yX6_put cX6_put 3 none, Cond.methodLink RX6 92 yX6_leapHere, Cond.instanceMethod yX6_leapHere, Cond.selects RX6 yX6_leapHere yX6_leapHere, Cond.code yX6_leapHere cX6_leapHere 2 none, Cond.code yX6_factorStands cX6_factorStands 3 (some .boolean), Cond.methodLink RX6 102 yX6_isDigit, Cond.static yX6_isDigit, Cond.code yX6_isDigit cX6_isDigit 1 (some .boolean), Cond.methodLink RX6 105 yX6_numberStands, Cond.instanceMethod yX6_numberStands, Cond.selects RX6 yX6_numberStands yX6_numberStands, Cond.code yX6_numberStands cX6_numberStands 3 (some .boolean), Cond.methodLink RX6 111 yJ0_indexOf_0f7a4, Cond.instanceMethod yJ0_indexOf_0f7a4, Cond.selects RJ0 yJ0_indexOf_0f7a4 yJ0_indexOf_0f7a4, Cond.initialized RJ0, Cond.code yJ0_indexOf_0f7a4 cJ0_indexOf_0f7a4 2 (some .int), Cond.methodLink RJ0 633 yJ0_indexOf_7cf53, Cond.instanceMethod yJ0_indexOf_7cf53, Cond.selects RJ0 yJ0_indexOf_7cf53 yJ0_indexOf_7cf53, Cond.code yJ0_indexOf_7cf53 cJ0_indexOf_7cf53 3 (some .int), Cond.fieldLink RJ0 9 "java/lang/String" "value" "[B", Cond.methodLink RJ0 492 yJ0_isLatin1_aae02]
def wsL_law_r15 : List Cond := [Cond.instanceMethod yJ0_isLatin1_aae02, Cond.selects RJ0 yJ0_isLatin1_aae02 yJ0_isLatin1_aae02, Cond.code yJ0_isLatin1_aae02 cJ0_isLatin1_aae02 1 (some .boolean), Cond.fieldLink RJ0 38 "java/lang/String" "COMPACT_STRINGS" "Z", Cond.fieldLink RJ0 15 "java/lang/String" "coder" "B", Cond.methodLink RJ0 505 yJ0_length_8abf5, Cond.instanceMethod yJ0_length_8abf5, Cond.selects RJ0 yJ0_length_8abf5 yJ0_length_8abf5, Cond.code yJ0_length_8abf5 cJ0_length_8abf5 1 (some .int), Cond.methodLink RJ0 335 yJ0_coder_7d493, Cond.instanceMethod yJ0_coder_7d493, Cond.selects RJ0 yJ0_coder_7d493 yJ0_coder_7d493, Cond.code yJ0_coder_7d493 cJ0_coder_7d493 1 (some .byte), Cond.methodLink RJ0 637 yJ1_indexOf_4cfef, Cond.static yJ1_indexOf_4cfef, Cond.initialized RJ1, Cond.code yJ1_indexOf_4cfef cJ1_indexOf_4cfef 4 (some .int), Cond.methodLink RJ1 92 Lib.Math.max.name, Cond.static Lib.Math.max.name, Cond.code Lib.Math.max.name Lib.Math.max.code 2 (some .int), Cond.methodLink RJ1 38 Lib.Math.min.name, Cond.methodLink RJ1 88 yJ1_canEncode_9a6ad, Cond.static yJ1_canEncode_9a6ad, Cond.code yJ1_canEncode_9a6ad cJ1_canEncode_9a6ad 1 (some .boolean)]
def wsL_law_r16 : List Cond := [Cond.methodLink RJ1 95 yJ1_indexOfChar_4cfef, Cond.static yJ1_indexOfChar_4cfef, Cond.code yJ1_indexOfChar_4cfef cJ1_indexOfChar_4cfef 6 (some .int), Cond.methodLink RJ0 640 yJ2_indexOf_4cfef, Cond.static yJ2_indexOf_4cfef, Cond.initialized RJ2, Cond.code yJ2_indexOf_4cfef cJ2_indexOf_4cfef 4 (some .int), Cond.methodLink RJ2 224 Lib.Math.max.name, Cond.methodLink RJ2 183 Lib.Math.min.name, Cond.constant RJ2 227 (65536), Cond.methodLink RJ2 228 yJ2_indexOfChar_4cfef, Cond.static yJ2_indexOfChar_4cfef, Cond.code yJ2_indexOfChar_4cfef cJ2_indexOfChar_4cfef 4 (some .int), Cond.methodLink RJ2 96 yJ2_checkBoundsBeginEnd_d044e, Cond.static yJ2_checkBoundsBeginEnd_d044e, Cond.code yJ2_checkBoundsBeginEnd_d044e cJ2_checkBoundsBeginEnd_d044e 3 none, Cond.methodLink RJ2 48 yJ2_length_9d52b, Cond.static yJ2_length_9d52b, Cond.code yJ2_length_9d52b cJ2_length_9d52b 1 (some .int), Cond.methodLink RJ2 241 yJ0_checkBoundsBeginEnd_23922, Cond.static yJ0_checkBoundsBeginEnd_23922, Cond.code yJ0_checkBoundsBeginEnd_23922 cJ0_checkBoundsBeginEnd_23922 3 none, Cond.fieldLink RJ0 1053 "jdk/internal/util/Preconditions" "SIOOBE_FORMATTER" "Ljava/util/function/BiFunction;", Cond.methodLink RJ0 1062 yJ3_checkFromToIndex_8c36e]
def wsL_law_r17 : List Cond := [Cond.static yJ3_checkFromToIndex_8c36e, Cond.initialized RJ3, Cond.code yJ3_checkFromToIndex_8c36e cJ3_checkFromToIndex_8c36e 4 (some .int), Cond.methodLink RJ2 244 yJ2_indexOfCharUnsafe_4cfef, Cond.static yJ2_indexOfCharUnsafe_4cfef, Cond.code yJ2_indexOfCharUnsafe_4cfef cJ2_indexOfCharUnsafe_4cfef 5 (some .int), Cond.methodLink RJ2 71 yJ2_getChar_3b067, Cond.static yJ2_getChar_3b067, Cond.code yJ2_getChar_3b067 cJ2_getChar_3b067 2 (some .char), Cond.fieldLink RJ2 44 "java/lang/StringUTF16" "$assertionsDisabled" "Z", Cond.fieldLink RJ2 59 "java/lang/StringUTF16" "HI_BYTE_SHIFT" "I", Cond.fieldLink RJ2 63 "java/lang/StringUTF16" "LO_BYTE_SHIFT" "I", Cond.methodLink RJ2 232 yJ2_indexOfSupplementary_4cfef, Cond.static yJ2_indexOfSupplementary_4cfef, Cond.code yJ2_indexOfSupplementary_4cfef cJ2_indexOfSupplementary_4cfef 7 (some .int), Cond.methodLink RJ2 164 yJ11_isValidCodePoint_9a6ad, Cond.static yJ11_isValidCodePoint_9a6ad, Cond.initialized RJ11, Cond.code yJ11_isValidCodePoint_9a6ad cJ11_isValidCodePoint_9a6ad 2 (some .boolean), Cond.methodLink RJ2 157 yJ11_highSurrogate_5068e, Cond.static yJ11_highSurrogate_5068e, Cond.code yJ11_highSurrogate_5068e cJ11_highSurrogate_5068e 1 (some .char), Cond.constant RJ11 110 (55232), Cond.methodLink RJ2 161 yJ11_lowSurrogate_5068e]
def wsL_law_r18 : List Cond := [Cond.static yJ11_lowSurrogate_5068e, Cond.code yJ11_lowSurrogate_5068e cJ11_lowSurrogate_5068e 1 (some .char), Cond.constant RJ11 76 (56320), Cond.code yX6_operandStands cX6_operandStands 3 (some .boolean), Cond.methodLink RX6 96 yX6_pieceStands, Cond.instanceMethod yX6_pieceStands, Cond.selects RX6 yX6_pieceStands yX6_pieceStands, Cond.methodLink RX6 99 yX6_factorStands, Cond.instanceMethod yX6_factorStands, Cond.selects RX6 yX6_factorStands yX6_factorStands, Cond.code yX6_pieceStands cX6_pieceStands 4 (some .boolean), Cond.methodLink RX6 45 yX6_written, Cond.instanceMethod yX6_written, Cond.selects RX6 yX6_written yX6_written, Cond.code yX6_written cX6_written 2 (some (.object "ScruffPaper$Text")), Cond.classLink RX6 71 RX10, Cond.instantiable RX10 4, Cond.initialized RX10, Cond.methodLink RX6 73 yJ7_copyOf_59c91, Cond.static yJ7_copyOf_59c91, Cond.initialized RJ7, Cond.code yJ7_copyOf_59c91 cJ7_copyOf_59c91 3 (some (.array .int)), Cond.methodLink RJ7 316 ⟨"[I", "clone", "()Ljava/lang/Object;"⟩, Cond.sameMethod "[I" "java/lang/Object" "clone" "()Ljava/lang/Object;"]
def wsL_law_r19 : List Cond := [Cond.native ⟨"java/lang/Object", "clone", "()Ljava/lang/Object;"⟩, Cond.instanceMethod ⟨"java/lang/Object", "clone", "()Ljava/lang/Object;"⟩, Cond.selects "[I" ⟨"[I", "clone", "()Ljava/lang/Object;"⟩ ⟨"java/lang/Object", "clone", "()Ljava/lang/Object;"⟩, Cond.classLink RJ7 317 "[I", Cond.methodLink RJ7 304 Lib.Math.min.name, Cond.methodLink RJ7 150 arraycopyName, Cond.native arraycopyName, Cond.static arraycopyName, Cond.initialized "java/lang/System", Cond.methodLink RX6 79 yX10_init, Cond.instanceMethod yX10_init, Cond.code yX10_init cX10_init 5 none, Cond.methodLink RX10 1 objectInit, Cond.fieldLink RX10 7 "ScruffPaper$Text" "clauses" "I", Cond.fieldLink RX10 13 "ScruffPaper$Text" "code" "[I", Cond.fieldLink RX10 17 "ScruffPaper$Text" "starts" "[I", Cond.fieldLink RX10 20 "ScruffPaper$Text" "middles" "[I", Cond.methodLink RX11 124 yX9_clear, Cond.instanceMethod yX9_clear, Cond.selects RX9 yX9_clear yX9_clear, Cond.code yX9_clear cX9_clear 1 none, Cond.methodLink RX11 127 yX6_faultCode, Cond.instanceMethod yX6_faultCode, Cond.selects RX6 yX6_faultCode yX6_faultCode]
def wsL_law_r20 : List Cond := [Cond.code yX6_faultCode cX6_faultCode 1 (some .int), Cond.methodLink RL 32 yX12_law, Cond.instanceMethod yX12_law, Cond.selects RX12 yX12_law yX12_law, Cond.code yX12_law cX12_law 3 (some .int), Cond.methodLink RX12 243 yX12_isSource, Cond.instanceMethod yX12_isSource, Cond.selects RX12 yX12_isSource yX12_isSource, Cond.code yX12_isSource cX12_isSource 2 (some .boolean), Cond.methodLink RX12 246 yX12_canRead, Cond.instanceMethod yX12_canRead, Cond.selects RX12 yX12_canRead yX12_canRead, Cond.code yX12_canRead cX12_canRead 3 (some .boolean), Cond.methodLink RX12 250 yX12_readsText, Cond.instanceMethod yX12_readsText, Cond.selects RX12 yX12_readsText yX12_readsText, Cond.code yX12_readsText cX12_readsText 5 (some .int), Cond.fieldLink RX12 122 "ScruffPaperModel" "place" "I", Cond.fieldLink RX12 125 "ScruffPaperModel" "end" "I", Cond.fieldLink RX12 128 "ScruffPaperModel" "bad" "I", Cond.fieldLink RX12 223 "ScruffPaperModel" "clauses" "I", Cond.methodLink RX12 229 yX12_begins, Cond.instanceMethod yX12_begins, Cond.selects RX12 yX12_begins yX12_begins]
def wsL_law_r21 : List Cond := [Cond.code yX12_begins cX12_begins 2 none, Cond.fieldLink RX12 135 "ScruffPaperModel" "codes" "I", Cond.fieldLink RX12 138 "ScruffPaperModel" "stacked" "I", Cond.fieldLink RX12 141 "ScruffPaperModel" "open" "I", Cond.methodLink RX12 131 yX12_isGood, Cond.instanceMethod yX12_isGood, Cond.selects RX12 yX12_isGood yX12_isGood, Cond.code yX12_isGood cX12_isGood 1 (some .boolean), Cond.methodLink RX12 232 yX12_clause, Cond.instanceMethod yX12_clause, Cond.selects RX12 yX12_clause yX12_clause, Cond.code yX12_clause cX12_clause 2 none, Cond.methodLink RX12 148 yX12_here, Cond.instanceMethod yX12_here, Cond.selects RX12 yX12_here yX12_here, Cond.code yX12_here cX12_here 1 (some .int), Cond.methodLink RX12 144 yX12_wrongs, Cond.instanceMethod yX12_wrongs, Cond.selects RX12 yX12_wrongs yX12_wrongs, Cond.code yX12_wrongs cX12_wrongs 3 none, Cond.methodLink RX12 202 yX12_value, Cond.instanceMethod yX12_value, Cond.selects RX12 yX12_value yX12_value, Cond.code yX12_value cX12_value 2 none]
def wsL_law_r22 : List Cond := [Cond.fieldLink RX12 192 "ScruffPaperModel" "isBehind" "Z", Cond.methodLink RX12 196 yX12_factor, Cond.instanceMethod yX12_factor, Cond.selects RX12 yX12_factor yX12_factor, Cond.code yX12_factor cX12_factor 1 none, Cond.methodLink RX12 179 yX12_opens, Cond.instanceMethod yX12_opens, Cond.selects RX12 yX12_opens yX12_opens, Cond.code yX12_opens cX12_opens 1 none, Cond.methodLink RX12 152 yX12_puts, Cond.instanceMethod yX12_puts, Cond.selects RX12 yX12_puts yX12_puts, Cond.code yX12_puts cX12_puts 2 none, Cond.methodLink RX12 163 yX12_seesDigit, Cond.instanceMethod yX12_seesDigit, Cond.selects RX12 yX12_seesDigit yX12_seesDigit, Cond.code yX12_seesDigit cX12_seesDigit 1 (some .boolean), Cond.constantLong RX12 155 (48), Cond.constantLong RX12 157 (57), Cond.methodLink RX12 182 yX12_reads, Cond.instanceMethod yX12_reads, Cond.selects RX12 yX12_reads yX12_reads, Cond.code yX12_reads cX12_reads 3 (some .int), Cond.methodLink RX12 176 yX12_emit]
def wsL_law_r23 : List Cond := [Cond.instanceMethod yX12_emit, Cond.selects RX12 yX12_emit yX12_emit, Cond.code yX12_emit cX12_emit 3 none, Cond.methodLink RX12 185 yX12_isValue, Cond.static yX12_isValue, Cond.code yX12_isValue cX12_isValue 1 (some .boolean), Cond.methodLink RX12 199 yX12_stays, Cond.instanceMethod yX12_stays, Cond.selects RX12 yX12_stays yX12_stays, Cond.code yX12_stays cX12_stays 2 (some .boolean), Cond.methodLink RX12 169 yX12_isTimes, Cond.static yX12_isTimes, Cond.code yX12_isTimes cX12_isTimes 1 (some .boolean), Cond.methodLink RX12 173 yX12_isPlus, Cond.static yX12_isPlus, Cond.code yX12_isPlus cX12_isPlus 1 (some .boolean), Cond.methodLink RX12 188 yX12_sums, Cond.instanceMethod yX12_sums, Cond.selects RX12 yX12_sums yX12_sums, Cond.code yX12_sums cX12_sums 2 none, Cond.methodLink RX12 166 yX12_top, Cond.instanceMethod yX12_top, Cond.selects RX12 yX12_top yX12_top, Cond.code yX12_top cX12_top 1 (some .int)]
def wsL_law_r24 : List Cond := [Cond.methodLink RX12 226 yX12_condition, Cond.instanceMethod yX12_condition, Cond.selects RX12 yX12_condition yX12_condition, Cond.code yX12_condition cX12_condition 2 none, Cond.fieldLink RX12 214 "ScruffPaperModel" "isOver" "Z", Cond.methodLink RX12 217 yX12_pieceOfC, Cond.instanceMethod yX12_pieceOfC, Cond.selects RX12 yX12_pieceOfC yX12_pieceOfC, Cond.code yX12_pieceOfC cX12_pieceOfC 2 none, Cond.methodLink RX12 205 yX12_isSign, Cond.static yX12_isSign, Cond.code yX12_isSign cX12_isSign 1 (some .boolean), Cond.methodLink RX12 208 yX12_ends, Cond.instanceMethod yX12_ends, Cond.selects RX12 yX12_ends yX12_ends, Cond.code yX12_ends cX12_ends 1 none, Cond.methodLink RX12 220 yX12_goesBehind, Cond.instanceMethod yX12_goesBehind, Cond.selects RX12 yX12_goesBehind yX12_goesBehind, Cond.code yX12_goesBehind cX12_goesBehind 2 (some .boolean), Cond.methodLink RX12 211 yX12_joins, Cond.instanceMethod yX12_joins, Cond.selects RX12 yX12_joins yX12_joins, Cond.code yX12_joins cX12_joins 2 none]
def wsL_law_r25 : List Cond := [Cond.methodLink RX12 235 yX12_keeps, Cond.instanceMethod yX12_keeps, Cond.selects RX12 yX12_keeps yX12_keeps, Cond.code yX12_keeps cX12_keeps 3 none, Cond.methodLink RL 33 yX11_way, Cond.instanceMethod yX11_way, Cond.selects RX11 yX11_way yX11_way, Cond.code yX11_way cX11_way 4 (some .int), Cond.methodLink RX11 138 yX11_isReader, Cond.static yX11_isReader, Cond.code yX11_isReader cX11_isReader 1 (some .boolean), Cond.methodLink RX11 141 yX4_forgetReader, Cond.instanceMethod yX4_forgetReader, Cond.selects RX4 yX4_forgetReader yX4_forgetReader, Cond.code yX4_forgetReader cX4_forgetReader 2 none, Cond.methodLink RL 36 yX12_way, Cond.instanceMethod yX12_way, Cond.selects RX12 yX12_way yX12_way, Cond.code yX12_way cX12_way 3 (some .int), Cond.methodLink RX12 254 yX12_isReader, Cond.static yX12_isReader, Cond.code yX12_isReader cX12_isReader 1 (some .boolean), Cond.methodLink RL 37 yX11_story, Cond.instanceMethod yX11_story]
def wsL_law_r26 : List Cond := [Cond.selects RX11 yX11_story yX11_story, Cond.code yX11_story cX11_story 4 (some .int), Cond.fieldLink RX11 151 "ScruffPaper$Nights" "stories" "[LScruffPaper$Text;", Cond.methodLink RX11 144 yX11_isStory, Cond.static yX11_isStory, Cond.code yX11_isStory cX11_isStory 1 (some .boolean), Cond.methodLink RX11 147 yX6_writeExpression, Cond.instanceMethod yX6_writeExpression, Cond.selects RX6 yX6_writeExpression yX6_writeExpression, Cond.code yX6_writeExpression cX6_writeExpression 3 (some (.object "ScruffPaper$Text")), Cond.methodLink RL 40 yX12_story, Cond.instanceMethod yX12_story, Cond.selects RX12 yX12_story yX12_story, Cond.code yX12_story cX12_story 3 (some .int), Cond.methodLink RX12 259 yX12_isTale, Cond.static yX12_isTale, Cond.code yX12_isTale cX12_isTale 1 (some .boolean), Cond.constantLong RX12 257 (5), Cond.methodLink RL 41 yX11_star, Cond.instanceMethod yX11_star, Cond.selects RX11 yX11_star yX11_star, Cond.code yX11_star cX11_star 3 (some .int), Cond.methodLink RX11 154 yX11_isDay, Cond.static yX11_isDay]
def wsL_law_r27 : List Cond := [Cond.code yX11_isDay cX11_isDay 1 (some .boolean), Cond.methodLink RX11 157 yX11_starMinute, Cond.static yX11_starMinute, Cond.code yX11_starMinute cX11_starMinute 2 (some .int), Cond.methodLink RL 44 yX12_star, Cond.instanceMethod yX12_star, Cond.selects RX12 yX12_star yX12_star, Cond.code yX12_star cX12_star 3 (some .int), Cond.methodLink RX12 331 yX12_isDay, Cond.static yX12_isDay, Cond.code yX12_isDay cX12_isDay 1 (some .boolean), Cond.constantLong RX12 315 (399), Cond.methodLink RX12 334 yX12_starAt, Cond.static yX12_starAt, Cond.code yX12_starAt cX12_starAt 2 (some .int), Cond.methodLink RL 45 yX11_height, Cond.instanceMethod yX11_height, Cond.selects RX11 yX11_height yX11_height, Cond.code yX11_height cX11_height 5 (some .int), Cond.methodLink RX11 161 yX7_heightOf, Cond.instanceMethod yX7_heightOf, Cond.selects RX7 yX7_heightOf yX7_heightOf, Cond.code yX7_heightOf cX7_heightOf 8 (some .int), Cond.fieldLink RX7 39 "ScruffPaper$Source" "star" "Z"]
def wsL_law_r28 : List Cond := [Cond.fieldLink RX7 43 "ScruffPaper$Source" "minute" "I", Cond.fieldLink RX7 49 "ScruffPaper$Source" "wide" "I", Cond.fieldLink RX7 56 "ScruffPaper$Source" "law" "LScruffPaper$Text;", Cond.fieldLink RX7 60 "ScruffPaper$Reckoner" "letters" "[I", Cond.fieldLink RX7 64 "ScruffPaper$Source" "number" "I", Cond.methodLink RX7 79 Lib.Math.min.name, Cond.methodLink RX7 84 Lib.Math.max.name, Cond.static yX11_minutesApart, Cond.code yX11_minutesApart cX11_minutesApart 3 (some .int), Cond.methodLink RX11 315 Lib.Math.abs.name, Cond.static Lib.Math.abs.name, Cond.code Lib.Math.abs.name Lib.Math.abs.code 1 (some .int), Cond.methodLink RX11 310 Lib.Math.min.name, Cond.methodLink RX7 52 yX8_comesOn, Cond.instanceMethod yX8_comesOn, Cond.selects RX8 yX8_comesOn yX8_comesOn, Cond.code yX8_comesOn cX8_comesOn 2 (some .boolean), Cond.methodLink RX7 67 yX7_luck, Cond.instanceMethod yX7_luck, Cond.selects RX7 yX7_luck yX7_luck, Cond.code yX7_luck cX7_luck 5 (some .int), Cond.constant RX7 114 (65535), Cond.methodLink RX7 71 yX5_firstThatHolds, Cond.instanceMethod yX5_firstThatHolds]
def wsL_law_r29 : List Cond := [Cond.selects RX5 yX5_firstThatHolds yX5_firstThatHolds, Cond.code yX5_firstThatHolds cX5_firstThatHolds 3 (some .int), Cond.fieldLink RX5 18 "ScruffPaper$Text" "clauses" "I", Cond.fieldLink RX5 24 "ScruffPaper$Text" "code" "[I", Cond.fieldLink RX5 27 "ScruffPaper$Text" "middles" "[I", Cond.fieldLink RX5 30 "ScruffPaper$Text" "starts" "[I", Cond.methodLink RX5 33 yX5_reckon, Cond.instanceMethod yX5_reckon, Cond.selects RX5 yX5_reckon yX5_reckon, Cond.code yX5_reckon cX5_reckon 9 (some .int), Cond.methodLink RX5 37 yX5_isDivision, Cond.static yX5_isDivision, Cond.code yX5_isDivision cX5_isDivision 1 (some .boolean), Cond.methodLink RX5 41 yX5_joined, Cond.static yX5_joined, Cond.code yX5_joined cX5_joined 3 (some .int), Cond.methodLink RX7 75 yX5_worth, Cond.instanceMethod yX5_worth, Cond.selects RX5 yX5_worth yX5_worth, Cond.code yX5_worth cX5_worth 3 (some .int), Cond.methodLink RL 49 yX12_height, Cond.instanceMethod yX12_height, Cond.selects RX12 yX12_height yX12_height, Cond.code yX12_height cX12_height 4 (some .int)]
def wsL_law_r30 : List Cond := [Cond.methodLink RX12 369 yX12_heightOf, Cond.instanceMethod yX12_heightOf, Cond.selects RX12 yX12_heightOf yX12_heightOf, Cond.code yX12_heightOf cX12_heightOf 6 (some .int), Cond.fieldLink RX12 262 "ScruffPaperModel" "atA" "I", Cond.fieldLink RX12 268 "ScruffPaperModel" "atD" "I", Cond.fieldLink RX12 271 "ScruffPaperModel" "atF" "I", Cond.fieldLink RX12 283 "ScruffPaperModel" "atM" "I", Cond.fieldLink RX12 289 "ScruffPaperModel" "atS" "I", Cond.fieldLink RX12 295 "ScruffPaperModel" "atU" "I", Cond.fieldLink RX12 298 "ScruffPaperModel" "atX" "I", Cond.methodLink RX12 353 yX12_isThere, Cond.instanceMethod yX12_isThere, Cond.selects RX12 yX12_isThere yX12_isThere, Cond.code yX12_isThere cX12_isThere 4 (some .boolean), Cond.methodLink RX12 341 yX12_has, Cond.static yX12_has, Cond.code yX12_has cX12_has 2 (some .boolean), Cond.methodLink RX12 344 yX12_awayOf, Cond.instanceMethod yX12_awayOf, Cond.selects RX12 yX12_awayOf yX12_awayOf, Cond.code yX12_awayOf cX12_awayOf 4 (some .int), Cond.methodLink RX12 338 yX12_farOf, Cond.static yX12_farOf]
def wsL_law_r31 : List Cond := [Cond.code yX12_farOf cX12_farOf 3 (some .int), Cond.methodLink RX12 357 yX12_clears, Cond.instanceMethod yX12_clears, Cond.selects RX12 yX12_clears yX12_clears, Cond.code yX12_clears cX12_clears 1 none, Cond.fieldLink RX12 265 "ScruffPaperModel" "atB" "I", Cond.fieldLink RX12 274 "ScruffPaperModel" "atG" "I", Cond.fieldLink RX12 277 "ScruffPaperModel" "atH" "I", Cond.fieldLink RX12 280 "ScruffPaperModel" "atL" "I", Cond.fieldLink RX12 286 "ScruffPaperModel" "atN" "I", Cond.fieldLink RX12 292 "ScruffPaperModel" "atT" "I", Cond.methodLink RX12 360 yX12_luckOf, Cond.instanceMethod yX12_luckOf, Cond.selects RX12 yX12_luckOf yX12_luckOf, Cond.code yX12_luckOf cX12_luckOf 4 (some .int), Cond.constantLong RX12 347 (25173), Cond.constantLong RX12 349 (13849), Cond.constantLong RX12 351 (65536), Cond.methodLink RX12 363 yX12_holds, Cond.instanceMethod yX12_holds, Cond.selects RX12 yX12_holds yX12_holds, Cond.code yX12_holds cX12_holds 2 (some .boolean), Cond.methodLink RX12 312 yX12_works, Cond.instanceMethod yX12_works]
def wsL_law_r32 : List Cond := [Cond.selects RX12 yX12_works yX12_works, Cond.code yX12_works cX12_works 5 none, Cond.methodLink RX12 305 yX12_does, Cond.instanceMethod yX12_does, Cond.selects RX12 yX12_does yX12_does, Cond.code yX12_does cX12_does 4 none, Cond.methodLink RX12 301 yX12_worked, Cond.static yX12_worked, Cond.code yX12_worked cX12_worked 3 (some .int), Cond.methodLink RX12 308 yX12_valueOf, Cond.instanceMethod yX12_valueOf, Cond.selects RX12 yX12_valueOf yX12_valueOf, Cond.code yX12_valueOf cX12_valueOf 2 (some .int), Cond.methodLink RX12 366 yX12_sumOf, Cond.instanceMethod yX12_sumOf, Cond.selects RX12 yX12_sumOf yX12_sumOf, Cond.code yX12_sumOf cX12_sumOf 2 (some .int), Cond.methodLink RL 50 yX11_paper, Cond.instanceMethod yX11_paper, Cond.selects RX11 yX11_paper yX11_paper, Cond.code yX11_paper cX11_paper 4 (some .int), Cond.fieldLink RX11 169 "ScruffPaper$Page" "heights" "[I", Cond.fieldLink RX11 172 "ScruffPaper$Page" "shapes" "[I", Cond.methodLink RX11 165 yX7_lay]
def wsL_law_r33 : List Cond := [Cond.instanceMethod yX7_lay, Cond.selects RX7 yX7_lay yX7_lay, Cond.code yX7_lay cX7_lay 5 none, Cond.fieldLink RX7 87 "ScruffPaper$Page" "day" "I", Cond.methodLink RX7 92 yX4_clear, Cond.instanceMethod yX4_clear, Cond.selects RX4 yX4_clear yX4_clear, Cond.code yX4_clear cX4_clear 2 none, Cond.methodLink RX4 38 yJ7_fill_53178, Cond.static yJ7_fill_53178, Cond.code yJ7_fill_53178 cJ7_fill_53178 4 none, Cond.methodLink RX7 96 yX7_layOne, Cond.instanceMethod yX7_layOne, Cond.selects RX7 yX7_layOne yX7_layOne, Cond.code yX7_layOne cX7_layOne 6 none, Cond.fieldLink RX7 107 "ScruffPaper$Source" "shape" "I", Cond.methodLink RX7 100 yJ9_floorMod_7cf53, Cond.static yJ9_floorMod_7cf53, Cond.initialized RJ9, Cond.code yJ9_floorMod_7cf53 cJ9_floorMod_7cf53 3 (some .int), Cond.methodLink RX7 103 yX7_heightOf, Cond.methodLink RX7 110 yX4_add, Cond.instanceMethod yX4_add, Cond.selects RX4 yX4_add yX4_add]
def wsL_law_r34 : List Cond := [Cond.code yX4_add cX4_add 4 none, Cond.methodLink RL 53 yX12_paper, Cond.instanceMethod yX12_paper, Cond.selects RX12 yX12_paper yX12_paper, Cond.code yX12_paper cX12_paper 4 (some .int), Cond.fieldLink RX12 372 "ScruffPaperModel" "paperHigh" "I", Cond.fieldLink RX12 375 "ScruffPaperModel" "paperShape" "I", Cond.methodLink RX12 378 yX12_looks, Cond.instanceMethod yX12_looks, Cond.selects RX12 yX12_looks yX12_looks, Cond.code yX12_looks cX12_looks 6 none, Cond.methodLink RL 54 yX11_marks, Cond.instanceMethod yX11_marks, Cond.selects RX11 yX11_marks yX11_marks, Cond.code yX11_marks cX11_marks 4 (some .int), Cond.methodLink RX11 175 yX4_read, Cond.instanceMethod yX4_read, Cond.selects RX4 yX4_read yX4_read, Cond.code yX4_read cX4_read 8 none, Cond.fieldLink RX4 44 "ScruffPaper$Reckoner" "letters" "[I", Cond.methodLink RX4 47 yX4_greatestBefore, Cond.instanceMethod yX4_greatestBefore, Cond.selects RX4 yX4_greatestBefore yX4_greatestBefore, Cond.code yX4_greatestBefore cX4_greatestBefore 5 (some .int)]
def wsL_law_r35 : List Cond := [Cond.methodLink RX4 62 yX4_greatestOf, Cond.instanceMethod yX4_greatestOf, Cond.selects RX4 yX4_greatestOf yX4_greatestOf, Cond.code yX4_greatestOf cX4_greatestOf 5 (some .int), Cond.methodLink RX4 65 Lib.Math.max.name, Cond.methodLink RX4 54 yX4_isMarked, Cond.instanceMethod yX4_isMarked, Cond.selects RX4 yX4_isMarked yX4_isMarked, Cond.code yX4_isMarked cX4_isMarked 3 (some .boolean), Cond.methodLink RX4 58 yX5_firstThatHolds, Cond.methodLink RX11 179 yX4_marksOf, Cond.instanceMethod yX4_marksOf, Cond.selects RX4 yX4_marksOf yX4_marksOf, Cond.code yX4_marksOf cX4_marksOf 4 (some .int), Cond.methodLink RX4 74 yX4_beginsMark, Cond.instanceMethod yX4_beginsMark, Cond.selects RX4 yX4_beginsMark yX4_beginsMark, Cond.code yX4_beginsMark cX4_beginsMark 3 (some .boolean), Cond.methodLink RX11 183 yX4_markNumber, Cond.instanceMethod yX4_markNumber, Cond.selects RX4 yX4_markNumber yX4_markNumber, Cond.code yX4_markNumber cX4_markNumber 5 (some .int), Cond.methodLink RX4 77 yX4_numberOf, Cond.instanceMethod yX4_numberOf]
def wsL_law_r36 : List Cond := [Cond.selects RX4 yX4_numberOf yX4_numberOf, Cond.code yX4_numberOf cX4_numberOf 5 (some .int), Cond.methodLink RX4 81 yX4_lastOf, Cond.instanceMethod yX4_lastOf, Cond.selects RX4 yX4_lastOf yX4_lastOf, Cond.code yX4_lastOf cX4_lastOf 4 (some .int), Cond.methodLink RL 57 yX12_marks, Cond.instanceMethod yX12_marks, Cond.selects RX12 yX12_marks yX12_marks, Cond.code yX12_marks cX12_marks 4 (some .int), Cond.methodLink RX12 385 yX12_lays, Cond.instanceMethod yX12_lays, Cond.selects RX12 yX12_lays yX12_lays, Cond.code yX12_lays cX12_lays 3 none, Cond.methodLink RX12 388 yX12_goesOver, Cond.instanceMethod yX12_goesOver, Cond.selects RX12 yX12_goesOver yX12_goesOver, Cond.code yX12_goesOver cX12_goesOver 9 none, Cond.methodLink RX12 381 yX12_isMarked, Cond.instanceMethod yX12_isMarked, Cond.selects RX12 yX12_isMarked yX12_isMarked, Cond.code yX12_isMarked cX12_isMarked 6 (some .boolean), Cond.methodLink RL 58 yX11_passed, Cond.instanceMethod yX11_passed]
def wsL_law_r37 : List Cond := [Cond.selects RX11 yX11_passed yX11_passed, Cond.code yX11_passed cX11_passed 10 (some .int), Cond.methodLink RX11 186 yX4_passedMarks, Cond.instanceMethod yX4_passedMarks, Cond.selects RX4 yX4_passedMarks yX4_passedMarks, Cond.code yX4_passedMarks cX4_passedMarks 5 (some .int), Cond.methodLink RX4 84 yX4_beginsPassed, Cond.instanceMethod yX4_beginsPassed, Cond.selects RX4 yX4_beginsPassed yX4_beginsPassed, Cond.code yX4_beginsPassed cX4_beginsPassed 5 (some .boolean), Cond.methodLink RX11 189 yX4_firstPassed, Cond.instanceMethod yX4_firstPassed, Cond.selects RX4 yX4_firstPassed yX4_firstPassed, Cond.code yX4_firstPassed cX4_firstPassed 4 (some .int), Cond.methodLink RL 61 yX12_passed, Cond.instanceMethod yX12_passed, Cond.selects RX12 yX12_passed yX12_passed, Cond.code yX12_passed cX12_passed 11 (some .int), Cond.constantLong RX12 392 (2), Cond.methodLink RX12 394 yX12_isAlone, Cond.instanceMethod yX12_isAlone, Cond.selects RX12 yX12_isAlone yX12_isAlone, Cond.code yX12_isAlone cX12_isAlone 3 (some .boolean), Cond.methodLink RL 62 yX11_note]
def wsL_law_r38 : List Cond := [Cond.instanceMethod yX11_note, Cond.selects RX11 yX11_note yX11_note, Cond.code yX11_note cX11_note 5 (some .int), Cond.methodLink RX11 192 yX3_add, Cond.instanceMethod yX3_add, Cond.selects RX3 yX3_add yX3_add, Cond.code yX3_add cX3_add 4 (some .int), Cond.methodLink RL 65 yX12_note, Cond.instanceMethod yX12_note, Cond.selects RX12 yX12_note yX12_note, Cond.code yX12_note cX12_note 4 (some .int), Cond.fieldLink RX12 397 "ScruffPaperModel" "notes" "I", Cond.methodLink RL 66 yX11_one, Cond.instanceMethod yX11_one, Cond.selects RX11 yX11_one yX11_one, Cond.code yX11_one cX11_one 3 (some .int), Cond.methodLink RX11 195 yX3_oneBy, Cond.instanceMethod yX3_oneBy, Cond.selects RX3 yX3_oneBy yX3_oneBy, Cond.code yX3_oneBy cX3_oneBy 6 (some .int), Cond.methodLink RX3 32 yX3_gather, Cond.instanceMethod yX3_gather, Cond.selects RX3 yX3_gather yX3_gather, Cond.code yX3_gather cX3_gather 6 (some .int)]
def wsL_law_r39 : List Cond := [Cond.static yX11_lieOnArc, Cond.code yX11_lieOnArc cX11_lieOnArc 5 (some .boolean), Cond.methodLink RX11 318 yX11_lieOnArcFrom, Cond.static yX11_lieOnArcFrom, Cond.code yX11_lieOnArcFrom cX11_lieOnArcFrom 7 (some .boolean), Cond.methodLink RL 69 yX12_one, Cond.instanceMethod yX12_one, Cond.selects RX12 yX12_one yX12_one, Cond.code yX12_one cX12_one 3 (some .int), Cond.methodLink RX12 417 yX12_isShape, Cond.static yX12_isShape, Cond.code yX12_isShape cX12_isShape 1 (some .boolean), Cond.methodLink RX12 420 yX12_isWithin, Cond.static yX12_isWithin, Cond.code yX12_isWithin cX12_isWithin 1 (some .boolean), Cond.constantLong RX12 400 (700), Cond.methodLink RX12 406 yX12_manyOf, Cond.instanceMethod yX12_manyOf, Cond.selects RX12 yX12_manyOf yX12_manyOf, Cond.code yX12_manyOf cX12_manyOf 5 (some .int), Cond.methodLink RX12 423 yX12_oneBits, Cond.instanceMethod yX12_oneBits, Cond.selects RX12 yX12_oneBits yX12_oneBits, Cond.code yX12_oneBits cX12_oneBits 4 (some .int)]
def wsL_law_r40 : List Cond := [Cond.methodLink RX12 413 yX12_isOne, Cond.instanceMethod yX12_isOne, Cond.selects RX12 yX12_isOne yX12_isOne, Cond.code yX12_isOne cX12_isOne 7 (some .boolean), Cond.methodLink RX12 402 yX12_minuteBy, Cond.instanceMethod yX12_minuteBy, Cond.selects RX12 yX12_minuteBy yX12_minuteBy, Cond.code yX12_minuteBy cX12_minuteBy 3 (some .int), Cond.methodLink RX12 409 yX12_onArc, Cond.instanceMethod yX12_onArc, Cond.selects RX12 yX12_onArc yX12_onArc, Cond.code yX12_onArc cX12_onArc 8 (some .int), Cond.methodLink RL 70 yX11_known, Cond.instanceMethod yX11_known, Cond.selects RX11 yX11_known yX11_known, Cond.code yX11_known cX11_known 3 (some .int), Cond.methodLink RX11 198 yX3_knownDay, Cond.instanceMethod yX3_knownDay, Cond.selects RX3 yX3_knownDay yX3_knownDay, Cond.code yX3_knownDay cX3_knownDay 5 (some .int), Cond.methodLink RX3 40 yX3_oneBy, Cond.methodLink RL 73 yX12_known, Cond.instanceMethod yX12_known, Cond.selects RX12 yX12_known yX12_known]
def wsL_law_r41 : List Cond := [Cond.code yX12_known cX12_known 5 (some .int), Cond.methodLink RL 74 yX11_row, Cond.instanceMethod yX11_row, Cond.selects RX11 yX11_row yX11_row, Cond.code yX11_row cX11_row 4 (some .int), Cond.methodLink RX11 201 yX3_longestRow, Cond.instanceMethod yX3_longestRow, Cond.selects RX3 yX3_longestRow yX3_longestRow, Cond.code yX3_longestRow cX3_longestRow 9 (some .int), Cond.methodLink RX3 44 yX3_rowFrom, Cond.instanceMethod yX3_rowFrom, Cond.selects RX3 yX3_rowFrom yX3_rowFrom, Cond.code yX3_rowFrom cX3_rowFrom 6 (some .int), Cond.methodLink RX3 47 yJ9_floorMod_7cf53, Cond.methodLink RL 77 yX12_row, Cond.instanceMethod yX12_row, Cond.selects RX12 yX12_row yX12_row, Cond.code yX12_row cX12_row 9 (some .int), Cond.methodLink RL 78 yX11_blip, Cond.instanceMethod yX11_blip, Cond.selects RX11 yX11_blip yX11_blip, Cond.code yX11_blip cX11_blip 2 (some .int), Cond.constant RX11 204 (1000000000), Cond.methodLink RX11 205 yX0_add]
def wsL_law_r42 : List Cond := [Cond.instanceMethod yX0_add, Cond.selects RX0 yX0_add yX0_add, Cond.code yX0_add cX0_add 2 (some .int), Cond.methodLink RL 82 yX12_blip, Cond.instanceMethod yX12_blip, Cond.selects RX12 yX12_blip yX12_blip, Cond.code yX12_blip cX12_blip 2 (some .int), Cond.fieldLink RX12 426 "ScruffPaperModel" "blips" "I", Cond.constantLong RX12 429 (1000000000), Cond.methodLink RL 83 yX11_fits, Cond.instanceMethod yX11_fits, Cond.selects RX11 yX11_fits yX11_fits, Cond.code yX11_fits cX11_fits 3 (some .int), Cond.fieldLink RX11 210 "ScruffPaper$Blips" "many" "I", Cond.methodLink RX11 207 yX11_isBeat, Cond.static yX11_isBeat, Cond.code yX11_isBeat cX11_isBeat 1 (some .boolean), Cond.constant RX11 309 (1000000), Cond.methodLink RX11 211 yX0_fitTo, Cond.instanceMethod yX0_fitTo, Cond.selects RX0 yX0_fitTo yX0_fitTo, Cond.code yX0_fitTo cX0_fitTo 4 (some .boolean), Cond.methodLink RL 86 yX12_fits, Cond.instanceMethod yX12_fits]
def wsL_law_r43 : List Cond := [Cond.selects RX12 yX12_fits yX12_fits, Cond.code yX12_fits cX12_fits 3 (some .int), Cond.constantLong RX12 436 (1000), Cond.methodLink RX12 433 yX12_isBeat, Cond.static yX12_isBeat, Cond.code yX12_isBeat cX12_isBeat 1 (some .boolean), Cond.constantLong RX12 431 (1000000), Cond.methodLink RX12 438 yX12_isFit, Cond.instanceMethod yX12_isFit, Cond.selects RX12 yX12_isFit yX12_isFit, Cond.code yX12_isFit cX12_isFit 6 (some .boolean), Cond.methodLink RL 87 yX11_beats, Cond.instanceMethod yX11_beats, Cond.selects RX11 yX11_beats yX11_beats, Cond.code yX11_beats cX11_beats 5 (some .int), Cond.fieldLink RX11 221 "ScruffPaper$Blips" "fitting" "I", Cond.fieldLink RX11 224 "ScruffPaper$Blips" "least" "I", Cond.fieldLink RX11 227 "ScruffPaper$Blips" "greatest" "I", Cond.methodLink RX11 214 yX11_canScan, Cond.instanceMethod yX11_canScan, Cond.selects RX11 yX11_canScan yX11_canScan, Cond.code yX11_canScan cX11_canScan 5 (some .boolean), Cond.methodLink RX11 217 yX0_scan, Cond.instanceMethod yX0_scan]
def wsL_law_r44 : List Cond := [Cond.selects RX0 yX0_scan yX0_scan, Cond.code yX0_scan cX0_scan 5 none, Cond.methodLink RX0 35 yX0_fitTo, Cond.methodLink RL 91 yX12_beats, Cond.instanceMethod yX12_beats, Cond.selects RX12 yX12_beats yX12_beats, Cond.code yX12_beats cX12_beats 5 (some .int), Cond.fieldLink RX12 441 "ScruffPaperModel" "fitMany" "I", Cond.fieldLink RX12 444 "ScruffPaperModel" "fitLeast" "I", Cond.fieldLink RX12 447 "ScruffPaperModel" "fitMost" "I", Cond.methodLink RX12 450 yX12_canBeat, Cond.instanceMethod yX12_canBeat, Cond.selects RX12 yX12_canBeat yX12_canBeat, Cond.code yX12_canBeat cX12_canBeat 4 (some .boolean), Cond.methodLink RX12 453 yX12_fitsAll, Cond.instanceMethod yX12_fitsAll, Cond.selects RX12 yX12_fitsAll yX12_fitsAll, Cond.code yX12_fitsAll cX12_fitsAll 5 none, Cond.methodLink RL 92 yX11_counted, Cond.instanceMethod yX11_counted, Cond.selects RX11 yX11_counted yX11_counted, Cond.code yX11_counted cX11_counted 3 (some .int), Cond.methodLink RX11 230 yX0_beatsTo, Cond.instanceMethod yX0_beatsTo]
def wsL_law_r45 : List Cond := [Cond.selects RX0 yX0_beatsTo yX0_beatsTo, Cond.code yX0_beatsTo cX0_beatsTo 5 (some .int), Cond.constantLong RX0 39 (2), Cond.methodLink RL 95 yX12_counted, Cond.instanceMethod yX12_counted, Cond.selects RX12 yX12_counted yX12_counted, Cond.code yX12_counted cX12_counted 3 (some .int), Cond.methodLink RX12 456 yX12_countOf, Cond.instanceMethod yX12_countOf, Cond.selects RX12 yX12_countOf yX12_countOf, Cond.code yX12_countOf cX12_countOf 3 (some .int), Cond.methodLink RL 96 yX11_sure, Cond.instanceMethod yX11_sure, Cond.selects RX11 yX11_sure yX11_sure, Cond.code yX11_sure cX11_sure 4 (some .int), Cond.methodLink RX11 233 yX0_countAlike, Cond.instanceMethod yX0_countAlike, Cond.selects RX0 yX0_countAlike yX0_countAlike, Cond.code yX0_countAlike cX0_countAlike 4 (some .boolean), Cond.methodLink RX0 41 yX0_beatsTo, Cond.methodLink RL 99 yX12_sure, Cond.instanceMethod yX12_sure, Cond.selects RX12 yX12_sure yX12_sure, Cond.code yX12_sure cX12_sure 5 (some .int)]
def wsL_law_r46 : List Cond := [Cond.methodLink RL 100 yX11_lost, Cond.instanceMethod yX11_lost, Cond.selects RX11 yX11_lost yX11_lost, Cond.code yX11_lost cX11_lost 4 (some .int), Cond.methodLink RX11 236 yX0_beatsTillLost, Cond.instanceMethod yX0_beatsTillLost, Cond.selects RX0 yX0_beatsTillLost yX0_beatsTillLost, Cond.code yX0_beatsTillLost cX0_beatsTillLost 2 (some .int), Cond.methodLink RL 103 yX12_lost, Cond.instanceMethod yX12_lost, Cond.selects RX12 yX12_lost yX12_lost, Cond.code yX12_lost cX12_lost 5 (some .int), Cond.methodLink RL 104 yX11_night, Cond.instanceMethod yX11_night, Cond.selects RX11 yX11_night yX11_night, Cond.code yX11_night cX11_night 3 (some .int), Cond.constant RX11 239 (-100000), Cond.constant RX11 240 (100000), Cond.methodLink RX11 241 yX2_add, Cond.instanceMethod yX2_add, Cond.selects RX2 yX2_add yX2_add, Cond.code yX2_add cX2_add 3 (some .int), Cond.methodLink RL 107 yX12_night, Cond.instanceMethod yX12_night]
def wsL_law_r47 : List Cond := [Cond.selects RX12 yX12_night yX12_night, Cond.code yX12_night cX12_night 3 (some .int), Cond.fieldLink RX12 459 "ScruffPaperModel" "nights" "I", Cond.constantLong RX12 462 (-100000), Cond.constantLong RX12 464 (100000), Cond.methodLink RL 108 yX11_says, Cond.instanceMethod yX11_says, Cond.selects RX11 yX11_says yX11_says, Cond.code yX11_says cX11_says 4 (some .int), Cond.fieldLink RX11 247 "ScruffPaper$Nights" "many" "I", Cond.constant RX11 248 (-1000000), Cond.methodLink RX11 243 yX2_storyAt, Cond.instanceMethod yX2_storyAt, Cond.selects RX2 yX2_storyAt yX2_storyAt, Cond.code yX2_storyAt cX2_storyAt 2 (some (.object "ScruffPaper$Text")), Cond.methodLink RX11 249 yX2_shiftBy, Cond.instanceMethod yX2_shiftBy, Cond.selects RX2 yX2_shiftBy yX2_shiftBy, Cond.code yX2_shiftBy cX2_shiftBy 3 (some .int), Cond.fieldLink RX2 42 "ScruffPaper$Reckoner" "letters" "[I", Cond.methodLink RX2 45 yX5_worth, Cond.methodLink RL 111 yX12_says, Cond.instanceMethod yX12_says, Cond.selects RX12 yX12_says yX12_says]
def wsL_law_r48 : List Cond := [Cond.code yX12_says cX12_says 3 (some .int), Cond.constant RX12 475 (-1000000), Cond.methodLink RX12 466 yX12_isTold, Cond.instanceMethod yX12_isTold, Cond.selects RX12 yX12_isTold yX12_isTold, Cond.code yX12_isTold cX12_isTold 2 (some .boolean), Cond.methodLink RX12 469 yX12_isNight, Cond.instanceMethod yX12_isNight, Cond.selects RX12 yX12_isNight yX12_isNight, Cond.code yX12_isNight cX12_isNight 2 (some .boolean), Cond.methodLink RX12 472 yX12_saysOf, Cond.instanceMethod yX12_saysOf, Cond.selects RX12 yX12_saysOf yX12_saysOf, Cond.code yX12_saysOf cX12_saysOf 3 (some .int), Cond.methodLink RL 112 yX11_falls, Cond.instanceMethod yX11_falls, Cond.selects RX11 yX11_falls yX11_falls, Cond.code yX11_falls cX11_falls 4 (some .int), Cond.methodLink RX11 253 yX11_isNightError, Cond.static yX11_isNightError, Cond.code yX11_isNightError cX11_isNightError 1 (some .boolean), Cond.methodLink RX11 256 yX2_fallOf, Cond.instanceMethod yX2_fallOf, Cond.selects RX2 yX2_fallOf yX2_fallOf]
def wsL_law_r49 : List Cond := [Cond.code yX2_fallOf cX2_fallOf 4 (some .int), Cond.methodLink RX2 52 Lib.MathLoose.abs_long.x, Cond.static Lib.MathLoose.abs_long.x, Cond.code Lib.MathLoose.abs_long.x Lib.MathLoose.abs_long.code 2 (some .long), Cond.methodLink RX2 49 yX2_shiftBy, Cond.methodLink RL 115 yX12_falls, Cond.instanceMethod yX12_falls, Cond.selects RX12 yX12_falls yX12_falls, Cond.code yX12_falls cX12_falls 4 (some .int), Cond.methodLink RX12 476 yX12_isError, Cond.static yX12_isError, Cond.code yX12_isError cX12_isError 1 (some .boolean), Cond.methodLink RX12 479 yX12_fallsAt, Cond.instanceMethod yX12_fallsAt, Cond.selects RX12 yX12_fallsAt yX12_fallsAt, Cond.code yX12_fallsAt cX12_fallsAt 4 (some .int), Cond.methodLink RL 116 yX11_told, Cond.instanceMethod yX11_told, Cond.selects RX11 yX11_told yX11_told, Cond.code yX11_told cX11_told 3 (some .int), Cond.methodLink RX11 259 yX2_alone, Cond.instanceMethod yX2_alone, Cond.selects RX2 yX2_alone yX2_alone, Cond.code yX2_alone cX2_alone 7 (some .int)]
def wsL_law_r50 : List Cond := [Cond.methodLink RX2 58 yX2_fallOf, Cond.methodLink RL 119 yX12_told, Cond.instanceMethod yX12_told, Cond.selects RX12 yX12_told yX12_told, Cond.code yX12_told cX12_told 7 (some .int), Cond.methodLink RL 120 yX11_bound, Cond.instanceMethod yX11_bound, Cond.selects RX11 yX11_bound yX11_bound, Cond.code yX11_bound cX11_bound 3 (some .int), Cond.methodLink RX11 262 yX2_greatestOrbit, Cond.instanceMethod yX2_greatestOrbit, Cond.selects RX2 yX2_greatestOrbit yX2_greatestOrbit, Cond.code yX2_greatestOrbit cX2_greatestOrbit 5 (some .int), Cond.methodLink RX2 65 Lib.Math.max.name, Cond.methodLink RX2 61 yX2_greatestSize, Cond.instanceMethod yX2_greatestSize, Cond.selects RX2 yX2_greatestSize yX2_greatestSize, Cond.code yX2_greatestSize cX2_greatestSize 12 (some .int), Cond.methodLink RX2 72 Lib.Math.abs.name, Cond.methodLink RX2 75 Lib.Math.min.name, Cond.methodLink RX2 69 yX2_waveAt, Cond.static yX2_waveAt, Cond.code yX2_waveAt cX2_waveAt 3 (some .int), Cond.methodLink RL 123 yX12_bound]
def wsL_law_r51 : List Cond := [Cond.instanceMethod yX12_bound, Cond.selects RX12 yX12_bound yX12_bound, Cond.code yX12_bound cX12_bound 5 (some .int), Cond.constantLong RX12 485 (4), Cond.constantLong RX12 487 (400), Cond.methodLink RX12 489 yX12_canGoAbout, Cond.instanceMethod yX12_canGoAbout, Cond.selects RX12 yX12_canGoAbout yX12_canGoAbout, Cond.code yX12_canGoAbout cX12_canGoAbout 6 (some .boolean), Cond.methodLink RX12 482 yX12_waveOf, Cond.static yX12_waveOf, Cond.code yX12_waveOf cX12_waveOf 3 (some .int), Cond.methodLink RL 124 yX11_there, Cond.instanceMethod yX11_there, Cond.selects RX11 yX11_there yX11_there, Cond.code yX11_there cX11_there 3 (some .boolean), Cond.fieldLink RX11 265 "ScruffPaper$Lots" "tens" "[I", Cond.methodLink RL 128 yX12_there, Cond.instanceMethod yX12_there, Cond.selects RX12 yX12_there yX12_there, Cond.code yX12_there cX12_there 3 (some .boolean), Cond.constantLong RX12 492 (39), Cond.constantLong RX12 494 (10), Cond.methodLink RL 129 yX11_pen]
def wsL_law_r52 : List Cond := [Cond.instanceMethod yX11_pen, Cond.selects RX11 yX11_pen yX11_pen, Cond.code yX11_pen cX11_pen 5 (some .int), Cond.fieldLink RX11 272 "ScruffPaper$Lots" "unseen" "I", Cond.fieldLink RX11 275 "ScruffPaper$Lots" "chosen" "[I", Cond.methodLink RX11 268 yX1_choose, Cond.instanceMethod yX1_choose, Cond.selects RX1 yX1_choose yX1_choose, Cond.code yX1_choose cX1_choose 7 none, Cond.methodLink RX1 33 Lib.Math.min.name, Cond.methodLink RX1 25 yX1_weigh, Cond.instanceMethod yX1_weigh, Cond.selects RX1 yX1_weigh yX1_weigh, Cond.code yX1_weigh cX1_weigh 8 none, Cond.methodLink RX1 39 yX1_missesFrom, Cond.instanceMethod yX1_missesFrom, Cond.selects RX1 yX1_missesFrom yX1_missesFrom, Cond.code yX1_missesFrom cX1_missesFrom 5 (some .int), Cond.methodLink RX1 29 yX1_goesOn, Cond.instanceMethod yX1_goesOn, Cond.selects RX1 yX1_goesOn yX1_goesOn, Cond.code yX1_goesOn cX1_goesOn 6 (some .boolean), Cond.methodLink RL 132 yX12_pen, Cond.instanceMethod yX12_pen]
def wsL_law_r53 : List Cond := [Cond.selects RX12 yX12_pen yX12_pen, Cond.code yX12_pen cX12_pen 9 (some .int), Cond.constantLong RX12 496 (6), Cond.methodLink RX12 498 yX12_leastAt, Cond.instanceMethod yX12_leastAt, Cond.selects RX12 yX12_leastAt yX12_leastAt, Cond.code yX12_leastAt cX12_leastAt 3 (some .int), Cond.methodLink RL 133 yX11_odds, Cond.instanceMethod yX11_odds, Cond.selects RX11 yX11_odds yX11_odds, Cond.code yX11_odds cX11_odds 12 (some .long), Cond.constantLong RX11 281 (-1), Cond.methodLink RX11 278 yX11_isLook, Cond.static yX11_isLook, Cond.code yX11_isLook cX11_isLook 3 (some .boolean), Cond.methodLink RX11 283 yX1_drawsWith, Cond.static yX1_drawsWith, Cond.code yX1_drawsWith cX1_drawsWith 4 (some .long), Cond.methodLink RX1 43 yX1_choices, Cond.static yX1_choices, Cond.code yX1_choices cX1_choices 5 (some .long), Cond.methodLink RX11 287 yX1_choices, Cond.methodLink RX11 291 yX1_commonDivisor, Cond.static yX1_commonDivisor]
def wsL_law_r54 : List Cond := [Cond.code yX1_commonDivisor cX1_commonDivisor 11 (some .long), Cond.methodLink RX1 47 Lib.MathLoose.max_long.x, Cond.static Lib.MathLoose.max_long.x, Cond.code Lib.MathLoose.max_long.x Lib.MathLoose.max_long.code 4 (some .long), Cond.methodLink RL 137 yX12_odds, Cond.instanceMethod yX12_odds, Cond.selects RX12 yX12_odds yX12_odds, Cond.code yX12_odds cX12_odds 12 (some .long), Cond.constantLong RX12 510 (40), Cond.constantLong RX12 512 (-1), Cond.methodLink RX12 507 yX12_canLook, Cond.static yX12_canLook, Cond.code yX12_canLook cX12_canLook 3 (some .boolean), Cond.constantLong RX12 501 (20), Cond.methodLink RX12 514 yX12_waysOf, Cond.static yX12_waysOf, Cond.code yX12_waysOf cX12_waysOf 4 (some .long), Cond.methodLink RX12 503 yX12_choices, Cond.static yX12_choices, Cond.code yX12_choices cX12_choices 5 (some .long), Cond.methodLink RX12 518 yX12_divisor, Cond.static yX12_divisor, Cond.code yX12_divisor cX12_divisor 10 (some .long), Cond.methodLink RL 138 yX11_more]
def wsL_law_r55 : List Cond := [Cond.instanceMethod yX11_more, Cond.selects RX11 yX11_more yX11_more, Cond.code yX11_more cX11_more 8 (some .int), Cond.constantLong RX11 295 (1000), Cond.methodLink RL 141 yX12_more, Cond.instanceMethod yX12_more, Cond.selects RX12 yX12_more yX12_more, Cond.code yX12_more cX12_more 8 (some .int), Cond.methodLink RL 142 yX11_check, Cond.instanceMethod yX11_check, Cond.selects RX11 yX11_check yX11_check, Cond.code yX11_check cX11_check 5 (some .int), Cond.methodLink RX11 297 yX4_firstWrong, Cond.instanceMethod yX4_firstWrong, Cond.selects RX4 yX4_firstWrong yX4_firstWrong, Cond.code yX4_firstWrong cX4_firstWrong 7 (some .int), Cond.methodLink RX4 88 yX9_wordAt, Cond.instanceMethod yX9_wordAt, Cond.selects RX9 yX9_wordAt yX9_wordAt, Cond.code yX9_wordAt cX9_wordAt 3 (some .int), Cond.methodLink RL 145 yX12_check, Cond.instanceMethod yX12_check, Cond.selects RX12 yX12_check yX12_check, Cond.code yX12_check cX12_check 5 (some .int)]
def wsL_law_r56 : List Cond := [Cond.methodLink RX12 522 yX12_numberAt, Cond.instanceMethod yX12_numberAt, Cond.selects RX12 yX12_numberAt yX12_numberAt, Cond.code yX12_numberAt cX12_numberAt 4 (some .int), Cond.methodLink RL 146 yX11_count, Cond.instanceMethod yX11_count, Cond.selects RX11 yX11_count yX11_count, Cond.code yX11_count cX11_count 2 (some .int), Cond.fieldLink RX11 301 "ScruffPaper$Notes" "many" "I", Cond.methodLink RX11 302 yX11_textCount, Cond.instanceMethod yX11_textCount, Cond.selects RX11 yX11_textCount yX11_textCount, Cond.code yX11_textCount cX11_textCount 3 (some .int), Cond.methodLink RX11 305 yX11_clausesOf, Cond.static yX11_clausesOf, Cond.code yX11_clausesOf cX11_clausesOf 1 (some .int), Cond.methodLink RL 149 yX12_count, Cond.instanceMethod yX12_count, Cond.selects RX12 yX12_count yX12_count, Cond.code yX12_count cX12_count 2 (some .int)]
def wsL_law : List Cond := (wsL_law_r1 ++ (wsL_law_r2 ++ (wsL_law_r3 ++ (wsL_law_r4 ++ (wsL_law_r5 ++ (wsL_law_r6 ++ (wsL_law_r7 ++ (wsL_law_r8 ++ (wsL_law_r9 ++ (wsL_law_r10 ++ (wsL_law_r11 ++ (wsL_law_r12 ++ (wsL_law_r13 ++ (wsL_law_r14 ++ (wsL_law_r15 ++ (wsL_law_r16 ++ (wsL_law_r17 ++ (wsL_law_r18 ++ (wsL_law_r19 ++ (wsL_law_r20 ++ (wsL_law_r21 ++ (wsL_law_r22 ++ (wsL_law_r23 ++ (wsL_law_r24 ++ (wsL_law_r25 ++ (wsL_law_r26 ++ (wsL_law_r27 ++ (wsL_law_r28 ++ (wsL_law_r29 ++ (wsL_law_r30 ++ (wsL_law_r31 ++ (wsL_law_r32 ++ (wsL_law_r33 ++ (wsL_law_r34 ++ (wsL_law_r35 ++ (wsL_law_r36 ++ (wsL_law_r37 ++ (wsL_law_r38 ++ (wsL_law_r39 ++ (wsL_law_r40 ++ (wsL_law_r41 ++ (wsL_law_r42 ++ (wsL_law_r43 ++ (wsL_law_r44 ++ (wsL_law_r45 ++ (wsL_law_r46 ++ (wsL_law_r47 ++ (wsL_law_r48 ++ (wsL_law_r49 ++ (wsL_law_r50 ++ (wsL_law_r51 ++ (wsL_law_r52 ++ (wsL_law_r53 ++ (wsL_law_r54 ++ (wsL_law_r55 ++ wsL_law_r56))))))))))))))))))))))))))))))))))))))))))))))))))))))) ++ wsX110 ++ wsX120 ++ wsX90 ++ wsX60 ++ wsX70 ++ wsX40 ++ wsX30 ++ wsX00 ++ wsX20 ++ wsX10 ++ wsX50 ++ wsX80 ++ wsX100 ++ ([] : List Cond)
def lw_ch : Nat → List Cond := fun c => match c with
  | 0 => k2_sels lw_privs
  | 1 => tables_1_1
  | 2 => tables_1_2
  | 3 => tables_1_3
  | 4 => tables_1_4
  | 5 => tables_1_5
  | 6 => tables_1_6
  | _ => tables_1_7
theorem lw_chIn : ∀ c, ∀ w ∈ lw_ch c, w ∈ lw_tbl := by
  intro c w h
  unfold lw_tbl tables_1
  match c, h with
  | 0, h => exact List.mem_append_left _ h
  | 1, h => exact List.mem_append_right _ (List.mem_append_left _ h)
  | 2, h => exact List.mem_append_right _ (List.mem_append_right _ (List.mem_append_left _ h))
  | 3, h => exact List.mem_append_right _ (List.mem_append_right _ (List.mem_append_right _ (List.mem_append_left _ h)))
  | 4, h => exact List.mem_append_right _ (List.mem_append_right _ (List.mem_append_right _ (List.mem_append_right _ (List.mem_append_left _ h))))
  | 5, h => exact List.mem_append_right _ (List.mem_append_right _ (List.mem_append_right _ (List.mem_append_right _ (List.mem_append_right _ (List.mem_append_left _ h)))))
  | 6, h => exact List.mem_append_right _ (List.mem_append_right _ (List.mem_append_right _ (List.mem_append_right _ (List.mem_append_right _ (List.mem_append_right _ (List.mem_append_left _ h))))))
  | _ + 7, h => exact List.mem_append_right _ (List.mem_append_right _ (List.mem_append_right _ (List.mem_append_right _ (List.mem_append_right _ (List.mem_append_right _ (List.mem_append_right _ h))))))
theorem memCh (ws : List Cond) (ps : List (Nat × Nat)) (hp : ws = ps.filterMap (fun p => (lw_ch p.1)[p.2]?)) : ∀ w ∈ ws, w ∈ lw_tbl := by
  intro w hw
  rw [hp] at hw
  obtain ⟨p, -, hi⟩ := List.mem_filterMap.mp hw
  exact lw_chIn p.1 w (List.mem_of_getElem? hi)
set_option maxRecDepth 20000 in
theorem in_wsL_law_r1 : ∀ w ∈ wsL_law_r1, w ∈ lw_tbl := fun w h => memCh wsL_law_r1 [(1, 22), (1, 23), (1, 1), (5, 16), (5, 17), (1, 11), (1, 24), (1, 25), (1, 26), (1, 27), (1, 28), (1, 29), (1, 30), (1, 31), (1, 2), (2, 15), (1, 46), (1, 47), (1, 3), (2, 16), (1, 77), (1, 78), (1, 4), (2, 17)] rfl w h
set_option maxRecDepth 20000 in
theorem in_wsL_law_r2 : ∀ w ∈ wsL_law_r2, w ∈ lw_tbl := fun w h => memCh wsL_law_r2 [(1, 116), (1, 117), (1, 6), (2, 18), (1, 149), (2, 19), (1, 151), (1, 152), (1, 7), (2, 20), (1, 174), (1, 175), (1, 8), (2, 21), (1, 203), (1, 204), (1, 9), (2, 22), (1, 233), (1, 234), (1, 10), (2, 23), (1, 32), (1, 33)] rfl w h
set_option maxRecDepth 20000 in
theorem in_wsL_law_r3 : ∀ w ∈ wsL_law_r3, w ∈ lw_tbl := fun w h => memCh wsL_law_r3 [(1, 34), (1, 35), (1, 45), (1, 36), (1, 38), (1, 48), (1, 49), (1, 50), (1, 51), (1, 52), (1, 53), (1, 54), (1, 55), (1, 56), (1, 57), (1, 58), (1, 59), (1, 79), (1, 80), (1, 81), (1, 82), (1, 83), (1, 101), (1, 85)] rfl w h
set_option maxRecDepth 20000 in
theorem in_wsL_law_r4 : ∀ w ∈ wsL_law_r4, w ∈ lw_tbl := fun w h => memCh wsL_law_r4 [(1, 86), (1, 5), (1, 102), (1, 103), (1, 105), (1, 87), (1, 88), (1, 89), (1, 90), (1, 91), (1, 95), (1, 118), (1, 119), (1, 120), (1, 121), (1, 124), (1, 126), (1, 128), (1, 129), (1, 122), (1, 130), (1, 131), (1, 132), (1, 123)] rfl w h
set_option maxRecDepth 20000 in
theorem in_wsL_law_r5 : ∀ w ∈ wsL_law_r5, w ∈ lw_tbl := fun w h => memCh wsL_law_r5 [(1, 153), (1, 154), (1, 155), (1, 156), (1, 157), (1, 158), (1, 159), (1, 160), (1, 161), (1, 176), (1, 177), (1, 178), (1, 179), (1, 180), (1, 181), (1, 182), (1, 184), (1, 186), (1, 188), (1, 205), (1, 206), (1, 207), (1, 208), (1, 212)] rfl w h
set_option maxRecDepth 20000 in
theorem in_wsL_law_r6 : ∀ w ∈ wsL_law_r6, w ∈ lw_tbl := fun w h => memCh wsL_law_r6 [(1, 213), (1, 214), (1, 209), (1, 215), (1, 211), (1, 216), (1, 218), (1, 210), (1, 235), (1, 236), (1, 237), (1, 238), (1, 239), (2, 1), (2, 3), (2, 4), (5, 18), (5, 19), (5, 20), (5, 21), (3, 72), (5, 22), (5, 29), (5, 30)] rfl w h
set_option maxRecDepth 20000 in
theorem in_wsL_law_r7 : ∀ w ∈ wsL_law_r7, w ∈ lw_tbl := fun w h => memCh wsL_law_r7 [(5, 31), (5, 32), (5, 33), (5, 34), (5, 35), (5, 36), (5, 37), (5, 38), (5, 39), (5, 49), (5, 63), (5, 224), (5, 64), (5, 65), (5, 66), (5, 67), (5, 68), (5, 69), (5, 72), (5, 73), (5, 74), (5, 75), (5, 76), (5, 77)] rfl w h
set_option maxRecDepth 20000 in
theorem in_wsL_law_r8 : ∀ w ∈ wsL_law_r8, w ∈ lw_tbl := fun w h => memCh wsL_law_r8 [(5, 78), (5, 79), (5, 80), (5, 81), (5, 85), (5, 86), (5, 87), (5, 88), (2, 43), (2, 44), (2, 45), (2, 46), (1, 104), (2, 60), (2, 61), (1, 12), (2, 47), (2, 48), (2, 49), (2, 50), (2, 51), (2, 52), (2, 53), (2, 54)] rfl w h
set_option maxRecDepth 20000 in
theorem in_wsL_law_r9 : ∀ w ∈ wsL_law_r9, w ∈ lw_tbl := fun w h => memCh wsL_law_r9 [(2, 55), (2, 56), (2, 57), (2, 58), (2, 59), (2, 62), (2, 63), (2, 64), (2, 65), (2, 77), (2, 66), (2, 68), (2, 70), (2, 72), (2, 74), (2, 76), (2, 95), (2, 96), (2, 97), (2, 98), (6, 126), (6, 127), (6, 128), (6, 129)] rfl w h
set_option maxRecDepth 20000 in
theorem in_wsL_law_r10 : ∀ w ∈ wsL_law_r10, w ∈ lw_tbl := fun w h => memCh wsL_law_r10 [(5, 24), (6, 134), (6, 117), (6, 135), (6, 130), (6, 131), (6, 132), (6, 133), (6, 1), (6, 2), (6, 3), (2, 99), (2, 100), (2, 101), (2, 102), (1, 106), (6, 136), (6, 137), (6, 138), (6, 139), (6, 140), (5, 25), (2, 103), (2, 104)] rfl w h
set_option maxRecDepth 20000 in
theorem in_wsL_law_r11 : ∀ w ∈ wsL_law_r11, w ∈ lw_tbl := fun w h => memCh wsL_law_r11 [(2, 105), (2, 106), (1, 39), (2, 107), (2, 108), (2, 109), (2, 110), (5, 225), (5, 226), (5, 227), (5, 228), (5, 23), (5, 229), (5, 231), (0, 32), (5, 232), (2, 111), (2, 112), (2, 113), (2, 114), (1, 37), (2, 79), (3, 56), (2, 115)] rfl w h
set_option maxRecDepth 20000 in
theorem in_wsL_law_r12 : ∀ w ∈ wsL_law_r12, w ∈ lw_tbl := fun w h => memCh wsL_law_r12 [(2, 116), (2, 117), (2, 118), (2, 120), (2, 122), (0, 0), (2, 123), (2, 124), (2, 125), (2, 126), (2, 127), (2, 128), (2, 130), (0, 1), (2, 131), (2, 132), (2, 133), (1, 13), (2, 134), (2, 135), (2, 137), (0, 2), (2, 138), (2, 139)] rfl w h
set_option maxRecDepth 20000 in
theorem in_wsL_law_r13 : ∀ w ∈ wsL_law_r13, w ∈ lw_tbl := fun w h => memCh wsL_law_r13 [(2, 141), (0, 3), (2, 142), (2, 143), (2, 145), (0, 4), (2, 146), (2, 147), (2, 149), (0, 5), (2, 150), (2, 151), (2, 153), (0, 6), (2, 154), (2, 155), (2, 157), (0, 7), (3, 23), (3, 24), (3, 25), (2, 163), (2, 165), (0, 9)] rfl w h
set_option maxRecDepth 20000 in
theorem in_wsL_law_r14 : ∀ w ∈ wsL_law_r14, w ∈ lw_tbl := fun w h => memCh wsL_law_r14 [(2, 166), (3, 26), (3, 28), (0, 12), (3, 29), (2, 170), (2, 171), (2, 172), (2, 173), (2, 174), (2, 176), (0, 11), (2, 177), (2, 179), (2, 180), (2, 181), (1, 14), (2, 182), (2, 183), (2, 184), (2, 185), (2, 186), (7, 192), (2, 187)] rfl w h
set_option maxRecDepth 20000 in
theorem in_wsL_law_r15 : ∀ w ∈ wsL_law_r15, w ∈ lw_tbl := fun w h => memCh wsL_law_r15 [(2, 188), (2, 189), (2, 190), (2, 191), (7, 191), (2, 193), (2, 194), (2, 195), (2, 196), (2, 197), (2, 198), (2, 199), (2, 200), (2, 201), (2, 202), (1, 15), (2, 203), (2, 207), (2, 208), (2, 209), (2, 210), (2, 204), (2, 205), (2, 206)] rfl w h
set_option maxRecDepth 20000 in
theorem in_wsL_law_r16 : ∀ w ∈ wsL_law_r16, w ∈ lw_tbl := fun w h => memCh wsL_law_r16 [(2, 211), (2, 212), (2, 213), (2, 214), (2, 215), (1, 16), (2, 216), (2, 217), (2, 218), (2, 219), (2, 220), (2, 221), (2, 222), (2, 223), (2, 224), (2, 225), (2, 226), (2, 227), (2, 228), (2, 229), (2, 230), (2, 231), (2, 232), (2, 234)] rfl w h
set_option maxRecDepth 20000 in
theorem in_wsL_law_r17 : ∀ w ∈ wsL_law_r17, w ∈ lw_tbl := fun w h => memCh wsL_law_r17 [(2, 235), (1, 17), (2, 236), (2, 237), (2, 238), (2, 239), (3, 0), (3, 1), (3, 2), (3, 3), (3, 5), (3, 7), (3, 9), (3, 10), (3, 11), (3, 12), (3, 13), (1, 18), (3, 14), (3, 15), (3, 16), (3, 17), (3, 18), (3, 19)] rfl w h
set_option maxRecDepth 20000 in
theorem in_wsL_law_r18 : ∀ w ∈ wsL_law_r18, w ∈ lw_tbl := fun w h => memCh wsL_law_r18 [(3, 20), (3, 21), (3, 22), (2, 158), (2, 159), (2, 161), (0, 8), (2, 167), (2, 169), (0, 10), (2, 162), (3, 30), (3, 32), (0, 13), (3, 33), (3, 34), (3, 35), (1, 19), (3, 36), (3, 37), (1, 20), (3, 38), (3, 39), (3, 40)] rfl w h
set_option maxRecDepth 20000 in
theorem in_wsL_law_r19 : ∀ w ∈ wsL_law_r19, w ∈ lw_tbl := fun w h => memCh wsL_law_r19 [(3, 41), (3, 42), (3, 43), (3, 45), (3, 46), (3, 47), (3, 49), (3, 48), (1, 21), (3, 50), (3, 51), (3, 52), (3, 53), (3, 54), (3, 57), (3, 59), (3, 61), (3, 73), (3, 74), (3, 75), (3, 76), (3, 77), (3, 78), (3, 79)] rfl w h
set_option maxRecDepth 20000 in
theorem in_wsL_law_r20 : ∀ w ∈ wsL_law_r20, w ∈ lw_tbl := fun w h => memCh wsL_law_r20 [(3, 80), (5, 233), (5, 234), (5, 235), (5, 236), (5, 237), (5, 239), (0, 33), (6, 0), (6, 4), (6, 6), (0, 34), (6, 7), (6, 8), (6, 10), (0, 35), (6, 11), (5, 40), (5, 41), (5, 42), (5, 43), (6, 12), (6, 14), (0, 36)] rfl w h
set_option maxRecDepth 20000 in
theorem in_wsL_law_r21 : ∀ w ∈ wsL_law_r21, w ∈ lw_tbl := fun w h => memCh wsL_law_r21 [(6, 15), (5, 44), (5, 46), (5, 45), (6, 16), (6, 18), (0, 37), (6, 19), (6, 20), (6, 22), (0, 38), (6, 23), (6, 24), (6, 26), (0, 39), (6, 27), (6, 28), (6, 30), (0, 40), (6, 31), (6, 32), (6, 34), (0, 41), (6, 35)] rfl w h
set_option maxRecDepth 20000 in
theorem in_wsL_law_r22 : ∀ w ∈ wsL_law_r22, w ∈ lw_tbl := fun w h => memCh wsL_law_r22 [(5, 48), (6, 36), (6, 38), (0, 42), (6, 39), (6, 40), (6, 42), (0, 43), (6, 43), (6, 44), (6, 46), (0, 44), (6, 47), (6, 48), (6, 50), (0, 45), (6, 51), (6, 52), (6, 53), (6, 54), (6, 56), (0, 46), (6, 57), (6, 58)] rfl w h
set_option maxRecDepth 20000 in
theorem in_wsL_law_r23 : ∀ w ∈ wsL_law_r23, w ∈ lw_tbl := fun w h => memCh wsL_law_r23 [(6, 60), (0, 47), (6, 61), (6, 62), (6, 63), (6, 64), (6, 65), (6, 67), (0, 48), (6, 68), (6, 69), (6, 70), (6, 71), (6, 72), (6, 73), (6, 74), (6, 75), (6, 77), (0, 49), (6, 78), (6, 79), (6, 81), (0, 50), (6, 82)] rfl w h
set_option maxRecDepth 20000 in
theorem in_wsL_law_r24 : ∀ w ∈ wsL_law_r24, w ∈ lw_tbl := fun w h => memCh wsL_law_r24 [(6, 83), (6, 85), (0, 51), (6, 86), (5, 47), (6, 87), (6, 89), (0, 52), (6, 90), (6, 91), (6, 92), (6, 93), (6, 94), (6, 96), (0, 53), (6, 97), (6, 98), (6, 100), (0, 54), (6, 101), (6, 102), (6, 104), (0, 55), (6, 105)] rfl w h
set_option maxRecDepth 20000 in
theorem in_wsL_law_r25 : ∀ w ∈ wsL_law_r25, w ∈ lw_tbl := fun w h => memCh wsL_law_r25 [(6, 106), (6, 108), (0, 56), (6, 109), (3, 81), (3, 82), (3, 83), (3, 84), (3, 85), (3, 86), (3, 87), (3, 88), (3, 89), (3, 90), (3, 91), (6, 110), (6, 111), (6, 112), (6, 113), (6, 114), (6, 115), (6, 116), (3, 92), (3, 93)] rfl w h
set_option maxRecDepth 20000 in
theorem in_wsL_law_r26 : ∀ w ∈ wsL_law_r26, w ∈ lw_tbl := fun w h => memCh wsL_law_r26 [(3, 94), (3, 95), (1, 217), (3, 96), (3, 97), (3, 98), (3, 99), (3, 100), (3, 101), (3, 102), (6, 118), (6, 119), (6, 120), (6, 121), (6, 122), (6, 123), (6, 124), (6, 125), (3, 103), (3, 104), (3, 105), (3, 106), (3, 107), (3, 108)] rfl w h
set_option maxRecDepth 20000 in
theorem in_wsL_law_r27 : ∀ w ∈ wsL_law_r27, w ∈ lw_tbl := fun w h => memCh wsL_law_r27 [(3, 109), (3, 110), (3, 111), (3, 112), (6, 141), (6, 142), (6, 143), (6, 144), (6, 145), (6, 146), (6, 147), (6, 148), (6, 149), (6, 150), (6, 151), (3, 113), (3, 114), (3, 115), (3, 116), (3, 117), (3, 118), (3, 119), (3, 120), (2, 69)] rfl w h
set_option maxRecDepth 20000 in
theorem in_wsL_law_r28 : ∀ w ∈ wsL_law_r28, w ∈ lw_tbl := fun w h => memCh wsL_law_r28 [(2, 71), (2, 73), (2, 78), (1, 93), (2, 67), (3, 156), (3, 157), (3, 123), (3, 124), (3, 125), (3, 126), (3, 127), (3, 128), (3, 129), (3, 130), (3, 131), (3, 132), (3, 133), (3, 135), (0, 14), (3, 136), (3, 137), (3, 138), (3, 139)] rfl w h
set_option maxRecDepth 20000 in
theorem in_wsL_law_r29 : ∀ w ∈ wsL_law_r29, w ∈ lw_tbl := fun w h => memCh wsL_law_r29 [(3, 140), (3, 141), (3, 55), (3, 58), (3, 62), (3, 60), (3, 142), (3, 144), (0, 15), (3, 145), (3, 146), (3, 147), (3, 148), (3, 149), (3, 150), (3, 151), (3, 152), (3, 153), (3, 154), (3, 155), (6, 152), (6, 153), (6, 154), (6, 155)] rfl w h
set_option maxRecDepth 20000 in
theorem in_wsL_law_r30 : ∀ w ∈ wsL_law_r30, w ∈ lw_tbl := fun w h => memCh wsL_law_r30 [(6, 156), (6, 158), (0, 57), (6, 159), (5, 50), (5, 52), (5, 53), (5, 57), (5, 59), (5, 61), (5, 62), (6, 160), (6, 162), (0, 58), (6, 163), (6, 164), (6, 165), (6, 166), (6, 167), (6, 169), (0, 59), (6, 170), (6, 171), (6, 172)] rfl w h
set_option maxRecDepth 20000 in
theorem in_wsL_law_r31 : ∀ w ∈ wsL_law_r31, w ∈ lw_tbl := fun w h => memCh wsL_law_r31 [(6, 173), (6, 174), (6, 176), (0, 60), (6, 177), (5, 51), (5, 54), (5, 55), (5, 56), (5, 58), (5, 60), (6, 178), (6, 180), (0, 61), (6, 181), (6, 182), (6, 183), (6, 184), (6, 185), (6, 187), (0, 62), (6, 188), (6, 189), (6, 191)] rfl w h
set_option maxRecDepth 20000 in
theorem in_wsL_law_r32 : ∀ w ∈ wsL_law_r32, w ∈ lw_tbl := fun w h => memCh wsL_law_r32 [(0, 63), (6, 192), (6, 193), (6, 195), (0, 64), (6, 196), (6, 197), (6, 198), (6, 199), (6, 200), (6, 202), (0, 65), (6, 203), (6, 204), (6, 206), (0, 66), (6, 207), (3, 158), (3, 159), (3, 160), (3, 161), (1, 125), (1, 127), (3, 162)] rfl w h
set_option maxRecDepth 20000 in
theorem in_wsL_law_r33 : ∀ w ∈ wsL_law_r33, w ∈ lw_tbl := fun w h => memCh wsL_law_r33 [(3, 163), (3, 164), (3, 165), (1, 133), (3, 166), (3, 167), (3, 168), (3, 169), (3, 170), (3, 171), (3, 172), (3, 173), (3, 175), (0, 16), (3, 176), (2, 75), (3, 177), (3, 178), (1, 13), (3, 179), (3, 180), (3, 181), (3, 182), (3, 183)] rfl w h
set_option maxRecDepth 20000 in
theorem in_wsL_law_r34 : ∀ w ∈ wsL_law_r34, w ∈ lw_tbl := fun w h => memCh wsL_law_r34 [(3, 184), (6, 208), (6, 209), (6, 210), (6, 211), (5, 70), (5, 71), (6, 212), (6, 214), (0, 67), (6, 215), (3, 185), (3, 186), (3, 187), (3, 188), (3, 189), (3, 190), (3, 191), (3, 192), (1, 94), (3, 193), (3, 195), (0, 17), (3, 196)] rfl w h
set_option maxRecDepth 20000 in
theorem in_wsL_law_r35 : ∀ w ∈ wsL_law_r35, w ∈ lw_tbl := fun w h => memCh wsL_law_r35 [(3, 197), (3, 199), (0, 18), (3, 200), (3, 201), (3, 203), (3, 205), (0, 19), (3, 206), (3, 208), (3, 209), (3, 210), (3, 211), (3, 212), (3, 213), (3, 215), (0, 20), (3, 216), (3, 217), (3, 218), (3, 219), (3, 220), (3, 221), (3, 223)] rfl w h
set_option maxRecDepth 20000 in
theorem in_wsL_law_r36 : ∀ w ∈ wsL_law_r36, w ∈ lw_tbl := fun w h => memCh wsL_law_r36 [(0, 21), (3, 224), (3, 225), (3, 227), (0, 22), (3, 228), (6, 216), (6, 217), (6, 218), (6, 219), (6, 220), (6, 222), (0, 68), (6, 223), (6, 224), (6, 226), (0, 69), (6, 227), (6, 228), (6, 230), (0, 70), (6, 231), (3, 229), (3, 230)] rfl w h
set_option maxRecDepth 20000 in
theorem in_wsL_law_r37 : ∀ w ∈ wsL_law_r37, w ∈ lw_tbl := fun w h => memCh wsL_law_r37 [(3, 231), (3, 232), (3, 233), (3, 234), (3, 235), (3, 236), (3, 237), (3, 239), (0, 23), (4, 0), (4, 1), (4, 2), (4, 3), (4, 4), (6, 232), (6, 233), (6, 234), (6, 235), (6, 236), (6, 237), (6, 239), (0, 71), (7, 0), (4, 5)] rfl w h
set_option maxRecDepth 20000 in
theorem in_wsL_law_r38 : ∀ w ∈ wsL_law_r38, w ∈ lw_tbl := fun w h => memCh wsL_law_r38 [(4, 6), (4, 7), (4, 8), (4, 9), (4, 10), (4, 11), (4, 12), (7, 1), (7, 2), (7, 3), (7, 4), (5, 26), (4, 13), (4, 14), (4, 15), (4, 16), (4, 17), (4, 18), (4, 19), (4, 20), (4, 21), (4, 23), (0, 24), (4, 24)] rfl w h
set_option maxRecDepth 20000 in
theorem in_wsL_law_r39 : ∀ w ∈ wsL_law_r39, w ∈ lw_tbl := fun w h => memCh wsL_law_r39 [(4, 27), (4, 28), (4, 29), (4, 30), (4, 31), (7, 5), (7, 6), (7, 7), (7, 8), (7, 9), (7, 10), (7, 11), (7, 12), (7, 13), (7, 14), (7, 15), (7, 16), (7, 18), (0, 72), (7, 19), (7, 20), (7, 22), (0, 73), (7, 23)] rfl w h
set_option maxRecDepth 20000 in
theorem in_wsL_law_r40 : ∀ w ∈ wsL_law_r40, w ∈ lw_tbl := fun w h => memCh wsL_law_r40 [(7, 24), (7, 26), (0, 74), (7, 27), (7, 28), (7, 30), (0, 75), (7, 31), (7, 32), (7, 34), (0, 76), (7, 35), (4, 32), (4, 33), (4, 34), (4, 35), (4, 36), (4, 37), (4, 38), (4, 39), (4, 40), (7, 36), (7, 37), (7, 38)] rfl w h
set_option maxRecDepth 20000 in
theorem in_wsL_law_r41 : ∀ w ∈ wsL_law_r41, w ∈ lw_tbl := fun w h => memCh wsL_law_r41 [(7, 39), (4, 41), (4, 42), (4, 43), (4, 44), (4, 45), (4, 46), (4, 47), (4, 48), (4, 49), (4, 51), (0, 25), (4, 52), (4, 53), (7, 40), (7, 41), (7, 42), (7, 43), (4, 54), (4, 55), (4, 56), (4, 57), (4, 58), (4, 59)] rfl w h
set_option maxRecDepth 20000 in
theorem in_wsL_law_r42 : ∀ w ∈ wsL_law_r42, w ∈ lw_tbl := fun w h => memCh wsL_law_r42 [(4, 60), (4, 61), (4, 62), (7, 44), (7, 45), (7, 46), (7, 47), (5, 27), (7, 48), (4, 63), (4, 64), (4, 65), (4, 66), (1, 183), (4, 67), (4, 68), (4, 69), (4, 70), (4, 71), (4, 72), (4, 73), (4, 74), (7, 49), (7, 50)] rfl w h
set_option maxRecDepth 20000 in
theorem in_wsL_law_r43 : ∀ w ∈ wsL_law_r43, w ∈ lw_tbl := fun w h => memCh wsL_law_r43 [(7, 51), (7, 52), (7, 57), (7, 53), (7, 54), (7, 55), (7, 56), (7, 58), (7, 60), (0, 77), (7, 61), (4, 76), (4, 77), (4, 78), (4, 79), (1, 185), (1, 187), (1, 189), (4, 80), (4, 82), (0, 26), (4, 83), (4, 84), (4, 85)] rfl w h
set_option maxRecDepth 20000 in
theorem in_wsL_law_r44 : ∀ w ∈ wsL_law_r44, w ∈ lw_tbl := fun w h => memCh wsL_law_r44 [(4, 86), (4, 87), (4, 88), (7, 62), (7, 63), (7, 64), (7, 65), (5, 82), (5, 83), (5, 84), (7, 66), (7, 68), (0, 78), (7, 69), (7, 70), (7, 72), (0, 79), (7, 73), (4, 89), (4, 90), (4, 91), (4, 92), (4, 93), (4, 94)] rfl w h
set_option maxRecDepth 20000 in
theorem in_wsL_law_r45 : ∀ w ∈ wsL_law_r45, w ∈ lw_tbl := fun w h => memCh wsL_law_r45 [(4, 95), (4, 96), (4, 97), (7, 74), (7, 75), (7, 76), (7, 77), (7, 78), (7, 80), (0, 80), (7, 81), (4, 98), (4, 99), (4, 100), (4, 101), (4, 102), (4, 103), (4, 104), (4, 105), (4, 106), (7, 82), (7, 83), (7, 84), (7, 85)] rfl w h
set_option maxRecDepth 20000 in
theorem in_wsL_law_r46 : ∀ w ∈ wsL_law_r46, w ∈ lw_tbl := fun w h => memCh wsL_law_r46 [(4, 107), (4, 108), (4, 109), (4, 110), (4, 111), (4, 112), (4, 113), (4, 114), (7, 86), (7, 87), (7, 88), (7, 89), (4, 115), (4, 116), (4, 117), (4, 118), (4, 119), (4, 120), (4, 121), (4, 122), (4, 123), (4, 124), (7, 90), (7, 91)] rfl w h
set_option maxRecDepth 20000 in
theorem in_wsL_law_r47 : ∀ w ∈ wsL_law_r47, w ∈ lw_tbl := fun w h => memCh wsL_law_r47 [(7, 92), (7, 93), (5, 28), (7, 94), (7, 95), (4, 125), (4, 126), (4, 127), (4, 128), (1, 219), (4, 134), (4, 129), (4, 130), (4, 131), (4, 132), (4, 135), (4, 136), (4, 137), (4, 138), (1, 92), (4, 139), (7, 96), (7, 97), (7, 98)] rfl w h
set_option maxRecDepth 20000 in
theorem in_wsL_law_r48 : ∀ w ∈ wsL_law_r48, w ∈ lw_tbl := fun w h => memCh wsL_law_r48 [(7, 99), (7, 112), (7, 100), (7, 102), (0, 81), (7, 103), (7, 104), (7, 106), (0, 82), (7, 107), (7, 108), (7, 110), (0, 83), (7, 111), (4, 140), (4, 141), (4, 142), (4, 143), (4, 144), (4, 145), (4, 146), (4, 147), (4, 148), (4, 149)] rfl w h
set_option maxRecDepth 20000 in
theorem in_wsL_law_r49 : ∀ w ∈ wsL_law_r49, w ∈ lw_tbl := fun w h => memCh wsL_law_r49 [(4, 150), (4, 152), (4, 153), (4, 154), (4, 151), (7, 113), (7, 114), (7, 115), (7, 116), (7, 117), (7, 118), (7, 119), (7, 120), (7, 122), (0, 84), (7, 123), (4, 155), (4, 156), (4, 157), (4, 158), (4, 159), (4, 160), (4, 161), (4, 162)] rfl w h
set_option maxRecDepth 20000 in
theorem in_wsL_law_r50 : ∀ w ∈ wsL_law_r50, w ∈ lw_tbl := fun w h => memCh wsL_law_r50 [(4, 163), (7, 124), (7, 125), (7, 126), (7, 127), (4, 164), (4, 165), (4, 166), (4, 167), (4, 168), (4, 169), (4, 170), (4, 171), (4, 181), (4, 172), (4, 174), (0, 27), (4, 175), (4, 179), (4, 180), (4, 176), (4, 177), (4, 178), (7, 128)] rfl w h
set_option maxRecDepth 20000 in
theorem in_wsL_law_r51 : ∀ w ∈ wsL_law_r51, w ∈ lw_tbl := fun w h => memCh wsL_law_r51 [(7, 129), (7, 130), (7, 131), (7, 132), (7, 133), (7, 134), (7, 136), (0, 85), (7, 137), (7, 138), (7, 139), (7, 140), (4, 182), (4, 183), (4, 184), (4, 185), (2, 0), (7, 141), (7, 142), (7, 143), (7, 144), (7, 145), (7, 146), (4, 186)] rfl w h
set_option maxRecDepth 20000 in
theorem in_wsL_law_r52 : ∀ w ∈ wsL_law_r52, w ∈ lw_tbl := fun w h => memCh wsL_law_r52 [(4, 187), (4, 188), (4, 189), (2, 5), (2, 2), (4, 190), (4, 191), (4, 192), (4, 193), (4, 202), (4, 194), (4, 196), (0, 28), (4, 197), (4, 198), (4, 200), (0, 29), (4, 201), (4, 203), (4, 205), (0, 30), (4, 206), (7, 147), (7, 148)] rfl w h
set_option maxRecDepth 20000 in
theorem in_wsL_law_r53 : ∀ w ∈ wsL_law_r53, w ∈ lw_tbl := fun w h => memCh wsL_law_r53 [(7, 149), (7, 150), (7, 151), (7, 152), (7, 154), (0, 86), (7, 155), (4, 207), (4, 208), (4, 209), (4, 210), (4, 214), (4, 211), (4, 212), (4, 213), (4, 215), (4, 216), (4, 217), (4, 218), (4, 219), (4, 220), (4, 221), (4, 222), (4, 223)] rfl w h
set_option maxRecDepth 20000 in
theorem in_wsL_law_r54 : ∀ w ∈ wsL_law_r54, w ∈ lw_tbl := fun w h => memCh wsL_law_r54 [(4, 224), (4, 225), (4, 226), (4, 227), (7, 156), (7, 157), (7, 158), (7, 159), (7, 164), (7, 165), (7, 160), (7, 161), (7, 162), (7, 163), (7, 166), (7, 167), (7, 168), (7, 169), (7, 170), (7, 171), (7, 172), (7, 173), (7, 174), (4, 228)] rfl w h
set_option maxRecDepth 20000 in
theorem in_wsL_law_r55 : ∀ w ∈ wsL_law_r55, w ∈ lw_tbl := fun w h => memCh wsL_law_r55 [(4, 229), (4, 230), (4, 231), (4, 232), (7, 175), (7, 176), (7, 177), (7, 178), (4, 233), (4, 234), (4, 235), (4, 236), (4, 237), (4, 238), (4, 239), (5, 0), (5, 1), (5, 2), (5, 3), (5, 4), (7, 179), (7, 180), (7, 181), (7, 182)] rfl w h
set_option maxRecDepth 20000 in
theorem in_wsL_law_r56 : ∀ w ∈ wsL_law_r56, w ∈ lw_tbl := fun w h => memCh wsL_law_r56 [(7, 183), (7, 185), (0, 87), (7, 186), (5, 5), (5, 6), (5, 7), (5, 8), (1, 162), (5, 9), (5, 11), (0, 31), (5, 12), (5, 13), (5, 14), (5, 15), (7, 187), (7, 188), (7, 189), (7, 190)] rfl w h
set_option maxRecDepth 20000 in
theorem in_wsX110 : ∀ w ∈ wsX110, w ∈ lw_tbl := fun w h => memCh wsX110 [(2, 24), (2, 26), (2, 28), (2, 30), (2, 32), (2, 34), (2, 36), (2, 38), (2, 40)] rfl w h
set_option maxRecDepth 20000 in
theorem in_wsX120 : ∀ w ∈ wsX120, w ∈ lw_tbl := fun w h => memCh wsX120 [(5, 89), (5, 91), (5, 93), (5, 95), (5, 97), (5, 99), (5, 101), (5, 103), (5, 105), (5, 107), (5, 109), (5, 111), (5, 113), (5, 115), (5, 117), (5, 119), (5, 121), (5, 123), (5, 125), (5, 127), (5, 129), (5, 131), (5, 133), (5, 135), (5, 137), (5, 139), (5, 141), (5, 143), (5, 145), (5, 147), (5, 149), (5, 151), (5, 153), (5, 155), (5, 157), (5, 159), (5, 161), (5, 163), (5, 165), (5, 167), (5, 169), (5, 171), (5, 173), (5, 175), (5, 177), (5, 179), (5, 181), (5, 183), (5, 185), (5, 187), (5, 189), (5, 191), (5, 193), (5, 195), (5, 197), (5, 199), (5, 201), (5, 203), (5, 205), (5, 207), (5, 209), (5, 211), (5, 213), (5, 215), (5, 217), (5, 219), (5, 221)] rfl w h
set_option maxRecDepth 20000 in
theorem in_wsX90 : ∀ w ∈ wsX90, w ∈ lw_tbl := fun w h => memCh wsX90 [(1, 40), (1, 42)] rfl w h
set_option maxRecDepth 20000 in
theorem in_wsX60 : ∀ w ∈ wsX60, w ∈ lw_tbl := fun w h => memCh wsX60 [(1, 60), (1, 62), (1, 64), (1, 66), (1, 68), (1, 70), (1, 72), (1, 74)] rfl w h
set_option maxRecDepth 20000 in
theorem in_wsX70 : ∀ w ∈ wsX70, w ∈ lw_tbl := fun w h => memCh wsX70 [(1, 107), (1, 109), (1, 111), (1, 113)] rfl w h
set_option maxRecDepth 20000 in
theorem in_wsX40 : ∀ w ∈ wsX40, w ∈ lw_tbl := fun w h => memCh wsX40 [(1, 134), (1, 136), (1, 138), (1, 140), (1, 142), (1, 144), (1, 146)] rfl w h
set_option maxRecDepth 20000 in
theorem in_wsX30 : ∀ w ∈ wsX30, w ∈ lw_tbl := fun w h => memCh wsX30 [(1, 163), (1, 165), (1, 167), (1, 169), (1, 171)] rfl w h
set_option maxRecDepth 20000 in
theorem in_wsX00 : ∀ w ∈ wsX00, w ∈ lw_tbl := fun w h => memCh wsX00 [(1, 190), (1, 192), (1, 194), (1, 196), (1, 198), (1, 200)] rfl w h
set_option maxRecDepth 20000 in
theorem in_wsX20 : ∀ w ∈ wsX20, w ∈ lw_tbl := fun w h => memCh wsX20 [(1, 220), (1, 222), (1, 224), (1, 226), (1, 228), (1, 230)] rfl w h
set_option maxRecDepth 20000 in
theorem in_wsX10 : ∀ w ∈ wsX10, w ∈ lw_tbl := fun w h => memCh wsX10 [(2, 6), (2, 8), (2, 10), (2, 12)] rfl w h
set_option maxRecDepth 20000 in
theorem in_wsX50 : ∀ w ∈ wsX50, w ∈ lw_tbl := fun w h => memCh wsX50 [(1, 96), (1, 98)] rfl w h
set_option maxRecDepth 20000 in
theorem in_wsX80 : ∀ w ∈ wsX80, w ∈ lw_tbl := fun w h => memCh wsX80 [(2, 80), (2, 82), (2, 84), (2, 86), (2, 88), (2, 90), (2, 92)] rfl w h
set_option maxRecDepth 20000 in
theorem in_wsX100 : ∀ w ∈ wsX100, w ∈ lw_tbl := fun w h => memCh wsX100 [(3, 63), (3, 65), (3, 67), (3, 69)] rfl w h
theorem wsL_law_in : ∀ w ∈ wsL_law, w ∈ lw_tbl := (List.forall_mem_append.mpr ⟨(List.forall_mem_append.mpr ⟨(List.forall_mem_append.mpr ⟨(List.forall_mem_append.mpr ⟨(List.forall_mem_append.mpr ⟨(List.forall_mem_append.mpr ⟨(List.forall_mem_append.mpr ⟨(List.forall_mem_append.mpr ⟨(List.forall_mem_append.mpr ⟨(List.forall_mem_append.mpr ⟨(List.forall_mem_append.mpr ⟨(List.forall_mem_append.mpr ⟨(List.forall_mem_append.mpr ⟨(List.forall_mem_append.mpr ⟨(List.forall_mem_append.mpr ⟨in_wsL_law_r1, (List.forall_mem_append.mpr ⟨in_wsL_law_r2, (List.forall_mem_append.mpr ⟨in_wsL_law_r3, (List.forall_mem_append.mpr ⟨in_wsL_law_r4, (List.forall_mem_append.mpr ⟨in_wsL_law_r5, (List.forall_mem_append.mpr ⟨in_wsL_law_r6, (List.forall_mem_append.mpr ⟨in_wsL_law_r7, (List.forall_mem_append.mpr ⟨in_wsL_law_r8, (List.forall_mem_append.mpr ⟨in_wsL_law_r9, (List.forall_mem_append.mpr ⟨in_wsL_law_r10, (List.forall_mem_append.mpr ⟨in_wsL_law_r11, (List.forall_mem_append.mpr ⟨in_wsL_law_r12, (List.forall_mem_append.mpr ⟨in_wsL_law_r13, (List.forall_mem_append.mpr ⟨in_wsL_law_r14, (List.forall_mem_append.mpr ⟨in_wsL_law_r15, (List.forall_mem_append.mpr ⟨in_wsL_law_r16, (List.forall_mem_append.mpr ⟨in_wsL_law_r17, (List.forall_mem_append.mpr ⟨in_wsL_law_r18, (List.forall_mem_append.mpr ⟨in_wsL_law_r19, (List.forall_mem_append.mpr ⟨in_wsL_law_r20, (List.forall_mem_append.mpr ⟨in_wsL_law_r21, (List.forall_mem_append.mpr ⟨in_wsL_law_r22, (List.forall_mem_append.mpr ⟨in_wsL_law_r23, (List.forall_mem_append.mpr ⟨in_wsL_law_r24, (List.forall_mem_append.mpr ⟨in_wsL_law_r25, (List.forall_mem_append.mpr ⟨in_wsL_law_r26, (List.forall_mem_append.mpr ⟨in_wsL_law_r27, (List.forall_mem_append.mpr ⟨in_wsL_law_r28, (List.forall_mem_append.mpr ⟨in_wsL_law_r29, (List.forall_mem_append.mpr ⟨in_wsL_law_r30, (List.forall_mem_append.mpr ⟨in_wsL_law_r31, (List.forall_mem_append.mpr ⟨in_wsL_law_r32, (List.forall_mem_append.mpr ⟨in_wsL_law_r33, (List.forall_mem_append.mpr ⟨in_wsL_law_r34, (List.forall_mem_append.mpr ⟨in_wsL_law_r35, (List.forall_mem_append.mpr ⟨in_wsL_law_r36, (List.forall_mem_append.mpr ⟨in_wsL_law_r37, (List.forall_mem_append.mpr ⟨in_wsL_law_r38, (List.forall_mem_append.mpr ⟨in_wsL_law_r39, (List.forall_mem_append.mpr ⟨in_wsL_law_r40, (List.forall_mem_append.mpr ⟨in_wsL_law_r41, (List.forall_mem_append.mpr ⟨in_wsL_law_r42, (List.forall_mem_append.mpr ⟨in_wsL_law_r43, (List.forall_mem_append.mpr ⟨in_wsL_law_r44, (List.forall_mem_append.mpr ⟨in_wsL_law_r45, (List.forall_mem_append.mpr ⟨in_wsL_law_r46, (List.forall_mem_append.mpr ⟨in_wsL_law_r47, (List.forall_mem_append.mpr ⟨in_wsL_law_r48, (List.forall_mem_append.mpr ⟨in_wsL_law_r49, (List.forall_mem_append.mpr ⟨in_wsL_law_r50, (List.forall_mem_append.mpr ⟨in_wsL_law_r51, (List.forall_mem_append.mpr ⟨in_wsL_law_r52, (List.forall_mem_append.mpr ⟨in_wsL_law_r53, (List.forall_mem_append.mpr ⟨in_wsL_law_r54, (List.forall_mem_append.mpr ⟨in_wsL_law_r55, in_wsL_law_r56⟩)⟩)⟩)⟩)⟩)⟩)⟩)⟩)⟩)⟩)⟩)⟩)⟩)⟩)⟩)⟩)⟩)⟩)⟩)⟩)⟩)⟩)⟩)⟩)⟩)⟩)⟩)⟩)⟩)⟩)⟩)⟩)⟩)⟩)⟩)⟩)⟩)⟩)⟩)⟩)⟩)⟩)⟩)⟩)⟩)⟩)⟩)⟩)⟩)⟩)⟩)⟩)⟩)⟩)⟩), in_wsX110⟩), in_wsX120⟩), in_wsX90⟩), in_wsX60⟩), in_wsX70⟩), in_wsX40⟩), in_wsX30⟩), in_wsX00⟩), in_wsX20⟩), in_wsX10⟩), in_wsX50⟩), in_wsX80⟩), in_wsX100⟩), fun _ h => absurd h List.not_mem_nil⟩)
theorem inlX0 : ∀ w ∈ wsX00, w ∈ wsL_law := fun _ h => List.mem_append_left _ (List.mem_append_left _ (List.mem_append_left _ (List.mem_append_left _ (List.mem_append_left _ (List.mem_append_left _ (List.mem_append_right _ h))))))
theorem inlX1 : ∀ w ∈ wsX10, w ∈ wsL_law := fun _ h => List.mem_append_left _ (List.mem_append_left _ (List.mem_append_left _ (List.mem_append_left _ (List.mem_append_right _ h))))
theorem inlX2 : ∀ w ∈ wsX20, w ∈ wsL_law := fun _ h => List.mem_append_left _ (List.mem_append_left _ (List.mem_append_left _ (List.mem_append_left _ (List.mem_append_left _ (List.mem_append_right _ h)))))
theorem inlX3 : ∀ w ∈ wsX30, w ∈ wsL_law := fun _ h => List.mem_append_left _ (List.mem_append_left _ (List.mem_append_left _ (List.mem_append_left _ (List.mem_append_left _ (List.mem_append_left _ (List.mem_append_left _ (List.mem_append_right _ h)))))))
theorem inlX4 : ∀ w ∈ wsX40, w ∈ wsL_law := fun _ h => List.mem_append_left _ (List.mem_append_left _ (List.mem_append_left _ (List.mem_append_left _ (List.mem_append_left _ (List.mem_append_left _ (List.mem_append_left _ (List.mem_append_left _ (List.mem_append_right _ h))))))))
theorem inlX5 : ∀ w ∈ wsX50, w ∈ wsL_law := fun _ h => List.mem_append_left _ (List.mem_append_left _ (List.mem_append_left _ (List.mem_append_right _ h)))
theorem inlX6 : ∀ w ∈ wsX60, w ∈ wsL_law := fun _ h => List.mem_append_left _ (List.mem_append_left _ (List.mem_append_left _ (List.mem_append_left _ (List.mem_append_left _ (List.mem_append_left _ (List.mem_append_left _ (List.mem_append_left _ (List.mem_append_left _ (List.mem_append_left _ (List.mem_append_right _ h))))))))))
theorem inlX7 : ∀ w ∈ wsX70, w ∈ wsL_law := fun _ h => List.mem_append_left _ (List.mem_append_left _ (List.mem_append_left _ (List.mem_append_left _ (List.mem_append_left _ (List.mem_append_left _ (List.mem_append_left _ (List.mem_append_left _ (List.mem_append_left _ (List.mem_append_right _ h)))))))))
theorem inlX8 : ∀ w ∈ wsX80, w ∈ wsL_law := fun _ h => List.mem_append_left _ (List.mem_append_left _ (List.mem_append_right _ h))
theorem inlX9 : ∀ w ∈ wsX90, w ∈ wsL_law := fun _ h => List.mem_append_left _ (List.mem_append_left _ (List.mem_append_left _ (List.mem_append_left _ (List.mem_append_left _ (List.mem_append_left _ (List.mem_append_left _ (List.mem_append_left _ (List.mem_append_left _ (List.mem_append_left _ (List.mem_append_left _ (List.mem_append_right _ h)))))))))))
theorem inlX10 : ∀ w ∈ wsX100, w ∈ wsL_law := fun _ h => List.mem_append_left _ (List.mem_append_right _ h)
theorem inlX11 : ∀ w ∈ wsX110, w ∈ wsL_law := fun _ h => List.mem_append_left _ (List.mem_append_left _ (List.mem_append_left _ (List.mem_append_left _ (List.mem_append_left _ (List.mem_append_left _ (List.mem_append_left _ (List.mem_append_left _ (List.mem_append_left _ (List.mem_append_left _ (List.mem_append_left _ (List.mem_append_left _ (List.mem_append_left _ (List.mem_append_right _ h)))))))))))))
theorem inlX12 : ∀ w ∈ wsX120, w ∈ wsL_law := fun _ h => List.mem_append_left _ (List.mem_append_left _ (List.mem_append_left _ (List.mem_append_left _ (List.mem_append_left _ (List.mem_append_left _ (List.mem_append_left _ (List.mem_append_left _ (List.mem_append_left _ (List.mem_append_left _ (List.mem_append_left _ (List.mem_append_left _ (List.mem_append_right _ h))))))))))))
abbrev vwCl : List vw_C := [(RX0, TX0, 6), (RX1, TX1, 4), (RX2, TX2, 6), (RX3, TX3, 5), (RX4, TX4, 7), (RX5, TX5, 2), (RX6, TX6, 8), (RX7, TX7, 4), (RX8, TX8, 7), (RX9, TX9, 2), (RX10, TX10, 4), (RX11, TX11, 9), (RX12, TX12, 67)]
