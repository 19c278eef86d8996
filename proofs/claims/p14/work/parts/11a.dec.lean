theorem dX0_add_0 : decode cX0_add 0 = .ok (.aload_n 0, 1) := by decide +kernel
theorem dX0_add_1 : decode cX0_add 1 = .ok (.getfield 18, 3) := by decide +kernel
theorem dX0_add_4 : decode cX0_add 4 = .ok (.bipush 40, 2) := by decide +kernel
theorem dX0_add_6 : decode cX0_add 6 = .ok (.if_icmp .ge 25, 3) := by decide +kernel
theorem dX0_add_9 : decode cX0_add 9 = .ok (.aload_n 0, 1) := by decide +kernel
theorem dX0_add_10 : decode cX0_add 10 = .ok (.getfield 18, 3) := by decide +kernel
theorem dX0_add_13 : decode cX0_add 13 = .ok (.ifCond .le 20, 3) := by decide +kernel
theorem dX0_add_16 : decode cX0_add 16 = .ok (.iload_n 1, 1) := by decide +kernel
theorem dX0_add_17 : decode cX0_add 17 = .ok (.aload_n 0, 1) := by decide +kernel
theorem dX0_add_18 : decode cX0_add 18 = .ok (.getfield 9, 3) := by decide +kernel
theorem dX0_add_21 : decode cX0_add 21 = .ok (.aload_n 0, 1) := by decide +kernel
theorem dX0_add_22 : decode cX0_add 22 = .ok (.getfield 18, 3) := by decide +kernel
theorem dX0_add_25 : decode cX0_add 25 = .ok (.iconst 1, 1) := by decide +kernel
theorem dX0_add_26 : decode cX0_add 26 = .ok (.isub, 1) := by decide +kernel
theorem dX0_add_27 : decode cX0_add 27 = .ok (.iaload, 1) := by decide +kernel
theorem dX0_add_28 : decode cX0_add 28 = .ok (.if_icmp .gt 5, 3) := by decide +kernel
theorem dX0_add_31 : decode cX0_add 31 = .ok (.iconst (-1), 1) := by decide +kernel
theorem dX0_add_32 : decode cX0_add 32 = .ok (.ireturn, 1) := by decide +kernel
theorem dX0_add_33 : decode cX0_add 33 = .ok (.aload_n 0, 1) := by decide +kernel
theorem dX0_add_34 : decode cX0_add 34 = .ok (.getfield 9, 3) := by decide +kernel
theorem dX0_add_37 : decode cX0_add 37 = .ok (.aload_n 0, 1) := by decide +kernel
theorem dX0_add_38 : decode cX0_add 38 = .ok (.getfield 18, 3) := by decide +kernel
theorem dX0_add_41 : decode cX0_add 41 = .ok (.iload_n 1, 1) := by decide +kernel
theorem dX0_add_42 : decode cX0_add 42 = .ok (.iastore, 1) := by decide +kernel
theorem dX0_add_43 : decode cX0_add 43 = .ok (.aload_n 0, 1) := by decide +kernel
theorem dX0_add_44 : decode cX0_add 44 = .ok (.dup, 1) := by decide +kernel
theorem dX0_add_45 : decode cX0_add 45 = .ok (.getfield 18, 3) := by decide +kernel
theorem dX0_add_48 : decode cX0_add 48 = .ok (.iconst 1, 1) := by decide +kernel
theorem dX0_add_49 : decode cX0_add 49 = .ok (.iadd, 1) := by decide +kernel
theorem dX0_add_50 : decode cX0_add 50 = .ok (.putfield 18, 3) := by decide +kernel
theorem dX0_add_53 : decode cX0_add 53 = .ok (.aload_n 0, 1) := by decide +kernel
theorem dX0_add_54 : decode cX0_add 54 = .ok (.getfield 18, 3) := by decide +kernel
theorem dX0_add_57 : decode cX0_add 57 = .ok (.iconst 1, 1) := by decide +kernel
theorem dX0_add_58 : decode cX0_add 58 = .ok (.isub, 1) := by decide +kernel
theorem dX0_add_59 : decode cX0_add 59 = .ok (.ireturn, 1) := by decide +kernel
theorem dX0_fitTo_0 : decode cX0_fitTo 0 = .ok (.iload_n 1, 1) := by decide +kernel
theorem dX0_fitTo_1 : decode cX0_fitTo 1 = .ok (.iconst 1, 1) := by decide +kernel
theorem dX0_fitTo_2 : decode cX0_fitTo 2 = .ok (.if_icmp .ge 5, 3) := by decide +kernel
theorem dX0_fitTo_5 : decode cX0_fitTo 5 = .ok (.iconst 0, 1) := by decide +kernel
theorem dX0_fitTo_6 : decode cX0_fitTo 6 = .ok (.ireturn, 1) := by decide +kernel
theorem dX0_fitTo_7 : decode cX0_fitTo 7 = .ok (.iconst 0, 1) := by decide +kernel
theorem dX0_fitTo_8 : decode cX0_fitTo 8 = .ok (.istore_n 3, 1) := by decide +kernel
theorem dX0_fitTo_9 : decode cX0_fitTo 9 = .ok (.iload_n 3, 1) := by decide +kernel
theorem dX0_fitTo_10 : decode cX0_fitTo 10 = .ok (.aload_n 0, 1) := by decide +kernel
theorem dX0_fitTo_11 : decode cX0_fitTo 11 = .ok (.getfield 18, 3) := by decide +kernel
theorem dX0_fitTo_14 : decode cX0_fitTo 14 = .ok (.if_icmp .ge 23, 3) := by decide +kernel
theorem dX0_fitTo_17 : decode cX0_fitTo 17 = .ok (.aload_n 0, 1) := by decide +kernel
theorem dX0_fitTo_18 : decode cX0_fitTo 18 = .ok (.getfield 15, 3) := by decide +kernel
theorem dX0_fitTo_21 : decode cX0_fitTo 21 = .ok (.iload_n 3, 1) := by decide +kernel
theorem dX0_fitTo_22 : decode cX0_fitTo 22 = .ok (.aload_n 0, 1) := by decide +kernel
theorem dX0_fitTo_23 : decode cX0_fitTo 23 = .ok (.getfield 9, 3) := by decide +kernel
theorem dX0_fitTo_26 : decode cX0_fitTo 26 = .ok (.iload_n 3, 1) := by decide +kernel
theorem dX0_fitTo_27 : decode cX0_fitTo 27 = .ok (.iaload, 1) := by decide +kernel
theorem dX0_fitTo_28 : decode cX0_fitTo 28 = .ok (.iload_n 1, 1) := by decide +kernel
theorem dX0_fitTo_29 : decode cX0_fitTo 29 = .ok (.irem, 1) := by decide +kernel
theorem dX0_fitTo_30 : decode cX0_fitTo 30 = .ok (.iastore, 1) := by decide +kernel
theorem dX0_fitTo_31 : decode cX0_fitTo 31 = .ok (.iinc 3 1, 3) := by decide +kernel
theorem dX0_fitTo_34 : decode cX0_fitTo 34 = .ok (.goto (-25), 3) := by decide +kernel
theorem dX0_fitTo_37 : decode cX0_fitTo 37 = .ok (.aload_n 0, 1) := by decide +kernel
theorem dX0_fitTo_38 : decode cX0_fitTo 38 = .ok (.getfield 15, 3) := by decide +kernel
theorem dX0_fitTo_41 : decode cX0_fitTo 41 = .ok (.aload_n 0, 1) := by decide +kernel
theorem dX0_fitTo_42 : decode cX0_fitTo 42 = .ok (.getfield 18, 3) := by decide +kernel
theorem dX0_fitTo_45 : decode cX0_fitTo 45 = .ok (.iload_n 1, 1) := by decide +kernel
theorem dX0_fitTo_46 : decode cX0_fitTo 46 = .ok (.iconst 2, 1) := by decide +kernel
theorem dX0_fitTo_47 : decode cX0_fitTo 47 = .ok (.iload_n 2, 1) := by decide +kernel
theorem dX0_fitTo_48 : decode cX0_fitTo 48 = .ok (.imul, 1) := by decide +kernel
theorem dX0_fitTo_49 : decode cX0_fitTo 49 = .ok (.invokestatic 31, 3) := by decide +kernel
theorem dX0_fitTo_52 : decode cX0_fitTo 52 = .ok (.ireturn, 1) := by decide +kernel
theorem dX0_scan_0 : decode cX0_scan 0 = .ok (.aload_n 0, 1) := by decide +kernel
theorem dX0_scan_1 : decode cX0_scan 1 = .ok (.iconst 0, 1) := by decide +kernel
theorem dX0_scan_2 : decode cX0_scan 2 = .ok (.putfield 22, 3) := by decide +kernel
theorem dX0_scan_5 : decode cX0_scan 5 = .ok (.aload_n 0, 1) := by decide +kernel
theorem dX0_scan_6 : decode cX0_scan 6 = .ok (.iconst (-1), 1) := by decide +kernel
theorem dX0_scan_7 : decode cX0_scan 7 = .ok (.putfield 25, 3) := by decide +kernel
theorem dX0_scan_10 : decode cX0_scan 10 = .ok (.aload_n 0, 1) := by decide +kernel
theorem dX0_scan_11 : decode cX0_scan 11 = .ok (.iconst (-1), 1) := by decide +kernel
theorem dX0_scan_12 : decode cX0_scan 12 = .ok (.putfield 28, 3) := by decide +kernel
theorem dX0_scan_15 : decode cX0_scan 15 = .ok (.iload_n 1, 1) := by decide +kernel
theorem dX0_scan_16 : decode cX0_scan 16 = .ok (.istore 4, 2) := by decide +kernel
theorem dX0_scan_18 : decode cX0_scan 18 = .ok (.iload 4, 2) := by decide +kernel
theorem dX0_scan_20 : decode cX0_scan 20 = .ok (.iload_n 2, 1) := by decide +kernel
theorem dX0_scan_21 : decode cX0_scan 21 = .ok (.if_icmp .gt 55, 3) := by decide +kernel
theorem dX0_scan_24 : decode cX0_scan 24 = .ok (.aload_n 0, 1) := by decide +kernel
theorem dX0_scan_25 : decode cX0_scan 25 = .ok (.iload 4, 2) := by decide +kernel
theorem dX0_scan_27 : decode cX0_scan 27 = .ok (.iload_n 3, 1) := by decide +kernel
theorem dX0_scan_28 : decode cX0_scan 28 = .ok (.invokevirtual 35, 3) := by decide +kernel
theorem dX0_scan_31 : decode cX0_scan 31 = .ok (.ifCond .eq 39, 3) := by decide +kernel
theorem dX0_scan_34 : decode cX0_scan 34 = .ok (.aload_n 0, 1) := by decide +kernel
theorem dX0_scan_35 : decode cX0_scan 35 = .ok (.aload_n 0, 1) := by decide +kernel
theorem dX0_scan_36 : decode cX0_scan 36 = .ok (.getfield 22, 3) := by decide +kernel
theorem dX0_scan_39 : decode cX0_scan 39 = .ok (.ifCond .ne 8, 3) := by decide +kernel
theorem dX0_scan_42 : decode cX0_scan 42 = .ok (.iload 4, 2) := by decide +kernel
theorem dX0_scan_44 : decode cX0_scan 44 = .ok (.goto 7, 3) := by decide +kernel
theorem dX0_scan_47 : decode cX0_scan 47 = .ok (.aload_n 0, 1) := by decide +kernel
theorem dX0_scan_48 : decode cX0_scan 48 = .ok (.getfield 25, 3) := by decide +kernel
theorem dX0_scan_51 : decode cX0_scan 51 = .ok (.putfield 25, 3) := by decide +kernel
theorem dX0_scan_54 : decode cX0_scan 54 = .ok (.aload_n 0, 1) := by decide +kernel
theorem dX0_scan_55 : decode cX0_scan 55 = .ok (.iload 4, 2) := by decide +kernel
theorem dX0_scan_57 : decode cX0_scan 57 = .ok (.putfield 28, 3) := by decide +kernel
theorem dX0_scan_60 : decode cX0_scan 60 = .ok (.aload_n 0, 1) := by decide +kernel
theorem dX0_scan_61 : decode cX0_scan 61 = .ok (.dup, 1) := by decide +kernel
theorem dX0_scan_62 : decode cX0_scan 62 = .ok (.getfield 22, 3) := by decide +kernel
theorem dX0_scan_65 : decode cX0_scan 65 = .ok (.iconst 1, 1) := by decide +kernel
theorem dX0_scan_66 : decode cX0_scan 66 = .ok (.iadd, 1) := by decide +kernel
theorem dX0_scan_67 : decode cX0_scan 67 = .ok (.putfield 22, 3) := by decide +kernel
theorem dX0_scan_70 : decode cX0_scan 70 = .ok (.iinc 4 1, 3) := by decide +kernel
theorem dX0_scan_73 : decode cX0_scan 73 = .ok (.goto (-55), 3) := by decide +kernel
theorem dX0_scan_76 : decode cX0_scan 76 = .ok (.return_, 1) := by decide +kernel
theorem dX0_beatsTo_0 : decode cX0_beatsTo 0 = .ok (.iload_n 2, 1) := by decide +kernel
theorem dX0_beatsTo_1 : decode cX0_beatsTo 1 = .ok (.iconst 1, 1) := by decide +kernel
theorem dX0_beatsTo_2 : decode cX0_beatsTo 2 = .ok (.if_icmp .ge 5, 3) := by decide +kernel
theorem dX0_beatsTo_5 : decode cX0_beatsTo 5 = .ok (.iconst (-1), 1) := by decide +kernel
theorem dX0_beatsTo_6 : decode cX0_beatsTo 6 = .ok (.ireturn, 1) := by decide +kernel
theorem dX0_beatsTo_7 : decode cX0_beatsTo 7 = .ok (.ldc2_w 39, 3) := by decide +kernel
theorem dX0_beatsTo_10 : decode cX0_beatsTo 10 = .ok (.aload_n 0, 1) := by decide +kernel
theorem dX0_beatsTo_11 : decode cX0_beatsTo 11 = .ok (.getfield 9, 3) := by decide +kernel
theorem dX0_beatsTo_14 : decode cX0_beatsTo 14 = .ok (.iload_n 1, 1) := by decide +kernel
theorem dX0_beatsTo_15 : decode cX0_beatsTo 15 = .ok (.iaload, 1) := by decide +kernel
theorem dX0_beatsTo_16 : decode cX0_beatsTo 16 = .ok (.aload_n 0, 1) := by decide +kernel
theorem dX0_beatsTo_17 : decode cX0_beatsTo 17 = .ok (.getfield 9, 3) := by decide +kernel
theorem dX0_beatsTo_20 : decode cX0_beatsTo 20 = .ok (.iconst 0, 1) := by decide +kernel
theorem dX0_beatsTo_21 : decode cX0_beatsTo 21 = .ok (.iaload, 1) := by decide +kernel
theorem dX0_beatsTo_22 : decode cX0_beatsTo 22 = .ok (.isub, 1) := by decide +kernel
theorem dX0_beatsTo_23 : decode cX0_beatsTo 23 = .ok (.i2l, 1) := by decide +kernel
theorem dX0_beatsTo_24 : decode cX0_beatsTo 24 = .ok (.lmul, 1) := by decide +kernel
theorem dX0_beatsTo_25 : decode cX0_beatsTo 25 = .ok (.lstore_n 3, 1) := by decide +kernel
theorem dX0_beatsTo_26 : decode cX0_beatsTo 26 = .ok (.lload_n 3, 1) := by decide +kernel
theorem dX0_beatsTo_27 : decode cX0_beatsTo 27 = .ok (.iload_n 2, 1) := by decide +kernel
theorem dX0_beatsTo_28 : decode cX0_beatsTo 28 = .ok (.i2l, 1) := by decide +kernel
theorem dX0_beatsTo_29 : decode cX0_beatsTo 29 = .ok (.ladd, 1) := by decide +kernel
theorem dX0_beatsTo_30 : decode cX0_beatsTo 30 = .ok (.ldc2_w 39, 3) := by decide +kernel
theorem dX0_beatsTo_33 : decode cX0_beatsTo 33 = .ok (.iload_n 2, 1) := by decide +kernel
theorem dX0_beatsTo_34 : decode cX0_beatsTo 34 = .ok (.i2l, 1) := by decide +kernel
theorem dX0_beatsTo_35 : decode cX0_beatsTo 35 = .ok (.lmul, 1) := by decide +kernel
theorem dX0_beatsTo_36 : decode cX0_beatsTo 36 = .ok (.ldiv, 1) := by decide +kernel
theorem dX0_beatsTo_37 : decode cX0_beatsTo 37 = .ok (.l2i, 1) := by decide +kernel
theorem dX0_beatsTo_38 : decode cX0_beatsTo 38 = .ok (.ireturn, 1) := by decide +kernel
theorem dX0_countAlike_0 : decode cX0_countAlike 0 = .ok (.iconst 0, 1) := by decide +kernel
theorem dX0_countAlike_1 : decode cX0_countAlike 1 = .ok (.istore_n 3, 1) := by decide +kernel
theorem dX0_countAlike_2 : decode cX0_countAlike 2 = .ok (.iload_n 3, 1) := by decide +kernel
theorem dX0_countAlike_3 : decode cX0_countAlike 3 = .ok (.aload_n 0, 1) := by decide +kernel
theorem dX0_countAlike_4 : decode cX0_countAlike 4 = .ok (.getfield 18, 3) := by decide +kernel
theorem dX0_countAlike_7 : decode cX0_countAlike 7 = .ok (.if_icmp .ge 26, 3) := by decide +kernel
theorem dX0_countAlike_10 : decode cX0_countAlike 10 = .ok (.aload_n 0, 1) := by decide +kernel
theorem dX0_countAlike_11 : decode cX0_countAlike 11 = .ok (.iload_n 3, 1) := by decide +kernel
theorem dX0_countAlike_12 : decode cX0_countAlike 12 = .ok (.iload_n 1, 1) := by decide +kernel
theorem dX0_countAlike_13 : decode cX0_countAlike 13 = .ok (.invokevirtual 41, 3) := by decide +kernel
theorem dX0_countAlike_16 : decode cX0_countAlike 16 = .ok (.aload_n 0, 1) := by decide +kernel
theorem dX0_countAlike_17 : decode cX0_countAlike 17 = .ok (.iload_n 3, 1) := by decide +kernel
theorem dX0_countAlike_18 : decode cX0_countAlike 18 = .ok (.iload_n 2, 1) := by decide +kernel
theorem dX0_countAlike_19 : decode cX0_countAlike 19 = .ok (.invokevirtual 41, 3) := by decide +kernel
theorem dX0_countAlike_22 : decode cX0_countAlike 22 = .ok (.if_icmp .eq 5, 3) := by decide +kernel
theorem dX0_countAlike_25 : decode cX0_countAlike 25 = .ok (.iconst 0, 1) := by decide +kernel
theorem dX0_countAlike_26 : decode cX0_countAlike 26 = .ok (.ireturn, 1) := by decide +kernel
theorem dX0_countAlike_27 : decode cX0_countAlike 27 = .ok (.iinc 3 1, 3) := by decide +kernel
theorem dX0_countAlike_30 : decode cX0_countAlike 30 = .ok (.goto (-28), 3) := by decide +kernel
theorem dX0_countAlike_33 : decode cX0_countAlike 33 = .ok (.iconst 1, 1) := by decide +kernel
theorem dX0_countAlike_34 : decode cX0_countAlike 34 = .ok (.ireturn, 1) := by decide +kernel
theorem dX0_beatsTillLost_0 : decode cX0_beatsTillLost 0 = .ok (.iconst 2, 1) := by decide +kernel
theorem dX0_beatsTillLost_1 : decode cX0_beatsTillLost 1 = .ok (.aload_n 0, 1) := by decide +kernel
theorem dX0_beatsTillLost_2 : decode cX0_beatsTillLost 2 = .ok (.getfield 28, 3) := by decide +kernel
theorem dX0_beatsTillLost_5 : decode cX0_beatsTillLost 5 = .ok (.aload_n 0, 1) := by decide +kernel
theorem dX0_beatsTillLost_6 : decode cX0_beatsTillLost 6 = .ok (.getfield 25, 3) := by decide +kernel
theorem dX0_beatsTillLost_9 : decode cX0_beatsTillLost 9 = .ok (.isub, 1) := by decide +kernel
theorem dX0_beatsTillLost_10 : decode cX0_beatsTillLost 10 = .ok (.imul, 1) := by decide +kernel
theorem dX0_beatsTillLost_11 : decode cX0_beatsTillLost 11 = .ok (.istore_n 1, 1) := by decide +kernel
theorem dX0_beatsTillLost_12 : decode cX0_beatsTillLost 12 = .ok (.iload_n 1, 1) := by decide +kernel
theorem dX0_beatsTillLost_13 : decode cX0_beatsTillLost 13 = .ok (.ifCond .gt 8, 3) := by decide +kernel
theorem dX0_beatsTillLost_16 : decode cX0_beatsTillLost 16 = .ok (.bipush (-2), 2) := by decide +kernel
theorem dX0_beatsTillLost_18 : decode cX0_beatsTillLost 18 = .ok (.goto 13, 3) := by decide +kernel
theorem dX0_beatsTillLost_21 : decode cX0_beatsTillLost 21 = .ok (.aload_n 0, 1) := by decide +kernel
theorem dX0_beatsTillLost_22 : decode cX0_beatsTillLost 22 = .ok (.getfield 25, 3) := by decide +kernel
theorem dX0_beatsTillLost_25 : decode cX0_beatsTillLost 25 = .ok (.iload_n 1, 1) := by decide +kernel
theorem dX0_beatsTillLost_26 : decode cX0_beatsTillLost 26 = .ok (.iadd, 1) := by decide +kernel
theorem dX0_beatsTillLost_27 : decode cX0_beatsTillLost 27 = .ok (.iconst 1, 1) := by decide +kernel
theorem dX0_beatsTillLost_28 : decode cX0_beatsTillLost 28 = .ok (.isub, 1) := by decide +kernel
theorem dX0_beatsTillLost_29 : decode cX0_beatsTillLost 29 = .ok (.iload_n 1, 1) := by decide +kernel
theorem dX0_beatsTillLost_30 : decode cX0_beatsTillLost 30 = .ok (.idiv, 1) := by decide +kernel
theorem dX0_beatsTillLost_31 : decode cX0_beatsTillLost 31 = .ok (.ireturn, 1) := by decide +kernel
theorem dX1_choose_0 : decode cX1_choose 0 = .ok (.aload_n 0, 1) := by decide +kernel
theorem dX1_choose_1 : decode cX1_choose 1 = .ok (.iload_n 1, 1) := by decide +kernel
theorem dX1_choose_2 : decode cX1_choose 2 = .ok (.iload_n 2, 1) := by decide +kernel
theorem dX1_choose_3 : decode cX1_choose 3 = .ok (.invokevirtual 25, 3) := by decide +kernel
theorem dX1_choose_6 : decode cX1_choose 6 = .ok (.aload_n 0, 1) := by decide +kernel
theorem dX1_choose_7 : decode cX1_choose 7 = .ok (.aload_n 0, 1) := by decide +kernel
theorem dX1_choose_8 : decode cX1_choose 8 = .ok (.getfield 18, 3) := by decide +kernel
theorem dX1_choose_11 : decode cX1_choose 11 = .ok (.iload_n 1, 1) := by decide +kernel
theorem dX1_choose_12 : decode cX1_choose 12 = .ok (.bipush 41, 2) := by decide +kernel
theorem dX1_choose_14 : decode cX1_choose 14 = .ok (.imul, 1) := by decide +kernel
theorem dX1_choose_15 : decode cX1_choose 15 = .ok (.iaload, 1) := by decide +kernel
theorem dX1_choose_16 : decode cX1_choose 16 = .ok (.putfield 21, 3) := by decide +kernel
theorem dX1_choose_19 : decode cX1_choose 19 = .ok (.iconst 1, 1) := by decide +kernel
theorem dX1_choose_20 : decode cX1_choose 20 = .ok (.istore_n 3, 1) := by decide +kernel
theorem dX1_choose_21 : decode cX1_choose 21 = .ok (.iconst 0, 1) := by decide +kernel
theorem dX1_choose_22 : decode cX1_choose 22 = .ok (.istore 4, 2) := by decide +kernel
theorem dX1_choose_24 : decode cX1_choose 24 = .ok (.iconst 0, 1) := by decide +kernel
theorem dX1_choose_25 : decode cX1_choose 25 = .ok (.istore 5, 2) := by decide +kernel
theorem dX1_choose_27 : decode cX1_choose 27 = .ok (.iload 5, 2) := by decide +kernel
theorem dX1_choose_29 : decode cX1_choose 29 = .ok (.iload_n 1, 1) := by decide +kernel
theorem dX1_choose_30 : decode cX1_choose 30 = .ok (.if_icmp .ge 76, 3) := by decide +kernel
theorem dX1_choose_33 : decode cX1_choose 33 = .ok (.iload_n 1, 1) := by decide +kernel
theorem dX1_choose_34 : decode cX1_choose 34 = .ok (.iload 5, 2) := by decide +kernel
theorem dX1_choose_36 : decode cX1_choose 36 = .ok (.isub, 1) := by decide +kernel
theorem dX1_choose_37 : decode cX1_choose 37 = .ok (.iconst 1, 1) := by decide +kernel
theorem dX1_choose_38 : decode cX1_choose 38 = .ok (.isub, 1) := by decide +kernel
theorem dX1_choose_39 : decode cX1_choose 39 = .ok (.istore 6, 2) := by decide +kernel
theorem dX1_choose_41 : decode cX1_choose 41 = .ok (.iload 4, 2) := by decide +kernel
theorem dX1_choose_43 : decode cX1_choose 43 = .ok (.bipush 39, 2) := by decide +kernel
theorem dX1_choose_45 : decode cX1_choose 45 = .ok (.if_icmp .ge 22, 3) := by decide +kernel
theorem dX1_choose_48 : decode cX1_choose 48 = .ok (.aload_n 0, 1) := by decide +kernel
theorem dX1_choose_49 : decode cX1_choose 49 = .ok (.iload_n 3, 1) := by decide +kernel
theorem dX1_choose_50 : decode cX1_choose 50 = .ok (.iload 4, 2) := by decide +kernel
theorem dX1_choose_52 : decode cX1_choose 52 = .ok (.iload 6, 2) := by decide +kernel
theorem dX1_choose_54 : decode cX1_choose 54 = .ok (.iload_n 2, 1) := by decide +kernel
theorem dX1_choose_55 : decode cX1_choose 55 = .ok (.invokevirtual 29, 3) := by decide +kernel
theorem dX1_choose_58 : decode cX1_choose 58 = .ok (.ifCond .ne 9, 3) := by decide +kernel
theorem dX1_choose_61 : decode cX1_choose 61 = .ok (.iinc 4 1, 3) := by decide +kernel
theorem dX1_choose_64 : decode cX1_choose 64 = .ok (.goto (-23), 3) := by decide +kernel
theorem dX1_choose_67 : decode cX1_choose 67 = .ok (.aload_n 0, 1) := by decide +kernel
theorem dX1_choose_68 : decode cX1_choose 68 = .ok (.getfield 15, 3) := by decide +kernel
theorem dX1_choose_71 : decode cX1_choose 71 = .ok (.iload 5, 2) := by decide +kernel
theorem dX1_choose_73 : decode cX1_choose 73 = .ok (.iload 4, 2) := by decide +kernel
theorem dX1_choose_75 : decode cX1_choose 75 = .ok (.iastore, 1) := by decide +kernel
theorem dX1_choose_76 : decode cX1_choose 76 = .ok (.iload_n 3, 1) := by decide +kernel
theorem dX1_choose_77 : decode cX1_choose 77 = .ok (.bipush 10, 2) := by decide +kernel
theorem dX1_choose_79 : decode cX1_choose 79 = .ok (.aload_n 0, 1) := by decide +kernel
theorem dX1_choose_80 : decode cX1_choose 80 = .ok (.getfield 9, 3) := by decide +kernel
theorem dX1_choose_83 : decode cX1_choose 83 = .ok (.iload 4, 2) := by decide +kernel
theorem dX1_choose_85 : decode cX1_choose 85 = .ok (.iaload, 1) := by decide +kernel
theorem dX1_choose_86 : decode cX1_choose 86 = .ok (.isub, 1) := by decide +kernel
theorem dX1_choose_87 : decode cX1_choose 87 = .ok (.imul, 1) := by decide +kernel
theorem dX1_choose_88 : decode cX1_choose 88 = .ok (.istore_n 3, 1) := by decide +kernel
theorem dX1_choose_89 : decode cX1_choose 89 = .ok (.bipush 39, 2) := by decide +kernel
theorem dX1_choose_91 : decode cX1_choose 91 = .ok (.iload 4, 2) := by decide +kernel
theorem dX1_choose_93 : decode cX1_choose 93 = .ok (.iload_n 2, 1) := by decide +kernel
theorem dX1_choose_94 : decode cX1_choose 94 = .ok (.iadd, 1) := by decide +kernel
theorem dX1_choose_95 : decode cX1_choose 95 = .ok (.invokestatic 33, 3) := by decide +kernel
theorem dX1_choose_98 : decode cX1_choose 98 = .ok (.istore 4, 2) := by decide +kernel
theorem dX1_choose_100 : decode cX1_choose 100 = .ok (.iinc 5 1, 3) := by decide +kernel
theorem dX1_choose_103 : decode cX1_choose 103 = .ok (.goto (-76), 3) := by decide +kernel
theorem dX1_choose_106 : decode cX1_choose 106 = .ok (.return_, 1) := by decide +kernel
theorem dX1_weigh_0 : decode cX1_weigh 0 = .ok (.iconst 0, 1) := by decide +kernel
theorem dX1_weigh_1 : decode cX1_weigh 1 = .ok (.istore_n 3, 1) := by decide +kernel
theorem dX1_weigh_2 : decode cX1_weigh 2 = .ok (.iload_n 3, 1) := by decide +kernel
theorem dX1_weigh_3 : decode cX1_weigh 3 = .ok (.iload_n 1, 1) := by decide +kernel
theorem dX1_weigh_4 : decode cX1_weigh 4 = .ok (.if_icmp .gt 131, 3) := by decide +kernel
theorem dX1_weigh_7 : decode cX1_weigh 7 = .ok (.aload_n 0, 1) := by decide +kernel
theorem dX1_weigh_8 : decode cX1_weigh 8 = .ok (.getfield 18, 3) := by decide +kernel
theorem dX1_weigh_11 : decode cX1_weigh 11 = .ok (.iload_n 3, 1) := by decide +kernel
theorem dX1_weigh_12 : decode cX1_weigh 12 = .ok (.bipush 41, 2) := by decide +kernel
theorem dX1_weigh_14 : decode cX1_weigh 14 = .ok (.imul, 1) := by decide +kernel
theorem dX1_weigh_15 : decode cX1_weigh 15 = .ok (.bipush 40, 2) := by decide +kernel
theorem dX1_weigh_17 : decode cX1_weigh 17 = .ok (.iadd, 1) := by decide +kernel
theorem dX1_weigh_18 : decode cX1_weigh 18 = .ok (.iload_n 3, 1) := by decide +kernel
theorem dX1_weigh_19 : decode cX1_weigh 19 = .ok (.ifCond .ne 7, 3) := by decide +kernel
theorem dX1_weigh_22 : decode cX1_weigh 22 = .ok (.iconst 1, 1) := by decide +kernel
theorem dX1_weigh_23 : decode cX1_weigh 23 = .ok (.goto 4, 3) := by decide +kernel
theorem dX1_weigh_26 : decode cX1_weigh 26 = .ok (.iconst (-1), 1) := by decide +kernel
theorem dX1_weigh_27 : decode cX1_weigh 27 = .ok (.iastore, 1) := by decide +kernel
theorem dX1_weigh_28 : decode cX1_weigh 28 = .ok (.bipush 39, 2) := by decide +kernel
theorem dX1_weigh_30 : decode cX1_weigh 30 = .ok (.istore 4, 2) := by decide +kernel
theorem dX1_weigh_32 : decode cX1_weigh 32 = .ok (.iload 4, 2) := by decide +kernel
theorem dX1_weigh_34 : decode cX1_weigh 34 = .ok (.ifCond .lt 95, 3) := by decide +kernel
theorem dX1_weigh_37 : decode cX1_weigh 37 = .ok (.aload_n 0, 1) := by decide +kernel
theorem dX1_weigh_38 : decode cX1_weigh 38 = .ok (.getfield 18, 3) := by decide +kernel
theorem dX1_weigh_41 : decode cX1_weigh 41 = .ok (.iload_n 3, 1) := by decide +kernel
theorem dX1_weigh_42 : decode cX1_weigh 42 = .ok (.bipush 41, 2) := by decide +kernel
theorem dX1_weigh_44 : decode cX1_weigh 44 = .ok (.imul, 1) := by decide +kernel
theorem dX1_weigh_45 : decode cX1_weigh 45 = .ok (.iload 4, 2) := by decide +kernel
theorem dX1_weigh_47 : decode cX1_weigh 47 = .ok (.iadd, 1) := by decide +kernel
theorem dX1_weigh_48 : decode cX1_weigh 48 = .ok (.iconst 1, 1) := by decide +kernel
theorem dX1_weigh_49 : decode cX1_weigh 49 = .ok (.iadd, 1) := by decide +kernel
theorem dX1_weigh_50 : decode cX1_weigh 50 = .ok (.iaload, 1) := by decide +kernel
theorem dX1_weigh_51 : decode cX1_weigh 51 = .ok (.istore 5, 2) := by decide +kernel
theorem dX1_weigh_53 : decode cX1_weigh 53 = .ok (.iload_n 3, 1) := by decide +kernel
theorem dX1_weigh_54 : decode cX1_weigh 54 = .ok (.ifCond .ne 7, 3) := by decide +kernel
theorem dX1_weigh_57 : decode cX1_weigh 57 = .ok (.iconst 1, 1) := by decide +kernel
theorem dX1_weigh_58 : decode cX1_weigh 58 = .ok (.goto 13, 3) := by decide +kernel
theorem dX1_weigh_61 : decode cX1_weigh 61 = .ok (.aload_n 0, 1) := by decide +kernel
theorem dX1_weigh_62 : decode cX1_weigh 62 = .ok (.iload 4, 2) := by decide +kernel
theorem dX1_weigh_64 : decode cX1_weigh 64 = .ok (.iload_n 3, 1) := by decide +kernel
theorem dX1_weigh_65 : decode cX1_weigh 65 = .ok (.iconst 1, 1) := by decide +kernel
theorem dX1_weigh_66 : decode cX1_weigh 66 = .ok (.isub, 1) := by decide +kernel
theorem dX1_weigh_67 : decode cX1_weigh 67 = .ok (.iload_n 2, 1) := by decide +kernel
theorem dX1_weigh_68 : decode cX1_weigh 68 = .ok (.invokevirtual 39, 3) := by decide +kernel
theorem dX1_weigh_71 : decode cX1_weigh 71 = .ok (.istore 6, 2) := by decide +kernel
theorem dX1_weigh_73 : decode cX1_weigh 73 = .ok (.iload 6, 2) := by decide +kernel
theorem dX1_weigh_75 : decode cX1_weigh 75 = .ok (.iconst (-1), 1) := by decide +kernel
theorem dX1_weigh_76 : decode cX1_weigh 76 = .ok (.if_icmp .eq 20, 3) := by decide +kernel
theorem dX1_weigh_79 : decode cX1_weigh 79 = .ok (.iload 5, 2) := by decide +kernel
theorem dX1_weigh_81 : decode cX1_weigh 81 = .ok (.iconst (-1), 1) := by decide +kernel
theorem dX1_weigh_82 : decode cX1_weigh 82 = .ok (.if_icmp .eq 10, 3) := by decide +kernel
theorem dX1_weigh_85 : decode cX1_weigh 85 = .ok (.iload 6, 2) := by decide +kernel
theorem dX1_weigh_87 : decode cX1_weigh 87 = .ok (.iload 5, 2) := by decide +kernel
theorem dX1_weigh_89 : decode cX1_weigh 89 = .ok (.if_icmp .ge 7, 3) := by decide +kernel
theorem dX1_weigh_92 : decode cX1_weigh 92 = .ok (.iconst 1, 1) := by decide +kernel
theorem dX1_weigh_93 : decode cX1_weigh 93 = .ok (.goto 4, 3) := by decide +kernel
theorem dX1_weigh_96 : decode cX1_weigh 96 = .ok (.iconst 0, 1) := by decide +kernel
theorem dX1_weigh_97 : decode cX1_weigh 97 = .ok (.istore 7, 2) := by decide +kernel
theorem dX1_weigh_99 : decode cX1_weigh 99 = .ok (.aload_n 0, 1) := by decide +kernel
theorem dX1_weigh_100 : decode cX1_weigh 100 = .ok (.getfield 18, 3) := by decide +kernel
theorem dX1_weigh_103 : decode cX1_weigh 103 = .ok (.iload_n 3, 1) := by decide +kernel
theorem dX1_weigh_104 : decode cX1_weigh 104 = .ok (.bipush 41, 2) := by decide +kernel
theorem dX1_weigh_106 : decode cX1_weigh 106 = .ok (.imul, 1) := by decide +kernel
theorem dX1_weigh_107 : decode cX1_weigh 107 = .ok (.iload 4, 2) := by decide +kernel
theorem dX1_weigh_109 : decode cX1_weigh 109 = .ok (.iadd, 1) := by decide +kernel
theorem dX1_weigh_110 : decode cX1_weigh 110 = .ok (.iload 7, 2) := by decide +kernel
theorem dX1_weigh_112 : decode cX1_weigh 112 = .ok (.ifCond .eq 8, 3) := by decide +kernel
theorem dX1_weigh_115 : decode cX1_weigh 115 = .ok (.iload 6, 2) := by decide +kernel
theorem dX1_weigh_117 : decode cX1_weigh 117 = .ok (.goto 5, 3) := by decide +kernel
theorem dX1_weigh_120 : decode cX1_weigh 120 = .ok (.iload 5, 2) := by decide +kernel
theorem dX1_weigh_122 : decode cX1_weigh 122 = .ok (.iastore, 1) := by decide +kernel
theorem dX1_weigh_123 : decode cX1_weigh 123 = .ok (.iinc 4 (-1), 3) := by decide +kernel
theorem dX1_weigh_126 : decode cX1_weigh 126 = .ok (.goto (-94), 3) := by decide +kernel
theorem dX1_weigh_129 : decode cX1_weigh 129 = .ok (.iinc 3 1, 3) := by decide +kernel
theorem dX1_weigh_132 : decode cX1_weigh 132 = .ok (.goto (-130), 3) := by decide +kernel
theorem dX1_weigh_135 : decode cX1_weigh 135 = .ok (.return_, 1) := by decide +kernel
theorem dX1_missesFrom_0 : decode cX1_missesFrom 0 = .ok (.aload_n 0, 1) := by decide +kernel
theorem dX1_missesFrom_1 : decode cX1_missesFrom 1 = .ok (.getfield 18, 3) := by decide +kernel
theorem dX1_missesFrom_4 : decode cX1_missesFrom 4 = .ok (.iload_n 2, 1) := by decide +kernel
theorem dX1_missesFrom_5 : decode cX1_missesFrom 5 = .ok (.bipush 41, 2) := by decide +kernel
theorem dX1_missesFrom_7 : decode cX1_missesFrom 7 = .ok (.imul, 1) := by decide +kernel
theorem dX1_missesFrom_8 : decode cX1_missesFrom 8 = .ok (.bipush 40, 2) := by decide +kernel
theorem dX1_missesFrom_10 : decode cX1_missesFrom 10 = .ok (.iload_n 1, 1) := by decide +kernel
theorem dX1_missesFrom_11 : decode cX1_missesFrom 11 = .ok (.iload_n 3, 1) := by decide +kernel
theorem dX1_missesFrom_12 : decode cX1_missesFrom 12 = .ok (.iadd, 1) := by decide +kernel
theorem dX1_missesFrom_13 : decode cX1_missesFrom 13 = .ok (.invokestatic 33, 3) := by decide +kernel
theorem dX1_missesFrom_16 : decode cX1_missesFrom 16 = .ok (.iadd, 1) := by decide +kernel
theorem dX1_missesFrom_17 : decode cX1_missesFrom 17 = .ok (.iaload, 1) := by decide +kernel
theorem dX1_missesFrom_18 : decode cX1_missesFrom 18 = .ok (.istore 4, 2) := by decide +kernel
theorem dX1_missesFrom_20 : decode cX1_missesFrom 20 = .ok (.iload 4, 2) := by decide +kernel
theorem dX1_missesFrom_22 : decode cX1_missesFrom 22 = .ok (.iconst (-1), 1) := by decide +kernel
theorem dX1_missesFrom_23 : decode cX1_missesFrom 23 = .ok (.if_icmp .ne 7, 3) := by decide +kernel
theorem dX1_missesFrom_26 : decode cX1_missesFrom 26 = .ok (.iconst (-1), 1) := by decide +kernel
theorem dX1_missesFrom_27 : decode cX1_missesFrom 27 = .ok (.goto 15, 3) := by decide +kernel
theorem dX1_missesFrom_30 : decode cX1_missesFrom 30 = .ok (.bipush 10, 2) := by decide +kernel
theorem dX1_missesFrom_32 : decode cX1_missesFrom 32 = .ok (.aload_n 0, 1) := by decide +kernel
theorem dX1_missesFrom_33 : decode cX1_missesFrom 33 = .ok (.getfield 9, 3) := by decide +kernel
theorem dX1_missesFrom_36 : decode cX1_missesFrom 36 = .ok (.iload_n 1, 1) := by decide +kernel
theorem dX1_missesFrom_37 : decode cX1_missesFrom 37 = .ok (.iaload, 1) := by decide +kernel
theorem dX1_missesFrom_38 : decode cX1_missesFrom 38 = .ok (.isub, 1) := by decide +kernel
theorem dX1_missesFrom_39 : decode cX1_missesFrom 39 = .ok (.iload 4, 2) := by decide +kernel
theorem dX1_missesFrom_41 : decode cX1_missesFrom 41 = .ok (.imul, 1) := by decide +kernel
theorem dX1_missesFrom_42 : decode cX1_missesFrom 42 = .ok (.ireturn, 1) := by decide +kernel
theorem dX1_goesOn_0 : decode cX1_goesOn 0 = .ok (.aload_n 0, 1) := by decide +kernel
theorem dX1_goesOn_1 : decode cX1_goesOn 1 = .ok (.iload_n 2, 1) := by decide +kernel
theorem dX1_goesOn_2 : decode cX1_goesOn 2 = .ok (.iload_n 3, 1) := by decide +kernel
theorem dX1_goesOn_3 : decode cX1_goesOn 3 = .ok (.iload 4, 2) := by decide +kernel
theorem dX1_goesOn_5 : decode cX1_goesOn 5 = .ok (.invokevirtual 39, 3) := by decide +kernel
theorem dX1_goesOn_8 : decode cX1_goesOn 8 = .ok (.istore 5, 2) := by decide +kernel
theorem dX1_goesOn_10 : decode cX1_goesOn 10 = .ok (.iload 5, 2) := by decide +kernel
theorem dX1_goesOn_12 : decode cX1_goesOn 12 = .ok (.iconst (-1), 1) := by decide +kernel
theorem dX1_goesOn_13 : decode cX1_goesOn 13 = .ok (.if_icmp .eq 18, 3) := by decide +kernel
theorem dX1_goesOn_16 : decode cX1_goesOn 16 = .ok (.iload_n 1, 1) := by decide +kernel
theorem dX1_goesOn_17 : decode cX1_goesOn 17 = .ok (.iload 5, 2) := by decide +kernel
theorem dX1_goesOn_19 : decode cX1_goesOn 19 = .ok (.imul, 1) := by decide +kernel
theorem dX1_goesOn_20 : decode cX1_goesOn 20 = .ok (.aload_n 0, 1) := by decide +kernel
theorem dX1_goesOn_21 : decode cX1_goesOn 21 = .ok (.getfield 21, 3) := by decide +kernel
theorem dX1_goesOn_24 : decode cX1_goesOn 24 = .ok (.if_icmp .ne 7, 3) := by decide +kernel
theorem dX1_goesOn_27 : decode cX1_goesOn 27 = .ok (.iconst 1, 1) := by decide +kernel
theorem dX1_goesOn_28 : decode cX1_goesOn 28 = .ok (.goto 4, 3) := by decide +kernel
theorem dX1_goesOn_31 : decode cX1_goesOn 31 = .ok (.iconst 0, 1) := by decide +kernel
theorem dX1_goesOn_32 : decode cX1_goesOn 32 = .ok (.ireturn, 1) := by decide +kernel
theorem dX1_choices_0 : decode cX1_choices 0 = .ok (.lconst 1, 1) := by decide +kernel
theorem dX1_choices_1 : decode cX1_choices 1 = .ok (.lstore_n 2, 1) := by decide +kernel
theorem dX1_choices_2 : decode cX1_choices 2 = .ok (.iconst 1, 1) := by decide +kernel
theorem dX1_choices_3 : decode cX1_choices 3 = .ok (.istore 4, 2) := by decide +kernel
theorem dX1_choices_5 : decode cX1_choices 5 = .ok (.iload 4, 2) := by decide +kernel
theorem dX1_choices_7 : decode cX1_choices 7 = .ok (.iload_n 1, 1) := by decide +kernel
theorem dX1_choices_8 : decode cX1_choices 8 = .ok (.if_icmp .gt 23, 3) := by decide +kernel
theorem dX1_choices_11 : decode cX1_choices 11 = .ok (.lload_n 2, 1) := by decide +kernel
theorem dX1_choices_12 : decode cX1_choices 12 = .ok (.iload_n 0, 1) := by decide +kernel
theorem dX1_choices_13 : decode cX1_choices 13 = .ok (.iload_n 1, 1) := by decide +kernel
theorem dX1_choices_14 : decode cX1_choices 14 = .ok (.isub, 1) := by decide +kernel
theorem dX1_choices_15 : decode cX1_choices 15 = .ok (.iload 4, 2) := by decide +kernel
theorem dX1_choices_17 : decode cX1_choices 17 = .ok (.iadd, 1) := by decide +kernel
theorem dX1_choices_18 : decode cX1_choices 18 = .ok (.i2l, 1) := by decide +kernel
theorem dX1_choices_19 : decode cX1_choices 19 = .ok (.lmul, 1) := by decide +kernel
theorem dX1_choices_20 : decode cX1_choices 20 = .ok (.iload 4, 2) := by decide +kernel
theorem dX1_choices_22 : decode cX1_choices 22 = .ok (.i2l, 1) := by decide +kernel
theorem dX1_choices_23 : decode cX1_choices 23 = .ok (.ldiv, 1) := by decide +kernel
theorem dX1_choices_24 : decode cX1_choices 24 = .ok (.lstore_n 2, 1) := by decide +kernel
theorem dX1_choices_25 : decode cX1_choices 25 = .ok (.iinc 4 1, 3) := by decide +kernel
theorem dX1_choices_28 : decode cX1_choices 28 = .ok (.goto (-23), 3) := by decide +kernel
theorem dX1_choices_31 : decode cX1_choices 31 = .ok (.lload_n 2, 1) := by decide +kernel
theorem dX1_choices_32 : decode cX1_choices 32 = .ok (.lreturn, 1) := by decide +kernel
theorem dX1_drawsWith_0 : decode cX1_drawsWith 0 = .ok (.iload_n 0, 1) := by decide +kernel
theorem dX1_drawsWith_1 : decode cX1_drawsWith 1 = .ok (.iload_n 2, 1) := by decide +kernel
theorem dX1_drawsWith_2 : decode cX1_drawsWith 2 = .ok (.invokestatic 43, 3) := by decide +kernel
theorem dX1_drawsWith_5 : decode cX1_drawsWith 5 = .ok (.iload_n 3, 1) := by decide +kernel
theorem dX1_drawsWith_6 : decode cX1_drawsWith 6 = .ok (.iload_n 0, 1) := by decide +kernel
theorem dX1_drawsWith_7 : decode cX1_drawsWith 7 = .ok (.isub, 1) := by decide +kernel
theorem dX1_drawsWith_8 : decode cX1_drawsWith 8 = .ok (.iload_n 1, 1) := by decide +kernel
theorem dX1_drawsWith_9 : decode cX1_drawsWith 9 = .ok (.iload_n 2, 1) := by decide +kernel
theorem dX1_drawsWith_10 : decode cX1_drawsWith 10 = .ok (.isub, 1) := by decide +kernel
theorem dX1_drawsWith_11 : decode cX1_drawsWith 11 = .ok (.invokestatic 43, 3) := by decide +kernel
theorem dX1_drawsWith_14 : decode cX1_drawsWith 14 = .ok (.lmul, 1) := by decide +kernel
theorem dX1_drawsWith_15 : decode cX1_drawsWith 15 = .ok (.lreturn, 1) := by decide +kernel
theorem dX1_commonDivisor_0 : decode cX1_commonDivisor 0 = .ok (.lload_n 0, 1) := by decide +kernel
theorem dX1_commonDivisor_1 : decode cX1_commonDivisor 1 = .ok (.lstore 4, 2) := by decide +kernel
theorem dX1_commonDivisor_3 : decode cX1_commonDivisor 3 = .ok (.lload_n 2, 1) := by decide +kernel
theorem dX1_commonDivisor_4 : decode cX1_commonDivisor 4 = .ok (.lstore 6, 2) := by decide +kernel
theorem dX1_commonDivisor_6 : decode cX1_commonDivisor 6 = .ok (.iconst 0, 1) := by decide +kernel
theorem dX1_commonDivisor_7 : decode cX1_commonDivisor 7 = .ok (.istore 8, 2) := by decide +kernel
theorem dX1_commonDivisor_9 : decode cX1_commonDivisor 9 = .ok (.iload 8, 2) := by decide +kernel
theorem dX1_commonDivisor_11 : decode cX1_commonDivisor 11 = .ok (.bipush 100, 2) := by decide +kernel
theorem dX1_commonDivisor_13 : decode cX1_commonDivisor 13 = .ok (.if_icmp .ge 31, 3) := by decide +kernel
theorem dX1_commonDivisor_16 : decode cX1_commonDivisor 16 = .ok (.lload 6, 2) := by decide +kernel
theorem dX1_commonDivisor_18 : decode cX1_commonDivisor 18 = .ok (.lconst 0, 1) := by decide +kernel
theorem dX1_commonDivisor_19 : decode cX1_commonDivisor 19 = .ok (.lcmp, 1) := by decide +kernel
theorem dX1_commonDivisor_20 : decode cX1_commonDivisor 20 = .ok (.ifCond .eq 24, 3) := by decide +kernel
theorem dX1_commonDivisor_23 : decode cX1_commonDivisor 23 = .ok (.lload 4, 2) := by decide +kernel
theorem dX1_commonDivisor_25 : decode cX1_commonDivisor 25 = .ok (.lload 6, 2) := by decide +kernel
theorem dX1_commonDivisor_27 : decode cX1_commonDivisor 27 = .ok (.lrem, 1) := by decide +kernel
theorem dX1_commonDivisor_28 : decode cX1_commonDivisor 28 = .ok (.lstore 9, 2) := by decide +kernel
theorem dX1_commonDivisor_30 : decode cX1_commonDivisor 30 = .ok (.lload 6, 2) := by decide +kernel
theorem dX1_commonDivisor_32 : decode cX1_commonDivisor 32 = .ok (.lstore 4, 2) := by decide +kernel
theorem dX1_commonDivisor_34 : decode cX1_commonDivisor 34 = .ok (.lload 9, 2) := by decide +kernel
theorem dX1_commonDivisor_36 : decode cX1_commonDivisor 36 = .ok (.lstore 6, 2) := by decide +kernel
theorem dX1_commonDivisor_38 : decode cX1_commonDivisor 38 = .ok (.iinc 8 1, 3) := by decide +kernel
theorem dX1_commonDivisor_41 : decode cX1_commonDivisor 41 = .ok (.goto (-32), 3) := by decide +kernel
theorem dX1_commonDivisor_44 : decode cX1_commonDivisor 44 = .ok (.lconst 1, 1) := by decide +kernel
theorem dX1_commonDivisor_45 : decode cX1_commonDivisor 45 = .ok (.lload 4, 2) := by decide +kernel
theorem dX1_commonDivisor_47 : decode cX1_commonDivisor 47 = .ok (.invokestatic 47, 3) := by decide +kernel
theorem dX1_commonDivisor_50 : decode cX1_commonDivisor 50 = .ok (.lreturn, 1) := by decide +kernel
theorem dX2_add_0 : decode cX2_add 0 = .ok (.aload_n 0, 1) := by decide +kernel
theorem dX2_add_1 : decode cX2_add 1 = .ok (.getfield 34, 3) := by decide +kernel
theorem dX2_add_4 : decode cX2_add 4 = .ok (.bipush 30, 2) := by decide +kernel
theorem dX2_add_6 : decode cX2_add 6 = .ok (.if_icmp .lt 5, 3) := by decide +kernel
theorem dX2_add_9 : decode cX2_add 9 = .ok (.iconst (-1), 1) := by decide +kernel
theorem dX2_add_10 : decode cX2_add 10 = .ok (.ireturn, 1) := by decide +kernel
theorem dX2_add_11 : decode cX2_add 11 = .ok (.aload_n 0, 1) := by decide +kernel
theorem dX2_add_12 : decode cX2_add 12 = .ok (.getfield 9, 3) := by decide +kernel
theorem dX2_add_15 : decode cX2_add 15 = .ok (.aload_n 0, 1) := by decide +kernel
theorem dX2_add_16 : decode cX2_add 16 = .ok (.getfield 34, 3) := by decide +kernel
theorem dX2_add_19 : decode cX2_add 19 = .ok (.iload_n 1, 1) := by decide +kernel
theorem dX2_add_20 : decode cX2_add 20 = .ok (.iastore, 1) := by decide +kernel
theorem dX2_add_21 : decode cX2_add 21 = .ok (.aload_n 0, 1) := by decide +kernel
theorem dX2_add_22 : decode cX2_add 22 = .ok (.getfield 15, 3) := by decide +kernel
theorem dX2_add_25 : decode cX2_add 25 = .ok (.aload_n 0, 1) := by decide +kernel
theorem dX2_add_26 : decode cX2_add 26 = .ok (.getfield 34, 3) := by decide +kernel
theorem dX2_add_29 : decode cX2_add 29 = .ok (.iload_n 2, 1) := by decide +kernel
theorem dX2_add_30 : decode cX2_add 30 = .ok (.iastore, 1) := by decide +kernel
theorem dX2_add_31 : decode cX2_add 31 = .ok (.aload_n 0, 1) := by decide +kernel
theorem dX2_add_32 : decode cX2_add 32 = .ok (.dup, 1) := by decide +kernel
theorem dX2_add_33 : decode cX2_add 33 = .ok (.getfield 34, 3) := by decide +kernel
theorem dX2_add_36 : decode cX2_add 36 = .ok (.iconst 1, 1) := by decide +kernel
theorem dX2_add_37 : decode cX2_add 37 = .ok (.iadd, 1) := by decide +kernel
theorem dX2_add_38 : decode cX2_add 38 = .ok (.putfield 34, 3) := by decide +kernel
theorem dX2_add_41 : decode cX2_add 41 = .ok (.aload_n 0, 1) := by decide +kernel
theorem dX2_add_42 : decode cX2_add 42 = .ok (.getfield 34, 3) := by decide +kernel
theorem dX2_add_45 : decode cX2_add 45 = .ok (.iconst 1, 1) := by decide +kernel
theorem dX2_add_46 : decode cX2_add 46 = .ok (.isub, 1) := by decide +kernel
theorem dX2_add_47 : decode cX2_add 47 = .ok (.ireturn, 1) := by decide +kernel
theorem dX2_shiftBy_0 : decode cX2_shiftBy 0 = .ok (.aload_n 0, 1) := by decide +kernel
theorem dX2_shiftBy_1 : decode cX2_shiftBy 1 = .ok (.getfield 24, 3) := by decide +kernel
theorem dX2_shiftBy_4 : decode cX2_shiftBy 4 = .ok (.getfield 42, 3) := by decide +kernel
theorem dX2_shiftBy_7 : decode cX2_shiftBy 7 = .ok (.bipush 100, 2) := by decide +kernel
theorem dX2_shiftBy_9 : decode cX2_shiftBy 9 = .ok (.aload_n 0, 1) := by decide +kernel
theorem dX2_shiftBy_10 : decode cX2_shiftBy 10 = .ok (.getfield 9, 3) := by decide +kernel
theorem dX2_shiftBy_13 : decode cX2_shiftBy 13 = .ok (.iload_n 2, 1) := by decide +kernel
theorem dX2_shiftBy_14 : decode cX2_shiftBy 14 = .ok (.iaload, 1) := by decide +kernel
theorem dX2_shiftBy_15 : decode cX2_shiftBy 15 = .ok (.iastore, 1) := by decide +kernel
theorem dX2_shiftBy_16 : decode cX2_shiftBy 16 = .ok (.aload_n 0, 1) := by decide +kernel
theorem dX2_shiftBy_17 : decode cX2_shiftBy 17 = .ok (.getfield 24, 3) := by decide +kernel
theorem dX2_shiftBy_20 : decode cX2_shiftBy 20 = .ok (.getfield 42, 3) := by decide +kernel
theorem dX2_shiftBy_23 : decode cX2_shiftBy 23 = .ok (.bipush 110, 2) := by decide +kernel
theorem dX2_shiftBy_25 : decode cX2_shiftBy 25 = .ok (.iload_n 2, 1) := by decide +kernel
theorem dX2_shiftBy_26 : decode cX2_shiftBy 26 = .ok (.iastore, 1) := by decide +kernel
theorem dX2_shiftBy_27 : decode cX2_shiftBy 27 = .ok (.aload_n 0, 1) := by decide +kernel
theorem dX2_shiftBy_28 : decode cX2_shiftBy 28 = .ok (.getfield 24, 3) := by decide +kernel
theorem dX2_shiftBy_31 : decode cX2_shiftBy 31 = .ok (.aload_n 1, 1) := by decide +kernel
theorem dX2_shiftBy_32 : decode cX2_shiftBy 32 = .ok (.iconst 0, 1) := by decide +kernel
theorem dX2_shiftBy_33 : decode cX2_shiftBy 33 = .ok (.invokevirtual 45, 3) := by decide +kernel
theorem dX2_shiftBy_36 : decode cX2_shiftBy 36 = .ok (.ireturn, 1) := by decide +kernel
theorem dX2_fallOf_0 : decode cX2_fallOf 0 = .ok (.iconst 0, 1) := by decide +kernel
theorem dX2_fallOf_1 : decode cX2_fallOf 1 = .ok (.istore_n 3, 1) := by decide +kernel
theorem dX2_fallOf_2 : decode cX2_fallOf 2 = .ok (.iload_n 3, 1) := by decide +kernel
theorem dX2_fallOf_3 : decode cX2_fallOf 3 = .ok (.aload_n 0, 1) := by decide +kernel
theorem dX2_fallOf_4 : decode cX2_fallOf 4 = .ok (.getfield 34, 3) := by decide +kernel
theorem dX2_fallOf_7 : decode cX2_fallOf 7 = .ok (.if_icmp .ge 35, 3) := by decide +kernel
theorem dX2_fallOf_10 : decode cX2_fallOf 10 = .ok (.aload_n 0, 1) := by decide +kernel
theorem dX2_fallOf_11 : decode cX2_fallOf 11 = .ok (.aload_n 1, 1) := by decide +kernel
theorem dX2_fallOf_12 : decode cX2_fallOf 12 = .ok (.iload_n 3, 1) := by decide +kernel
theorem dX2_fallOf_13 : decode cX2_fallOf 13 = .ok (.invokevirtual 49, 3) := by decide +kernel
theorem dX2_fallOf_16 : decode cX2_fallOf 16 = .ok (.i2l, 1) := by decide +kernel
theorem dX2_fallOf_17 : decode cX2_fallOf 17 = .ok (.aload_n 0, 1) := by decide +kernel
theorem dX2_fallOf_18 : decode cX2_fallOf 18 = .ok (.getfield 15, 3) := by decide +kernel
theorem dX2_fallOf_21 : decode cX2_fallOf 21 = .ok (.iload_n 3, 1) := by decide +kernel
theorem dX2_fallOf_22 : decode cX2_fallOf 22 = .ok (.iaload, 1) := by decide +kernel
theorem dX2_fallOf_23 : decode cX2_fallOf 23 = .ok (.i2l, 1) := by decide +kernel
theorem dX2_fallOf_24 : decode cX2_fallOf 24 = .ok (.lsub, 1) := by decide +kernel
theorem dX2_fallOf_25 : decode cX2_fallOf 25 = .ok (.invokestatic 52, 3) := by decide +kernel
theorem dX2_fallOf_28 : decode cX2_fallOf 28 = .ok (.iload_n 2, 1) := by decide +kernel
theorem dX2_fallOf_29 : decode cX2_fallOf 29 = .ok (.i2l, 1) := by decide +kernel
theorem dX2_fallOf_30 : decode cX2_fallOf 30 = .ok (.lcmp, 1) := by decide +kernel
theorem dX2_fallOf_31 : decode cX2_fallOf 31 = .ok (.ifCond .le 5, 3) := by decide +kernel
theorem dX2_fallOf_34 : decode cX2_fallOf 34 = .ok (.iload_n 3, 1) := by decide +kernel
theorem dX2_fallOf_35 : decode cX2_fallOf 35 = .ok (.ireturn, 1) := by decide +kernel
theorem dX2_fallOf_36 : decode cX2_fallOf 36 = .ok (.iinc 3 1, 3) := by decide +kernel
theorem dX2_fallOf_39 : decode cX2_fallOf 39 = .ok (.goto (-37), 3) := by decide +kernel
theorem dX2_fallOf_42 : decode cX2_fallOf 42 = .ok (.bipush (-2), 2) := by decide +kernel
theorem dX2_fallOf_44 : decode cX2_fallOf 44 = .ok (.ireturn, 1) := by decide +kernel
theorem dX2_greatestOrbit_0 : decode cX2_greatestOrbit 0 = .ok (.bipush (-2), 2) := by decide +kernel
theorem dX2_greatestOrbit_2 : decode cX2_greatestOrbit 2 = .ok (.istore_n 3, 1) := by decide +kernel
theorem dX2_greatestOrbit_3 : decode cX2_greatestOrbit 3 = .ok (.iconst 0, 1) := by decide +kernel
theorem dX2_greatestOrbit_4 : decode cX2_greatestOrbit 4 = .ok (.istore 4, 2) := by decide +kernel
theorem dX2_greatestOrbit_6 : decode cX2_greatestOrbit 6 = .ok (.iload 4, 2) := by decide +kernel
theorem dX2_greatestOrbit_8 : decode cX2_greatestOrbit 8 = .ok (.iload_n 1, 1) := by decide +kernel
theorem dX2_greatestOrbit_9 : decode cX2_greatestOrbit 9 = .ok (.if_icmp .ge 22, 3) := by decide +kernel
theorem dX2_greatestOrbit_12 : decode cX2_greatestOrbit 12 = .ok (.iload_n 3, 1) := by decide +kernel
theorem dX2_greatestOrbit_13 : decode cX2_greatestOrbit 13 = .ok (.aload_n 0, 1) := by decide +kernel
theorem dX2_greatestOrbit_14 : decode cX2_greatestOrbit 14 = .ok (.iload_n 1, 1) := by decide +kernel
theorem dX2_greatestOrbit_15 : decode cX2_greatestOrbit 15 = .ok (.iload 4, 2) := by decide +kernel
theorem dX2_greatestOrbit_17 : decode cX2_greatestOrbit 17 = .ok (.iload_n 2, 1) := by decide +kernel
theorem dX2_greatestOrbit_18 : decode cX2_greatestOrbit 18 = .ok (.invokevirtual 61, 3) := by decide +kernel
theorem dX2_greatestOrbit_21 : decode cX2_greatestOrbit 21 = .ok (.invokestatic 65, 3) := by decide +kernel
theorem dX2_greatestOrbit_24 : decode cX2_greatestOrbit 24 = .ok (.istore_n 3, 1) := by decide +kernel
theorem dX2_greatestOrbit_25 : decode cX2_greatestOrbit 25 = .ok (.iinc 4 1, 3) := by decide +kernel
theorem dX2_greatestOrbit_28 : decode cX2_greatestOrbit 28 = .ok (.goto (-22), 3) := by decide +kernel
theorem dX2_greatestOrbit_31 : decode cX2_greatestOrbit 31 = .ok (.iload_n 3, 1) := by decide +kernel
theorem dX2_greatestOrbit_32 : decode cX2_greatestOrbit 32 = .ok (.ireturn, 1) := by decide +kernel
theorem dX2_greatestSize_0 : decode cX2_greatestSize 0 = .ok (.iconst 0, 1) := by decide +kernel
theorem dX2_greatestSize_1 : decode cX2_greatestSize 1 = .ok (.istore 4, 2) := by decide +kernel
theorem dX2_greatestSize_3 : decode cX2_greatestSize 3 = .ok (.sipush 2000, 3) := by decide +kernel
theorem dX2_greatestSize_6 : decode cX2_greatestSize 6 = .ok (.istore 5, 2) := by decide +kernel
theorem dX2_greatestSize_8 : decode cX2_greatestSize 8 = .ok (.iconst 0, 1) := by decide +kernel
theorem dX2_greatestSize_9 : decode cX2_greatestSize 9 = .ok (.istore 6, 2) := by decide +kernel
theorem dX2_greatestSize_11 : decode cX2_greatestSize 11 = .ok (.iload 6, 2) := by decide +kernel
theorem dX2_greatestSize_13 : decode cX2_greatestSize 13 = .ok (.aload_n 0, 1) := by decide +kernel
theorem dX2_greatestSize_14 : decode cX2_greatestSize 14 = .ok (.getfield 34, 3) := by decide +kernel
theorem dX2_greatestSize_17 : decode cX2_greatestSize 17 = .ok (.if_icmp .ge 148, 3) := by decide +kernel
theorem dX2_greatestSize_20 : decode cX2_greatestSize 20 = .ok (.iload_n 1, 1) := by decide +kernel
theorem dX2_greatestSize_21 : decode cX2_greatestSize 21 = .ok (.ifCond .le 144, 3) := by decide +kernel
theorem dX2_greatestSize_24 : decode cX2_greatestSize 24 = .ok (.aload_n 0, 1) := by decide +kernel
theorem dX2_greatestSize_25 : decode cX2_greatestSize 25 = .ok (.getfield 9, 3) := by decide +kernel
theorem dX2_greatestSize_28 : decode cX2_greatestSize 28 = .ok (.iload 6, 2) := by decide +kernel
theorem dX2_greatestSize_30 : decode cX2_greatestSize 30 = .ok (.iaload, 1) := by decide +kernel
theorem dX2_greatestSize_31 : decode cX2_greatestSize 31 = .ok (.iload_n 2, 1) := by decide +kernel
theorem dX2_greatestSize_32 : decode cX2_greatestSize 32 = .ok (.iadd, 1) := by decide +kernel
theorem dX2_greatestSize_33 : decode cX2_greatestSize 33 = .ok (.iload_n 1, 1) := by decide +kernel
theorem dX2_greatestSize_34 : decode cX2_greatestSize 34 = .ok (.irem, 1) := by decide +kernel
theorem dX2_greatestSize_35 : decode cX2_greatestSize 35 = .ok (.iload_n 1, 1) := by decide +kernel
theorem dX2_greatestSize_36 : decode cX2_greatestSize 36 = .ok (.invokestatic 69, 3) := by decide +kernel
theorem dX2_greatestSize_39 : decode cX2_greatestSize 39 = .ok (.istore 7, 2) := by decide +kernel
theorem dX2_greatestSize_41 : decode cX2_greatestSize 41 = .ok (.iload 7, 2) := by decide +kernel
theorem dX2_greatestSize_43 : decode cX2_greatestSize 43 = .ok (.ifCond .ge 14, 3) := by decide +kernel
theorem dX2_greatestSize_46 : decode cX2_greatestSize 46 = .ok (.aload_n 0, 1) := by decide +kernel
theorem dX2_greatestSize_47 : decode cX2_greatestSize 47 = .ok (.getfield 15, 3) := by decide +kernel
theorem dX2_greatestSize_50 : decode cX2_greatestSize 50 = .ok (.iload 6, 2) := by decide +kernel
theorem dX2_greatestSize_52 : decode cX2_greatestSize 52 = .ok (.iaload, 1) := by decide +kernel
theorem dX2_greatestSize_53 : decode cX2_greatestSize 53 = .ok (.ineg, 1) := by decide +kernel
theorem dX2_greatestSize_54 : decode cX2_greatestSize 54 = .ok (.goto 10, 3) := by decide +kernel
theorem dX2_greatestSize_57 : decode cX2_greatestSize 57 = .ok (.aload_n 0, 1) := by decide +kernel
theorem dX2_greatestSize_58 : decode cX2_greatestSize 58 = .ok (.getfield 15, 3) := by decide +kernel
theorem dX2_greatestSize_61 : decode cX2_greatestSize 61 = .ok (.iload 6, 2) := by decide +kernel
theorem dX2_greatestSize_63 : decode cX2_greatestSize 63 = .ok (.iaload, 1) := by decide +kernel
theorem dX2_greatestSize_64 : decode cX2_greatestSize 64 = .ok (.istore 8, 2) := by decide +kernel
theorem dX2_greatestSize_66 : decode cX2_greatestSize 66 = .ok (.iload 8, 2) := by decide +kernel
theorem dX2_greatestSize_68 : decode cX2_greatestSize 68 = .ok (.iload_n 3, 1) := by decide +kernel
theorem dX2_greatestSize_69 : decode cX2_greatestSize 69 = .ok (.isub, 1) := by decide +kernel
theorem dX2_greatestSize_70 : decode cX2_greatestSize 70 = .ok (.istore 9, 2) := by decide +kernel
theorem dX2_greatestSize_72 : decode cX2_greatestSize 72 = .ok (.iload 8, 2) := by decide +kernel
theorem dX2_greatestSize_74 : decode cX2_greatestSize 74 = .ok (.iload_n 3, 1) := by decide +kernel
theorem dX2_greatestSize_75 : decode cX2_greatestSize 75 = .ok (.iadd, 1) := by decide +kernel
theorem dX2_greatestSize_76 : decode cX2_greatestSize 76 = .ok (.istore 10, 2) := by decide +kernel
theorem dX2_greatestSize_78 : decode cX2_greatestSize 78 = .ok (.iload 7, 2) := by decide +kernel
theorem dX2_greatestSize_80 : decode cX2_greatestSize 80 = .ok (.invokestatic 72, 3) := by decide +kernel
theorem dX2_greatestSize_83 : decode cX2_greatestSize 83 = .ok (.istore 11, 2) := by decide +kernel
theorem dX2_greatestSize_85 : decode cX2_greatestSize 85 = .ok (.iload 10, 2) := by decide +kernel
theorem dX2_greatestSize_87 : decode cX2_greatestSize 87 = .ok (.ifCond .lt 13, 3) := by decide +kernel
theorem dX2_greatestSize_90 : decode cX2_greatestSize 90 = .ok (.iload 11, 2) := by decide +kernel
theorem dX2_greatestSize_92 : decode cX2_greatestSize 92 = .ok (.ifCond .ne 11, 3) := by decide +kernel
theorem dX2_greatestSize_95 : decode cX2_greatestSize 95 = .ok (.iload 9, 2) := by decide +kernel
theorem dX2_greatestSize_97 : decode cX2_greatestSize 97 = .ok (.ifCond .le 6, 3) := by decide +kernel
theorem dX2_greatestSize_100 : decode cX2_greatestSize 100 = .ok (.bipush (-2), 2) := by decide +kernel
theorem dX2_greatestSize_102 : decode cX2_greatestSize 102 = .ok (.ireturn, 1) := by decide +kernel
theorem dX2_greatestSize_103 : decode cX2_greatestSize 103 = .ok (.iload 11, 2) := by decide +kernel
theorem dX2_greatestSize_105 : decode cX2_greatestSize 105 = .ok (.ifCond .le 54, 3) := by decide +kernel
theorem dX2_greatestSize_108 : decode cX2_greatestSize 108 = .ok (.iload 5, 2) := by decide +kernel
theorem dX2_greatestSize_110 : decode cX2_greatestSize 110 = .ok (.iload 10, 2) := by decide +kernel
theorem dX2_greatestSize_112 : decode cX2_greatestSize 112 = .ok (.iconst 1, 1) := by decide +kernel
theorem dX2_greatestSize_113 : decode cX2_greatestSize 113 = .ok (.iadd, 1) := by decide +kernel
theorem dX2_greatestSize_114 : decode cX2_greatestSize 114 = .ok (.sipush 1000, 3) := by decide +kernel
theorem dX2_greatestSize_117 : decode cX2_greatestSize 117 = .ok (.imul, 1) := by decide +kernel
theorem dX2_greatestSize_118 : decode cX2_greatestSize 118 = .ok (.iconst 1, 1) := by decide +kernel
theorem dX2_greatestSize_119 : decode cX2_greatestSize 119 = .ok (.isub, 1) := by decide +kernel
theorem dX2_greatestSize_120 : decode cX2_greatestSize 120 = .ok (.iload 11, 2) := by decide +kernel
theorem dX2_greatestSize_122 : decode cX2_greatestSize 122 = .ok (.idiv, 1) := by decide +kernel
theorem dX2_greatestSize_123 : decode cX2_greatestSize 123 = .ok (.invokestatic 75, 3) := by decide +kernel
theorem dX2_greatestSize_126 : decode cX2_greatestSize 126 = .ok (.istore 5, 2) := by decide +kernel
theorem dX2_greatestSize_128 : decode cX2_greatestSize 128 = .ok (.iload 9, 2) := by decide +kernel
theorem dX2_greatestSize_130 : decode cX2_greatestSize 130 = .ok (.ifCond .gt 8, 3) := by decide +kernel
theorem dX2_greatestSize_133 : decode cX2_greatestSize 133 = .ok (.iload 4, 2) := by decide +kernel
theorem dX2_greatestSize_135 : decode cX2_greatestSize 135 = .ok (.goto 22, 3) := by decide +kernel
theorem dX2_greatestSize_138 : decode cX2_greatestSize 138 = .ok (.iload 4, 2) := by decide +kernel
theorem dX2_greatestSize_140 : decode cX2_greatestSize 140 = .ok (.iload 9, 2) := by decide +kernel
theorem dX2_greatestSize_142 : decode cX2_greatestSize 142 = .ok (.sipush 1000, 3) := by decide +kernel
theorem dX2_greatestSize_145 : decode cX2_greatestSize 145 = .ok (.imul, 1) := by decide +kernel
theorem dX2_greatestSize_146 : decode cX2_greatestSize 146 = .ok (.iload 11, 2) := by decide +kernel
theorem dX2_greatestSize_148 : decode cX2_greatestSize 148 = .ok (.iadd, 1) := by decide +kernel
theorem dX2_greatestSize_149 : decode cX2_greatestSize 149 = .ok (.iconst 1, 1) := by decide +kernel
theorem dX2_greatestSize_150 : decode cX2_greatestSize 150 = .ok (.isub, 1) := by decide +kernel
theorem dX2_greatestSize_151 : decode cX2_greatestSize 151 = .ok (.iload 11, 2) := by decide +kernel
theorem dX2_greatestSize_153 : decode cX2_greatestSize 153 = .ok (.idiv, 1) := by decide +kernel
theorem dX2_greatestSize_154 : decode cX2_greatestSize 154 = .ok (.invokestatic 65, 3) := by decide +kernel
theorem dX2_greatestSize_157 : decode cX2_greatestSize 157 = .ok (.istore 4, 2) := by decide +kernel
theorem dX2_greatestSize_159 : decode cX2_greatestSize 159 = .ok (.iinc 6 1, 3) := by decide +kernel
theorem dX2_greatestSize_162 : decode cX2_greatestSize 162 = .ok (.goto (-151), 3) := by decide +kernel
theorem dX2_greatestSize_165 : decode cX2_greatestSize 165 = .ok (.iload 4, 2) := by decide +kernel
theorem dX2_greatestSize_167 : decode cX2_greatestSize 167 = .ok (.iload 5, 2) := by decide +kernel
theorem dX2_greatestSize_169 : decode cX2_greatestSize 169 = .ok (.if_icmp .gt 8, 3) := by decide +kernel
theorem dX2_greatestSize_172 : decode cX2_greatestSize 172 = .ok (.iload 5, 2) := by decide +kernel
theorem dX2_greatestSize_174 : decode cX2_greatestSize 174 = .ok (.goto 5, 3) := by decide +kernel
theorem dX2_greatestSize_177 : decode cX2_greatestSize 177 = .ok (.bipush (-2), 2) := by decide +kernel
theorem dX2_greatestSize_179 : decode cX2_greatestSize 179 = .ok (.ireturn, 1) := by decide +kernel
theorem dX2_waveAt_0 : decode cX2_waveAt 0 = .ok (.iload_n 1, 1) := by decide +kernel
theorem dX2_waveAt_1 : decode cX2_waveAt 1 = .ok (.iconst 1, 1) := by decide +kernel
theorem dX2_waveAt_2 : decode cX2_waveAt 2 = .ok (.if_icmp .ge 5, 3) := by decide +kernel
theorem dX2_waveAt_5 : decode cX2_waveAt 5 = .ok (.iconst 0, 1) := by decide +kernel
theorem dX2_waveAt_6 : decode cX2_waveAt 6 = .ok (.ireturn, 1) := by decide +kernel
theorem dX2_waveAt_7 : decode cX2_waveAt 7 = .ok (.sipush 4000, 3) := by decide +kernel
theorem dX2_waveAt_10 : decode cX2_waveAt 10 = .ok (.iload_n 0, 1) := by decide +kernel
theorem dX2_waveAt_11 : decode cX2_waveAt 11 = .ok (.imul, 1) := by decide +kernel
theorem dX2_waveAt_12 : decode cX2_waveAt 12 = .ok (.iload_n 1, 1) := by decide +kernel
theorem dX2_waveAt_13 : decode cX2_waveAt 13 = .ok (.idiv, 1) := by decide +kernel
theorem dX2_waveAt_14 : decode cX2_waveAt 14 = .ok (.istore_n 2, 1) := by decide +kernel
theorem dX2_waveAt_15 : decode cX2_waveAt 15 = .ok (.iconst 4, 1) := by decide +kernel
theorem dX2_waveAt_16 : decode cX2_waveAt 16 = .ok (.iload_n 0, 1) := by decide +kernel
theorem dX2_waveAt_17 : decode cX2_waveAt 17 = .ok (.imul, 1) := by decide +kernel
theorem dX2_waveAt_18 : decode cX2_waveAt 18 = .ok (.iload_n 1, 1) := by decide +kernel
theorem dX2_waveAt_19 : decode cX2_waveAt 19 = .ok (.if_icmp .ge 5, 3) := by decide +kernel
theorem dX2_waveAt_22 : decode cX2_waveAt 22 = .ok (.iload_n 2, 1) := by decide +kernel
theorem dX2_waveAt_23 : decode cX2_waveAt 23 = .ok (.ireturn, 1) := by decide +kernel
theorem dX2_waveAt_24 : decode cX2_waveAt 24 = .ok (.iconst 4, 1) := by decide +kernel
theorem dX2_waveAt_25 : decode cX2_waveAt 25 = .ok (.iload_n 0, 1) := by decide +kernel
theorem dX2_waveAt_26 : decode cX2_waveAt 26 = .ok (.imul, 1) := by decide +kernel
theorem dX2_waveAt_27 : decode cX2_waveAt 27 = .ok (.iconst 3, 1) := by decide +kernel
theorem dX2_waveAt_28 : decode cX2_waveAt 28 = .ok (.iload_n 1, 1) := by decide +kernel
theorem dX2_waveAt_29 : decode cX2_waveAt 29 = .ok (.imul, 1) := by decide +kernel
theorem dX2_waveAt_30 : decode cX2_waveAt 30 = .ok (.if_icmp .ge 11, 3) := by decide +kernel
theorem dX2_waveAt_33 : decode cX2_waveAt 33 = .ok (.sipush 2000, 3) := by decide +kernel
theorem dX2_waveAt_36 : decode cX2_waveAt 36 = .ok (.iload_n 2, 1) := by decide +kernel
theorem dX2_waveAt_37 : decode cX2_waveAt 37 = .ok (.isub, 1) := by decide +kernel
theorem dX2_waveAt_38 : decode cX2_waveAt 38 = .ok (.goto 8, 3) := by decide +kernel
theorem dX2_waveAt_41 : decode cX2_waveAt 41 = .ok (.iload_n 2, 1) := by decide +kernel
theorem dX2_waveAt_42 : decode cX2_waveAt 42 = .ok (.sipush 4000, 3) := by decide +kernel
theorem dX2_waveAt_45 : decode cX2_waveAt 45 = .ok (.isub, 1) := by decide +kernel
theorem dX2_waveAt_46 : decode cX2_waveAt 46 = .ok (.ireturn, 1) := by decide +kernel
theorem dX3_add_0 : decode cX3_add 0 = .ok (.aload_n 0, 1) := by decide +kernel
theorem dX3_add_1 : decode cX3_add 1 = .ok (.getfield 24, 3) := by decide +kernel
theorem dX3_add_4 : decode cX3_add 4 = .ok (.bipush 40, 2) := by decide +kernel
theorem dX3_add_6 : decode cX3_add 6 = .ok (.if_icmp .ge 25, 3) := by decide +kernel
theorem dX3_add_9 : decode cX3_add 9 = .ok (.aload_n 0, 1) := by decide +kernel
theorem dX3_add_10 : decode cX3_add 10 = .ok (.getfield 24, 3) := by decide +kernel
theorem dX3_add_13 : decode cX3_add 13 = .ok (.ifCond .le 20, 3) := by decide +kernel
theorem dX3_add_16 : decode cX3_add 16 = .ok (.iload_n 1, 1) := by decide +kernel
theorem dX3_add_17 : decode cX3_add 17 = .ok (.aload_n 0, 1) := by decide +kernel
theorem dX3_add_18 : decode cX3_add 18 = .ok (.getfield 9, 3) := by decide +kernel
theorem dX3_add_21 : decode cX3_add 21 = .ok (.aload_n 0, 1) := by decide +kernel
theorem dX3_add_22 : decode cX3_add 22 = .ok (.getfield 24, 3) := by decide +kernel
theorem dX3_add_25 : decode cX3_add 25 = .ok (.iconst 1, 1) := by decide +kernel
theorem dX3_add_26 : decode cX3_add 26 = .ok (.isub, 1) := by decide +kernel
theorem dX3_add_27 : decode cX3_add 27 = .ok (.iaload, 1) := by decide +kernel
theorem dX3_add_28 : decode cX3_add 28 = .ok (.if_icmp .ge 5, 3) := by decide +kernel
theorem dX3_add_31 : decode cX3_add 31 = .ok (.iconst (-1), 1) := by decide +kernel
theorem dX3_add_32 : decode cX3_add 32 = .ok (.ireturn, 1) := by decide +kernel
theorem dX3_add_33 : decode cX3_add 33 = .ok (.aload_n 0, 1) := by decide +kernel
theorem dX3_add_34 : decode cX3_add 34 = .ok (.getfield 9, 3) := by decide +kernel
theorem dX3_add_37 : decode cX3_add 37 = .ok (.aload_n 0, 1) := by decide +kernel
theorem dX3_add_38 : decode cX3_add 38 = .ok (.getfield 24, 3) := by decide +kernel
theorem dX3_add_41 : decode cX3_add 41 = .ok (.iload_n 1, 1) := by decide +kernel
theorem dX3_add_42 : decode cX3_add 42 = .ok (.iastore, 1) := by decide +kernel
theorem dX3_add_43 : decode cX3_add 43 = .ok (.aload_n 0, 1) := by decide +kernel
theorem dX3_add_44 : decode cX3_add 44 = .ok (.getfield 15, 3) := by decide +kernel
theorem dX3_add_47 : decode cX3_add 47 = .ok (.aload_n 0, 1) := by decide +kernel
theorem dX3_add_48 : decode cX3_add 48 = .ok (.getfield 24, 3) := by decide +kernel
theorem dX3_add_51 : decode cX3_add 51 = .ok (.iload_n 2, 1) := by decide +kernel
theorem dX3_add_52 : decode cX3_add 52 = .ok (.iastore, 1) := by decide +kernel
theorem dX3_add_53 : decode cX3_add 53 = .ok (.aload_n 0, 1) := by decide +kernel
theorem dX3_add_54 : decode cX3_add 54 = .ok (.getfield 18, 3) := by decide +kernel
theorem dX3_add_57 : decode cX3_add 57 = .ok (.aload_n 0, 1) := by decide +kernel
theorem dX3_add_58 : decode cX3_add 58 = .ok (.getfield 24, 3) := by decide +kernel
theorem dX3_add_61 : decode cX3_add 61 = .ok (.iload_n 3, 1) := by decide +kernel
theorem dX3_add_62 : decode cX3_add 62 = .ok (.iastore, 1) := by decide +kernel
theorem dX3_add_63 : decode cX3_add 63 = .ok (.aload_n 0, 1) := by decide +kernel
theorem dX3_add_64 : decode cX3_add 64 = .ok (.dup, 1) := by decide +kernel
theorem dX3_add_65 : decode cX3_add 65 = .ok (.getfield 24, 3) := by decide +kernel
theorem dX3_add_68 : decode cX3_add 68 = .ok (.iconst 1, 1) := by decide +kernel
theorem dX3_add_69 : decode cX3_add 69 = .ok (.iadd, 1) := by decide +kernel
theorem dX3_add_70 : decode cX3_add 70 = .ok (.putfield 24, 3) := by decide +kernel
theorem dX3_add_73 : decode cX3_add 73 = .ok (.aload_n 0, 1) := by decide +kernel
theorem dX3_add_74 : decode cX3_add 74 = .ok (.getfield 24, 3) := by decide +kernel
theorem dX3_add_77 : decode cX3_add 77 = .ok (.iconst 1, 1) := by decide +kernel
theorem dX3_add_78 : decode cX3_add 78 = .ok (.isub, 1) := by decide +kernel
theorem dX3_add_79 : decode cX3_add 79 = .ok (.ireturn, 1) := by decide +kernel
theorem dX3_gather_0 : decode cX3_gather 0 = .ok (.iconst 0, 1) := by decide +kernel
theorem dX3_gather_1 : decode cX3_gather 1 = .ok (.istore 4, 2) := by decide +kernel
theorem dX3_gather_3 : decode cX3_gather 3 = .ok (.iconst 0, 1) := by decide +kernel
theorem dX3_gather_4 : decode cX3_gather 4 = .ok (.istore 5, 2) := by decide +kernel
theorem dX3_gather_6 : decode cX3_gather 6 = .ok (.iload 5, 2) := by decide +kernel
theorem dX3_gather_8 : decode cX3_gather 8 = .ok (.aload_n 0, 1) := by decide +kernel
theorem dX3_gather_9 : decode cX3_gather 9 = .ok (.getfield 24, 3) := by decide +kernel
theorem dX3_gather_12 : decode cX3_gather 12 = .ok (.if_icmp .ge 72, 3) := by decide +kernel
theorem dX3_gather_15 : decode cX3_gather 15 = .ok (.aload_n 0, 1) := by decide +kernel
theorem dX3_gather_16 : decode cX3_gather 16 = .ok (.getfield 18, 3) := by decide +kernel
theorem dX3_gather_19 : decode cX3_gather 19 = .ok (.iload 5, 2) := by decide +kernel
theorem dX3_gather_21 : decode cX3_gather 21 = .ok (.iaload, 1) := by decide +kernel
theorem dX3_gather_22 : decode cX3_gather 22 = .ok (.iload_n 1, 1) := by decide +kernel
theorem dX3_gather_23 : decode cX3_gather 23 = .ok (.if_icmp .ne 55, 3) := by decide +kernel
theorem dX3_gather_26 : decode cX3_gather 26 = .ok (.aload_n 0, 1) := by decide +kernel
theorem dX3_gather_27 : decode cX3_gather 27 = .ok (.getfield 9, 3) := by decide +kernel
theorem dX3_gather_30 : decode cX3_gather 30 = .ok (.iload 5, 2) := by decide +kernel
theorem dX3_gather_32 : decode cX3_gather 32 = .ok (.iaload, 1) := by decide +kernel
theorem dX3_gather_33 : decode cX3_gather 33 = .ok (.iload_n 2, 1) := by decide +kernel
theorem dX3_gather_34 : decode cX3_gather 34 = .ok (.if_icmp .gt 44, 3) := by decide +kernel
theorem dX3_gather_37 : decode cX3_gather 37 = .ok (.aload_n 0, 1) := by decide +kernel
theorem dX3_gather_38 : decode cX3_gather 38 = .ok (.getfield 21, 3) := by decide +kernel
theorem dX3_gather_41 : decode cX3_gather 41 = .ok (.iload 4, 2) := by decide +kernel
theorem dX3_gather_43 : decode cX3_gather 43 = .ok (.iload_n 3, 1) := by decide +kernel
theorem dX3_gather_44 : decode cX3_gather 44 = .ok (.ifCond .eq 23, 3) := by decide +kernel
theorem dX3_gather_47 : decode cX3_gather 47 = .ok (.aload_n 0, 1) := by decide +kernel
theorem dX3_gather_48 : decode cX3_gather 48 = .ok (.getfield 9, 3) := by decide +kernel
theorem dX3_gather_51 : decode cX3_gather 51 = .ok (.iload 5, 2) := by decide +kernel
theorem dX3_gather_53 : decode cX3_gather 53 = .ok (.iaload, 1) := by decide +kernel
theorem dX3_gather_54 : decode cX3_gather 54 = .ok (.aload_n 0, 1) := by decide +kernel
theorem dX3_gather_55 : decode cX3_gather 55 = .ok (.getfield 15, 3) := by decide +kernel
theorem dX3_gather_58 : decode cX3_gather 58 = .ok (.iload 5, 2) := by decide +kernel
theorem dX3_gather_60 : decode cX3_gather 60 = .ok (.iaload, 1) := by decide +kernel
theorem dX3_gather_61 : decode cX3_gather 61 = .ok (.invokestatic 28, 3) := by decide +kernel
theorem dX3_gather_64 : decode cX3_gather 64 = .ok (.goto 10, 3) := by decide +kernel
theorem dX3_gather_67 : decode cX3_gather 67 = .ok (.aload_n 0, 1) := by decide +kernel
theorem dX3_gather_68 : decode cX3_gather 68 = .ok (.getfield 15, 3) := by decide +kernel
theorem dX3_gather_71 : decode cX3_gather 71 = .ok (.iload 5, 2) := by decide +kernel
theorem dX3_gather_73 : decode cX3_gather 73 = .ok (.iaload, 1) := by decide +kernel
theorem dX3_gather_74 : decode cX3_gather 74 = .ok (.iastore, 1) := by decide +kernel
theorem dX3_gather_75 : decode cX3_gather 75 = .ok (.iinc 4 1, 3) := by decide +kernel
theorem dX3_gather_78 : decode cX3_gather 78 = .ok (.iinc 5 1, 3) := by decide +kernel
theorem dX3_gather_81 : decode cX3_gather 81 = .ok (.goto (-75), 3) := by decide +kernel
theorem dX3_gather_84 : decode cX3_gather 84 = .ok (.iload 4, 2) := by decide +kernel
theorem dX3_gather_86 : decode cX3_gather 86 = .ok (.ireturn, 1) := by decide +kernel
theorem dX3_oneBy_0 : decode cX3_oneBy 0 = .ok (.aload_n 0, 1) := by decide +kernel
theorem dX3_oneBy_1 : decode cX3_oneBy 1 = .ok (.iload_n 1, 1) := by decide +kernel
theorem dX3_oneBy_2 : decode cX3_oneBy 2 = .ok (.iload_n 3, 1) := by decide +kernel
theorem dX3_oneBy_3 : decode cX3_oneBy 3 = .ok (.iconst 1, 1) := by decide +kernel
theorem dX3_oneBy_4 : decode cX3_oneBy 4 = .ok (.invokevirtual 32, 3) := by decide +kernel
theorem dX3_oneBy_7 : decode cX3_oneBy 7 = .ok (.istore 4, 2) := by decide +kernel
theorem dX3_oneBy_9 : decode cX3_oneBy 9 = .ok (.iload 4, 2) := by decide +kernel
theorem dX3_oneBy_11 : decode cX3_oneBy 11 = .ok (.iconst 2, 1) := by decide +kernel
theorem dX3_oneBy_12 : decode cX3_oneBy 12 = .ok (.if_icmp .ge 5, 3) := by decide +kernel
theorem dX3_oneBy_15 : decode cX3_oneBy 15 = .ok (.iconst (-1), 1) := by decide +kernel
theorem dX3_oneBy_16 : decode cX3_oneBy 16 = .ok (.ireturn, 1) := by decide +kernel
theorem dX3_oneBy_17 : decode cX3_oneBy 17 = .ok (.aload_n 0, 1) := by decide +kernel
theorem dX3_oneBy_18 : decode cX3_oneBy 18 = .ok (.getfield 21, 3) := by decide +kernel
theorem dX3_oneBy_21 : decode cX3_oneBy 21 = .ok (.iload 4, 2) := by decide +kernel
theorem dX3_oneBy_23 : decode cX3_oneBy 23 = .ok (.sipush 1440, 3) := by decide +kernel
theorem dX3_oneBy_26 : decode cX3_oneBy 26 = .ok (.iload_n 2, 1) := by decide +kernel
theorem dX3_oneBy_27 : decode cX3_oneBy 27 = .ok (.invokestatic 36, 3) := by decide +kernel
theorem dX3_oneBy_30 : decode cX3_oneBy 30 = .ok (.ifCond .eq 7, 3) := by decide +kernel
theorem dX3_oneBy_33 : decode cX3_oneBy 33 = .ok (.iconst 1, 1) := by decide +kernel
theorem dX3_oneBy_34 : decode cX3_oneBy 34 = .ok (.goto 4, 3) := by decide +kernel
theorem dX3_oneBy_37 : decode cX3_oneBy 37 = .ok (.iconst 0, 1) := by decide +kernel
theorem dX3_oneBy_38 : decode cX3_oneBy 38 = .ok (.istore 5, 2) := by decide +kernel
theorem dX3_oneBy_40 : decode cX3_oneBy 40 = .ok (.aload_n 0, 1) := by decide +kernel
theorem dX3_oneBy_41 : decode cX3_oneBy 41 = .ok (.iload_n 1, 1) := by decide +kernel
theorem dX3_oneBy_42 : decode cX3_oneBy 42 = .ok (.iload_n 3, 1) := by decide +kernel
theorem dX3_oneBy_43 : decode cX3_oneBy 43 = .ok (.iconst 0, 1) := by decide +kernel
theorem dX3_oneBy_44 : decode cX3_oneBy 44 = .ok (.invokevirtual 32, 3) := by decide +kernel
theorem dX3_oneBy_47 : decode cX3_oneBy 47 = .ok (.pop, 1) := by decide +kernel
theorem dX3_oneBy_48 : decode cX3_oneBy 48 = .ok (.aload_n 0, 1) := by decide +kernel
theorem dX3_oneBy_49 : decode cX3_oneBy 49 = .ok (.getfield 21, 3) := by decide +kernel
theorem dX3_oneBy_52 : decode cX3_oneBy 52 = .ok (.iload 4, 2) := by decide +kernel
theorem dX3_oneBy_54 : decode cX3_oneBy 54 = .ok (.sipush 1440, 3) := by decide +kernel
theorem dX3_oneBy_57 : decode cX3_oneBy 57 = .ok (.iload_n 2, 1) := by decide +kernel
theorem dX3_oneBy_58 : decode cX3_oneBy 58 = .ok (.invokestatic 36, 3) := by decide +kernel
theorem dX3_oneBy_61 : decode cX3_oneBy 61 = .ok (.ifCond .eq 10, 3) := by decide +kernel
theorem dX3_oneBy_64 : decode cX3_oneBy 64 = .ok (.iload 5, 2) := by decide +kernel
theorem dX3_oneBy_66 : decode cX3_oneBy 66 = .ok (.iconst 2, 1) := by decide +kernel
theorem dX3_oneBy_67 : decode cX3_oneBy 67 = .ok (.ior, 1) := by decide +kernel
theorem dX3_oneBy_68 : decode cX3_oneBy 68 = .ok (.goto 5, 3) := by decide +kernel
theorem dX3_oneBy_71 : decode cX3_oneBy 71 = .ok (.iload 5, 2) := by decide +kernel
theorem dX3_oneBy_73 : decode cX3_oneBy 73 = .ok (.ireturn, 1) := by decide +kernel
theorem dX3_knownDay_0 : decode cX3_knownDay 0 = .ok (.iconst 0, 1) := by decide +kernel
theorem dX3_knownDay_1 : decode cX3_knownDay 1 = .ok (.istore_n 3, 1) := by decide +kernel
theorem dX3_knownDay_2 : decode cX3_knownDay 2 = .ok (.iload_n 3, 1) := by decide +kernel
theorem dX3_knownDay_3 : decode cX3_knownDay 3 = .ok (.aload_n 0, 1) := by decide +kernel
theorem dX3_knownDay_4 : decode cX3_knownDay 4 = .ok (.getfield 24, 3) := by decide +kernel
theorem dX3_knownDay_7 : decode cX3_knownDay 7 = .ok (.if_icmp .ge 52, 3) := by decide +kernel
theorem dX3_knownDay_10 : decode cX3_knownDay 10 = .ok (.aload_n 0, 1) := by decide +kernel
theorem dX3_knownDay_11 : decode cX3_knownDay 11 = .ok (.getfield 18, 3) := by decide +kernel
theorem dX3_knownDay_14 : decode cX3_knownDay 14 = .ok (.iload_n 3, 1) := by decide +kernel
theorem dX3_knownDay_15 : decode cX3_knownDay 15 = .ok (.iaload, 1) := by decide +kernel
theorem dX3_knownDay_16 : decode cX3_knownDay 16 = .ok (.iload_n 1, 1) := by decide +kernel
theorem dX3_knownDay_17 : decode cX3_knownDay 17 = .ok (.if_icmp .ne 36, 3) := by decide +kernel
theorem dX3_knownDay_20 : decode cX3_knownDay 20 = .ok (.aload_n 0, 1) := by decide +kernel
theorem dX3_knownDay_21 : decode cX3_knownDay 21 = .ok (.iload_n 1, 1) := by decide +kernel
theorem dX3_knownDay_22 : decode cX3_knownDay 22 = .ok (.iload_n 2, 1) := by decide +kernel
theorem dX3_knownDay_23 : decode cX3_knownDay 23 = .ok (.aload_n 0, 1) := by decide +kernel
theorem dX3_knownDay_24 : decode cX3_knownDay 24 = .ok (.getfield 9, 3) := by decide +kernel
theorem dX3_knownDay_27 : decode cX3_knownDay 27 = .ok (.iload_n 3, 1) := by decide +kernel
theorem dX3_knownDay_28 : decode cX3_knownDay 28 = .ok (.iaload, 1) := by decide +kernel
theorem dX3_knownDay_29 : decode cX3_knownDay 29 = .ok (.invokevirtual 40, 3) := by decide +kernel
theorem dX3_knownDay_32 : decode cX3_knownDay 32 = .ok (.istore 4, 2) := by decide +kernel
theorem dX3_knownDay_34 : decode cX3_knownDay 34 = .ok (.iload 4, 2) := by decide +kernel
theorem dX3_knownDay_36 : decode cX3_knownDay 36 = .ok (.iconst 1, 1) := by decide +kernel
theorem dX3_knownDay_37 : decode cX3_knownDay 37 = .ok (.if_icmp .eq 9, 3) := by decide +kernel
theorem dX3_knownDay_40 : decode cX3_knownDay 40 = .ok (.iload 4, 2) := by decide +kernel
theorem dX3_knownDay_42 : decode cX3_knownDay 42 = .ok (.iconst 2, 1) := by decide +kernel
theorem dX3_knownDay_43 : decode cX3_knownDay 43 = .ok (.if_icmp .ne 10, 3) := by decide +kernel
theorem dX3_knownDay_46 : decode cX3_knownDay 46 = .ok (.aload_n 0, 1) := by decide +kernel
theorem dX3_knownDay_47 : decode cX3_knownDay 47 = .ok (.getfield 9, 3) := by decide +kernel
theorem dX3_knownDay_50 : decode cX3_knownDay 50 = .ok (.iload_n 3, 1) := by decide +kernel
theorem dX3_knownDay_51 : decode cX3_knownDay 51 = .ok (.iaload, 1) := by decide +kernel
theorem dX3_knownDay_52 : decode cX3_knownDay 52 = .ok (.ireturn, 1) := by decide +kernel
theorem dX3_knownDay_53 : decode cX3_knownDay 53 = .ok (.iinc 3 1, 3) := by decide +kernel
theorem dX3_knownDay_56 : decode cX3_knownDay 56 = .ok (.goto (-54), 3) := by decide +kernel
theorem dX3_knownDay_59 : decode cX3_knownDay 59 = .ok (.iconst (-1), 1) := by decide +kernel
theorem dX3_knownDay_60 : decode cX3_knownDay 60 = .ok (.ireturn, 1) := by decide +kernel
theorem dX3_longestRow_0 : decode cX3_longestRow 0 = .ok (.aload_n 0, 1) := by decide +kernel
theorem dX3_longestRow_1 : decode cX3_longestRow 1 = .ok (.iload_n 1, 1) := by decide +kernel
theorem dX3_longestRow_2 : decode cX3_longestRow 2 = .ok (.sipush 400, 3) := by decide +kernel
theorem dX3_longestRow_5 : decode cX3_longestRow 5 = .ok (.iconst 1, 1) := by decide +kernel
theorem dX3_longestRow_6 : decode cX3_longestRow 6 = .ok (.invokevirtual 32, 3) := by decide +kernel
theorem dX3_longestRow_9 : decode cX3_longestRow 9 = .ok (.istore 4, 2) := by decide +kernel
theorem dX3_longestRow_11 : decode cX3_longestRow 11 = .ok (.iconst 0, 1) := by decide +kernel
theorem dX3_longestRow_12 : decode cX3_longestRow 12 = .ok (.istore 5, 2) := by decide +kernel
theorem dX3_longestRow_14 : decode cX3_longestRow 14 = .ok (.iconst (-1), 1) := by decide +kernel
theorem dX3_longestRow_15 : decode cX3_longestRow 15 = .ok (.istore 6, 2) := by decide +kernel
theorem dX3_longestRow_17 : decode cX3_longestRow 17 = .ok (.iconst 0, 1) := by decide +kernel
theorem dX3_longestRow_18 : decode cX3_longestRow 18 = .ok (.istore 7, 2) := by decide +kernel
theorem dX3_longestRow_20 : decode cX3_longestRow 20 = .ok (.iload 7, 2) := by decide +kernel
theorem dX3_longestRow_22 : decode cX3_longestRow 22 = .ok (.iload 4, 2) := by decide +kernel
theorem dX3_longestRow_24 : decode cX3_longestRow 24 = .ok (.if_icmp .ge 64, 3) := by decide +kernel
theorem dX3_longestRow_27 : decode cX3_longestRow 27 = .ok (.aload_n 0, 1) := by decide +kernel
theorem dX3_longestRow_28 : decode cX3_longestRow 28 = .ok (.aload_n 0, 1) := by decide +kernel
theorem dX3_longestRow_29 : decode cX3_longestRow 29 = .ok (.getfield 21, 3) := by decide +kernel
theorem dX3_longestRow_32 : decode cX3_longestRow 32 = .ok (.iload 7, 2) := by decide +kernel
theorem dX3_longestRow_34 : decode cX3_longestRow 34 = .ok (.iaload, 1) := by decide +kernel
theorem dX3_longestRow_35 : decode cX3_longestRow 35 = .ok (.iload 4, 2) := by decide +kernel
theorem dX3_longestRow_37 : decode cX3_longestRow 37 = .ok (.iload_n 2, 1) := by decide +kernel
theorem dX3_longestRow_38 : decode cX3_longestRow 38 = .ok (.invokevirtual 44, 3) := by decide +kernel
theorem dX3_longestRow_41 : decode cX3_longestRow 41 = .ok (.istore 8, 2) := by decide +kernel
theorem dX3_longestRow_43 : decode cX3_longestRow 43 = .ok (.iload 8, 2) := by decide +kernel
theorem dX3_longestRow_45 : decode cX3_longestRow 45 = .ok (.iload 5, 2) := by decide +kernel
theorem dX3_longestRow_47 : decode cX3_longestRow 47 = .ok (.if_icmp .gt 22, 3) := by decide +kernel
theorem dX3_longestRow_50 : decode cX3_longestRow 50 = .ok (.iload 8, 2) := by decide +kernel
theorem dX3_longestRow_52 : decode cX3_longestRow 52 = .ok (.iload 5, 2) := by decide +kernel
theorem dX3_longestRow_54 : decode cX3_longestRow 54 = .ok (.if_icmp .ne 28, 3) := by decide +kernel
theorem dX3_longestRow_57 : decode cX3_longestRow 57 = .ok (.aload_n 0, 1) := by decide +kernel
theorem dX3_longestRow_58 : decode cX3_longestRow 58 = .ok (.getfield 21, 3) := by decide +kernel
theorem dX3_longestRow_61 : decode cX3_longestRow 61 = .ok (.iload 7, 2) := by decide +kernel
theorem dX3_longestRow_63 : decode cX3_longestRow 63 = .ok (.iaload, 1) := by decide +kernel
theorem dX3_longestRow_64 : decode cX3_longestRow 64 = .ok (.iload 6, 2) := by decide +kernel
theorem dX3_longestRow_66 : decode cX3_longestRow 66 = .ok (.if_icmp .ge 16, 3) := by decide +kernel
theorem dX3_longestRow_69 : decode cX3_longestRow 69 = .ok (.iload 8, 2) := by decide +kernel
theorem dX3_longestRow_71 : decode cX3_longestRow 71 = .ok (.istore 5, 2) := by decide +kernel
theorem dX3_longestRow_73 : decode cX3_longestRow 73 = .ok (.aload_n 0, 1) := by decide +kernel
theorem dX3_longestRow_74 : decode cX3_longestRow 74 = .ok (.getfield 21, 3) := by decide +kernel
theorem dX3_longestRow_77 : decode cX3_longestRow 77 = .ok (.iload 7, 2) := by decide +kernel
theorem dX3_longestRow_79 : decode cX3_longestRow 79 = .ok (.iaload, 1) := by decide +kernel
theorem dX3_longestRow_80 : decode cX3_longestRow 80 = .ok (.istore 6, 2) := by decide +kernel
theorem dX3_longestRow_82 : decode cX3_longestRow 82 = .ok (.iinc 7 1, 3) := by decide +kernel
theorem dX3_longestRow_85 : decode cX3_longestRow 85 = .ok (.goto (-65), 3) := by decide +kernel
theorem dX3_longestRow_88 : decode cX3_longestRow 88 = .ok (.iload_n 3, 1) := by decide +kernel
theorem dX3_longestRow_89 : decode cX3_longestRow 89 = .ok (.ifCond .ne 13, 3) := by decide +kernel
theorem dX3_longestRow_92 : decode cX3_longestRow 92 = .ok (.iload 4, 2) := by decide +kernel
theorem dX3_longestRow_94 : decode cX3_longestRow 94 = .ok (.ifCond .le 8, 3) := by decide +kernel
theorem dX3_longestRow_97 : decode cX3_longestRow 97 = .ok (.iload 5, 2) := by decide +kernel
theorem dX3_longestRow_99 : decode cX3_longestRow 99 = .ok (.goto 5, 3) := by decide +kernel
theorem dX3_longestRow_102 : decode cX3_longestRow 102 = .ok (.iload 6, 2) := by decide +kernel
theorem dX3_longestRow_104 : decode cX3_longestRow 104 = .ok (.ireturn, 1) := by decide +kernel
theorem dX3_rowFrom_0 : decode cX3_rowFrom 0 = .ok (.iconst 0, 1) := by decide +kernel
theorem dX3_rowFrom_1 : decode cX3_rowFrom 1 = .ok (.istore 4, 2) := by decide +kernel
theorem dX3_rowFrom_3 : decode cX3_rowFrom 3 = .ok (.iconst 0, 1) := by decide +kernel
theorem dX3_rowFrom_4 : decode cX3_rowFrom 4 = .ok (.istore 5, 2) := by decide +kernel
theorem dX3_rowFrom_6 : decode cX3_rowFrom 6 = .ok (.iload 5, 2) := by decide +kernel
theorem dX3_rowFrom_8 : decode cX3_rowFrom 8 = .ok (.iload_n 2, 1) := by decide +kernel
theorem dX3_rowFrom_9 : decode cX3_rowFrom 9 = .ok (.if_icmp .ge 38, 3) := by decide +kernel
theorem dX3_rowFrom_12 : decode cX3_rowFrom 12 = .ok (.iload 4, 2) := by decide +kernel
theorem dX3_rowFrom_14 : decode cX3_rowFrom 14 = .ok (.aload_n 0, 1) := by decide +kernel
theorem dX3_rowFrom_15 : decode cX3_rowFrom 15 = .ok (.getfield 21, 3) := by decide +kernel
theorem dX3_rowFrom_18 : decode cX3_rowFrom 18 = .ok (.iload 5, 2) := by decide +kernel
theorem dX3_rowFrom_20 : decode cX3_rowFrom 20 = .ok (.iaload, 1) := by decide +kernel
theorem dX3_rowFrom_21 : decode cX3_rowFrom 21 = .ok (.iload_n 1, 1) := by decide +kernel
theorem dX3_rowFrom_22 : decode cX3_rowFrom 22 = .ok (.isub, 1) := by decide +kernel
theorem dX3_rowFrom_23 : decode cX3_rowFrom 23 = .ok (.sipush 1440, 3) := by decide +kernel
theorem dX3_rowFrom_26 : decode cX3_rowFrom 26 = .ok (.invokestatic 47, 3) := by decide +kernel
theorem dX3_rowFrom_29 : decode cX3_rowFrom 29 = .ok (.iload_n 3, 1) := by decide +kernel
theorem dX3_rowFrom_30 : decode cX3_rowFrom 30 = .ok (.if_icmp .gt 7, 3) := by decide +kernel
theorem dX3_rowFrom_33 : decode cX3_rowFrom 33 = .ok (.iconst 1, 1) := by decide +kernel
theorem dX3_rowFrom_34 : decode cX3_rowFrom 34 = .ok (.goto 4, 3) := by decide +kernel
theorem dX3_rowFrom_37 : decode cX3_rowFrom 37 = .ok (.iconst 0, 1) := by decide +kernel
theorem dX3_rowFrom_38 : decode cX3_rowFrom 38 = .ok (.iadd, 1) := by decide +kernel
theorem dX3_rowFrom_39 : decode cX3_rowFrom 39 = .ok (.istore 4, 2) := by decide +kernel
theorem dX3_rowFrom_41 : decode cX3_rowFrom 41 = .ok (.iinc 5 1, 3) := by decide +kernel
theorem dX3_rowFrom_44 : decode cX3_rowFrom 44 = .ok (.goto (-38), 3) := by decide +kernel
theorem dX3_rowFrom_47 : decode cX3_rowFrom 47 = .ok (.iload 4, 2) := by decide +kernel
theorem dX3_rowFrom_49 : decode cX3_rowFrom 49 = .ok (.ireturn, 1) := by decide +kernel
theorem dX4_forget_0 : decode cX4_forget 0 = .ok (.aload_n 0, 1) := by decide +kernel
theorem dX4_forget_1 : decode cX4_forget 1 = .ok (.iconst (-1), 1) := by decide +kernel
theorem dX4_forget_2 : decode cX4_forget 2 = .ok (.putfield 35, 3) := by decide +kernel
theorem dX4_forget_5 : decode cX4_forget 5 = .ok (.return_, 1) := by decide +kernel
theorem dX4_forgetReader_0 : decode cX4_forgetReader 0 = .ok (.aload_n 0, 1) := by decide +kernel
theorem dX4_forgetReader_1 : decode cX4_forgetReader 1 = .ok (.dup, 1) := by decide +kernel
theorem dX4_forgetReader_2 : decode cX4_forgetReader 2 = .ok (.getfield 31, 3) := by decide +kernel
theorem dX4_forgetReader_5 : decode cX4_forgetReader 5 = .ok (.iconst 1, 1) := by decide +kernel
theorem dX4_forgetReader_6 : decode cX4_forgetReader 6 = .ok (.iload_n 1, 1) := by decide +kernel
theorem dX4_forgetReader_7 : decode cX4_forgetReader 7 = .ok (.ishl, 1) := by decide +kernel
theorem dX4_forgetReader_8 : decode cX4_forgetReader 8 = .ok (.iconst (-1), 1) := by decide +kernel
theorem dX4_forgetReader_9 : decode cX4_forgetReader 9 = .ok (.ixor, 1) := by decide +kernel
theorem dX4_forgetReader_10 : decode cX4_forgetReader 10 = .ok (.iand, 1) := by decide +kernel
theorem dX4_forgetReader_11 : decode cX4_forgetReader 11 = .ok (.putfield 31, 3) := by decide +kernel
theorem dX4_forgetReader_14 : decode cX4_forgetReader 14 = .ok (.return_, 1) := by decide +kernel
theorem dX4_clear_0 : decode cX4_clear 0 = .ok (.aload_n 0, 1) := by decide +kernel
theorem dX4_clear_1 : decode cX4_clear 1 = .ok (.iload_n 1, 1) := by decide +kernel
theorem dX4_clear_2 : decode cX4_clear 2 = .ok (.putfield 35, 3) := by decide +kernel
theorem dX4_clear_5 : decode cX4_clear 5 = .ok (.aload_n 0, 1) := by decide +kernel
theorem dX4_clear_6 : decode cX4_clear 6 = .ok (.iconst 0, 1) := by decide +kernel
theorem dX4_clear_7 : decode cX4_clear 7 = .ok (.putfield 31, 3) := by decide +kernel
theorem dX4_clear_10 : decode cX4_clear 10 = .ok (.aload_n 0, 1) := by decide +kernel
theorem dX4_clear_11 : decode cX4_clear 11 = .ok (.getfield 9, 3) := by decide +kernel
theorem dX4_clear_14 : decode cX4_clear 14 = .ok (.iconst 0, 1) := by decide +kernel
theorem dX4_clear_15 : decode cX4_clear 15 = .ok (.invokestatic 38, 3) := by decide +kernel
theorem dX4_clear_18 : decode cX4_clear 18 = .ok (.aload_n 0, 1) := by decide +kernel
theorem dX4_clear_19 : decode cX4_clear 19 = .ok (.getfield 18, 3) := by decide +kernel
theorem dX4_clear_22 : decode cX4_clear 22 = .ok (.iconst 0, 1) := by decide +kernel
theorem dX4_clear_23 : decode cX4_clear 23 = .ok (.invokestatic 38, 3) := by decide +kernel
theorem dX4_clear_26 : decode cX4_clear 26 = .ok (.aload_n 0, 1) := by decide +kernel
theorem dX4_clear_27 : decode cX4_clear 27 = .ok (.getfield 15, 3) := by decide +kernel
theorem dX4_clear_30 : decode cX4_clear 30 = .ok (.iconst 4, 1) := by decide +kernel
theorem dX4_clear_31 : decode cX4_clear 31 = .ok (.invokestatic 38, 3) := by decide +kernel
theorem dX4_clear_34 : decode cX4_clear 34 = .ok (.return_, 1) := by decide +kernel
theorem dX4_add_0 : decode cX4_add 0 = .ok (.aload_n 0, 1) := by decide +kernel
theorem dX4_add_1 : decode cX4_add 1 = .ok (.getfield 9, 3) := by decide +kernel
theorem dX4_add_4 : decode cX4_add 4 = .ok (.iload_n 1, 1) := by decide +kernel
theorem dX4_add_5 : decode cX4_add 5 = .ok (.dup2, 1) := by decide +kernel
theorem dX4_add_6 : decode cX4_add 6 = .ok (.iaload, 1) := by decide +kernel
theorem dX4_add_7 : decode cX4_add 7 = .ok (.iload_n 2, 1) := by decide +kernel
theorem dX4_add_8 : decode cX4_add 8 = .ok (.iadd, 1) := by decide +kernel
theorem dX4_add_9 : decode cX4_add 9 = .ok (.iastore, 1) := by decide +kernel
theorem dX4_add_10 : decode cX4_add 10 = .ok (.iload_n 2, 1) := by decide +kernel
theorem dX4_add_11 : decode cX4_add 11 = .ok (.aload_n 0, 1) := by decide +kernel
theorem dX4_add_12 : decode cX4_add 12 = .ok (.getfield 18, 3) := by decide +kernel
theorem dX4_add_15 : decode cX4_add 15 = .ok (.iload_n 1, 1) := by decide +kernel
theorem dX4_add_16 : decode cX4_add 16 = .ok (.iaload, 1) := by decide +kernel
theorem dX4_add_17 : decode cX4_add 17 = .ok (.if_icmp .le 17, 3) := by decide +kernel
theorem dX4_add_20 : decode cX4_add 20 = .ok (.aload_n 0, 1) := by decide +kernel
theorem dX4_add_21 : decode cX4_add 21 = .ok (.getfield 18, 3) := by decide +kernel
theorem dX4_add_24 : decode cX4_add 24 = .ok (.iload_n 1, 1) := by decide +kernel
theorem dX4_add_25 : decode cX4_add 25 = .ok (.iload_n 2, 1) := by decide +kernel
theorem dX4_add_26 : decode cX4_add 26 = .ok (.iastore, 1) := by decide +kernel
theorem dX4_add_27 : decode cX4_add 27 = .ok (.aload_n 0, 1) := by decide +kernel
theorem dX4_add_28 : decode cX4_add 28 = .ok (.getfield 15, 3) := by decide +kernel
theorem dX4_add_31 : decode cX4_add 31 = .ok (.iload_n 1, 1) := by decide +kernel
theorem dX4_add_32 : decode cX4_add 32 = .ok (.iload_n 3, 1) := by decide +kernel
theorem dX4_add_33 : decode cX4_add 33 = .ok (.iastore, 1) := by decide +kernel
theorem dX4_add_34 : decode cX4_add 34 = .ok (.return_, 1) := by decide +kernel
theorem dX4_read_0 : decode cX4_read 0 = .ok (.iconst 1, 1) := by decide +kernel
theorem dX4_read_1 : decode cX4_read 1 = .ok (.iload_n 1, 1) := by decide +kernel
theorem dX4_read_2 : decode cX4_read 2 = .ok (.ishl, 1) := by decide +kernel
theorem dX4_read_3 : decode cX4_read 3 = .ok (.istore_n 3, 1) := by decide +kernel
theorem dX4_read_4 : decode cX4_read 4 = .ok (.aload_n 0, 1) := by decide +kernel
theorem dX4_read_5 : decode cX4_read 5 = .ok (.getfield 31, 3) := by decide +kernel
theorem dX4_read_8 : decode cX4_read 8 = .ok (.iload_n 3, 1) := by decide +kernel
theorem dX4_read_9 : decode cX4_read 9 = .ok (.iand, 1) := by decide +kernel
theorem dX4_read_10 : decode cX4_read 10 = .ok (.ifCond .eq 4, 3) := by decide +kernel
theorem dX4_read_13 : decode cX4_read 13 = .ok (.return_, 1) := by decide +kernel
theorem dX4_read_14 : decode cX4_read 14 = .ok (.aload_n 0, 1) := by decide +kernel
theorem dX4_read_15 : decode cX4_read 15 = .ok (.dup, 1) := by decide +kernel
theorem dX4_read_16 : decode cX4_read 16 = .ok (.getfield 31, 3) := by decide +kernel
theorem dX4_read_19 : decode cX4_read 19 = .ok (.iload_n 3, 1) := by decide +kernel
theorem dX4_read_20 : decode cX4_read 20 = .ok (.ior, 1) := by decide +kernel
theorem dX4_read_21 : decode cX4_read 21 = .ok (.putfield 31, 3) := by decide +kernel
theorem dX4_read_24 : decode cX4_read 24 = .ok (.aload_n 0, 1) := by decide +kernel
theorem dX4_read_25 : decode cX4_read 25 = .ok (.getfield 27, 3) := by decide +kernel
theorem dX4_read_28 : decode cX4_read 28 = .ok (.getfield 44, 3) := by decide +kernel
theorem dX4_read_31 : decode cX4_read 31 = .ok (.astore 4, 2) := by decide +kernel
theorem dX4_read_33 : decode cX4_read 33 = .ok (.aload 4, 2) := by decide +kernel
theorem dX4_read_35 : decode cX4_read 35 = .ok (.bipush 100, 2) := by decide +kernel
theorem dX4_read_37 : decode cX4_read 37 = .ok (.aload_n 0, 1) := by decide +kernel
theorem dX4_read_38 : decode cX4_read 38 = .ok (.getfield 35, 3) := by decide +kernel
theorem dX4_read_41 : decode cX4_read 41 = .ok (.iastore, 1) := by decide +kernel
theorem dX4_read_42 : decode cX4_read 42 = .ok (.aload 4, 2) := by decide +kernel
theorem dX4_read_44 : decode cX4_read 44 = .ok (.bipush 102, 2) := by decide +kernel
theorem dX4_read_46 : decode cX4_read 46 = .ok (.aload_n 0, 1) := by decide +kernel
theorem dX4_read_47 : decode cX4_read 47 = .ok (.getfield 35, 3) := by decide +kernel
theorem dX4_read_50 : decode cX4_read 50 = .ok (.bipush 7, 2) := by decide +kernel
theorem dX4_read_52 : decode cX4_read 52 = .ok (.irem, 1) := by decide +kernel
theorem dX4_read_53 : decode cX4_read 53 = .ok (.iastore, 1) := by decide +kernel
theorem dX4_read_54 : decode cX4_read 54 = .ok (.aload 4, 2) := by decide +kernel
theorem dX4_read_56 : decode cX4_read 56 = .ok (.bipush 116, 2) := by decide +kernel
theorem dX4_read_58 : decode cX4_read 58 = .ok (.iconst 0, 1) := by decide +kernel
theorem dX4_read_59 : decode cX4_read 59 = .ok (.iastore, 1) := by decide +kernel
theorem dX4_read_60 : decode cX4_read 60 = .ok (.iconst 0, 1) := by decide +kernel
theorem dX4_read_61 : decode cX4_read 61 = .ok (.istore 5, 2) := by decide +kernel
theorem dX4_read_63 : decode cX4_read 63 = .ok (.iconst 0, 1) := by decide +kernel
theorem dX4_read_64 : decode cX4_read 64 = .ok (.istore 6, 2) := by decide +kernel
theorem dX4_read_66 : decode cX4_read 66 = .ok (.iload 6, 2) := by decide +kernel
theorem dX4_read_68 : decode cX4_read 68 = .ok (.sipush 1440, 3) := by decide +kernel
theorem dX4_read_71 : decode cX4_read 71 = .ok (.if_icmp .ge 185, 3) := by decide +kernel
theorem dX4_read_74 : decode cX4_read 74 = .ok (.aload_n 0, 1) := by decide +kernel
theorem dX4_read_75 : decode cX4_read 75 = .ok (.iload 6, 2) := by decide +kernel
theorem dX4_read_77 : decode cX4_read 77 = .ok (.iload 5, 2) := by decide +kernel
theorem dX4_read_79 : decode cX4_read 79 = .ok (.invokevirtual 47, 3) := by decide +kernel
theorem dX4_read_82 : decode cX4_read 82 = .ok (.istore 5, 2) := by decide +kernel
theorem dX4_read_84 : decode cX4_read 84 = .ok (.aload 4, 2) := by decide +kernel
theorem dX4_read_86 : decode cX4_read 86 = .ok (.bipush 103, 2) := by decide +kernel
theorem dX4_read_88 : decode cX4_read 88 = .ok (.iload 5, 2) := by decide +kernel
theorem dX4_read_90 : decode cX4_read 90 = .ok (.iastore, 1) := by decide +kernel
theorem dX4_read_91 : decode cX4_read 91 = .ok (.aload 4, 2) := by decide +kernel
theorem dX4_read_93 : decode cX4_read 93 = .ok (.bipush 104, 2) := by decide +kernel
theorem dX4_read_95 : decode cX4_read 95 = .ok (.aload_n 0, 1) := by decide +kernel
theorem dX4_read_96 : decode cX4_read 96 = .ok (.getfield 9, 3) := by decide +kernel
theorem dX4_read_99 : decode cX4_read 99 = .ok (.iload 6, 2) := by decide +kernel
theorem dX4_read_101 : decode cX4_read 101 = .ok (.iaload, 1) := by decide +kernel
theorem dX4_read_102 : decode cX4_read 102 = .ok (.iastore, 1) := by decide +kernel
theorem dX4_read_103 : decode cX4_read 103 = .ok (.aload 4, 2) := by decide +kernel
theorem dX4_read_105 : decode cX4_read 105 = .ok (.bipush 98, 2) := by decide +kernel
theorem dX4_read_107 : decode cX4_read 107 = .ok (.iload 6, 2) := by decide +kernel
theorem dX4_read_109 : decode cX4_read 109 = .ok (.ifCond .le 15, 3) := by decide +kernel
theorem dX4_read_112 : decode cX4_read 112 = .ok (.aload_n 0, 1) := by decide +kernel
theorem dX4_read_113 : decode cX4_read 113 = .ok (.getfield 9, 3) := by decide +kernel
theorem dX4_read_116 : decode cX4_read 116 = .ok (.iload 6, 2) := by decide +kernel
theorem dX4_read_118 : decode cX4_read 118 = .ok (.iconst 1, 1) := by decide +kernel
theorem dX4_read_119 : decode cX4_read 119 = .ok (.isub, 1) := by decide +kernel
theorem dX4_read_120 : decode cX4_read 120 = .ok (.iaload, 1) := by decide +kernel
theorem dX4_read_121 : decode cX4_read 121 = .ok (.goto 4, 3) := by decide +kernel
theorem dX4_read_124 : decode cX4_read 124 = .ok (.iconst 0, 1) := by decide +kernel
theorem dX4_read_125 : decode cX4_read 125 = .ok (.iastore, 1) := by decide +kernel
theorem dX4_read_126 : decode cX4_read 126 = .ok (.aload 4, 2) := by decide +kernel
theorem dX4_read_128 : decode cX4_read 128 = .ok (.bipush 108, 2) := by decide +kernel
theorem dX4_read_130 : decode cX4_read 130 = .ok (.aload_n 0, 1) := by decide +kernel
theorem dX4_read_131 : decode cX4_read 131 = .ok (.getfield 15, 3) := by decide +kernel
theorem dX4_read_134 : decode cX4_read 134 = .ok (.iload 6, 2) := by decide +kernel
theorem dX4_read_136 : decode cX4_read 136 = .ok (.iaload, 1) := by decide +kernel
theorem dX4_read_137 : decode cX4_read 137 = .ok (.iastore, 1) := by decide +kernel
theorem dX4_read_138 : decode cX4_read 138 = .ok (.aload 4, 2) := by decide +kernel
theorem dX4_read_140 : decode cX4_read 140 = .ok (.bipush 109, 2) := by decide +kernel
theorem dX4_read_142 : decode cX4_read 142 = .ok (.iload 6, 2) := by decide +kernel
theorem dX4_read_144 : decode cX4_read 144 = .ok (.iastore, 1) := by decide +kernel
theorem dX4_read_145 : decode cX4_read 145 = .ok (.aload 4, 2) := by decide +kernel
theorem dX4_read_147 : decode cX4_read 147 = .ok (.bipush 115, 2) := by decide +kernel
theorem dX4_read_149 : decode cX4_read 149 = .ok (.aload_n 0, 1) := by decide +kernel
theorem dX4_read_150 : decode cX4_read 150 = .ok (.getfield 35, 3) := by decide +kernel
theorem dX4_read_153 : decode cX4_read 153 = .ok (.iload 6, 2) := by decide +kernel
theorem dX4_read_155 : decode cX4_read 155 = .ok (.invokestatic 51, 3) := by decide +kernel
theorem dX4_read_158 : decode cX4_read 158 = .ok (.iastore, 1) := by decide +kernel
theorem dX4_read_159 : decode cX4_read 159 = .ok (.aload_n 0, 1) := by decide +kernel
theorem dX4_read_160 : decode cX4_read 160 = .ok (.iload_n 1, 1) := by decide +kernel
theorem dX4_read_161 : decode cX4_read 161 = .ok (.iload 6, 2) := by decide +kernel
theorem dX4_read_163 : decode cX4_read 163 = .ok (.iconst 2, 1) := by decide +kernel
theorem dX4_read_164 : decode cX4_read 164 = .ok (.isub, 1) := by decide +kernel
theorem dX4_read_165 : decode cX4_read 165 = .ok (.invokevirtual 54, 3) := by decide +kernel
theorem dX4_read_168 : decode cX4_read 168 = .ok (.ifCond .eq 24, 3) := by decide +kernel
theorem dX4_read_171 : decode cX4_read 171 = .ok (.aload_n 0, 1) := by decide +kernel
theorem dX4_read_172 : decode cX4_read 172 = .ok (.iload_n 1, 1) := by decide +kernel
theorem dX4_read_173 : decode cX4_read 173 = .ok (.iload 6, 2) := by decide +kernel
theorem dX4_read_175 : decode cX4_read 175 = .ok (.iconst 1, 1) := by decide +kernel
theorem dX4_read_176 : decode cX4_read 176 = .ok (.isub, 1) := by decide +kernel
theorem dX4_read_177 : decode cX4_read 177 = .ok (.invokevirtual 54, 3) := by decide +kernel
theorem dX4_read_180 : decode cX4_read 180 = .ok (.ifCond .ne 12, 3) := by decide +kernel
theorem dX4_read_183 : decode cX4_read 183 = .ok (.aload 4, 2) := by decide +kernel
theorem dX4_read_185 : decode cX4_read 185 = .ok (.bipush 116, 2) := by decide +kernel
theorem dX4_read_187 : decode cX4_read 187 = .ok (.dup2, 1) := by decide +kernel
theorem dX4_read_188 : decode cX4_read 188 = .ok (.iaload, 1) := by decide +kernel
theorem dX4_read_189 : decode cX4_read 189 = .ok (.iconst 1, 1) := by decide +kernel
theorem dX4_read_190 : decode cX4_read 190 = .ok (.iadd, 1) := by decide +kernel
theorem dX4_read_191 : decode cX4_read 191 = .ok (.iastore, 1) := by decide +kernel
theorem dX4_read_192 : decode cX4_read 192 = .ok (.aload_n 2, 1) := by decide +kernel
theorem dX4_read_193 : decode cX4_read 193 = .ok (.ifnull 19, 3) := by decide +kernel
theorem dX4_read_196 : decode cX4_read 196 = .ok (.aload_n 0, 1) := by decide +kernel
theorem dX4_read_197 : decode cX4_read 197 = .ok (.getfield 27, 3) := by decide +kernel
theorem dX4_read_200 : decode cX4_read 200 = .ok (.aload_n 2, 1) := by decide +kernel
theorem dX4_read_201 : decode cX4_read 201 = .ok (.invokevirtual 58, 3) := by decide +kernel
theorem dX4_read_204 : decode cX4_read 204 = .ok (.iconst (-1), 1) := by decide +kernel
theorem dX4_read_205 : decode cX4_read 205 = .ok (.if_icmp .eq 7, 3) := by decide +kernel
theorem dX4_read_208 : decode cX4_read 208 = .ok (.iconst 1, 1) := by decide +kernel
theorem dX4_read_209 : decode cX4_read 209 = .ok (.goto 4, 3) := by decide +kernel
theorem dX4_read_212 : decode cX4_read 212 = .ok (.iconst 0, 1) := by decide +kernel
theorem dX4_read_213 : decode cX4_read 213 = .ok (.istore 7, 2) := by decide +kernel
theorem dX4_read_215 : decode cX4_read 215 = .ok (.aload_n 0, 1) := by decide +kernel
theorem dX4_read_216 : decode cX4_read 216 = .ok (.getfield 21, 3) := by decide +kernel
theorem dX4_read_219 : decode cX4_read 219 = .ok (.iload 6, 2) := by decide +kernel
theorem dX4_read_221 : decode cX4_read 221 = .ok (.iload 7, 2) := by decide +kernel
theorem dX4_read_223 : decode cX4_read 223 = .ok (.ifCond .eq 15, 3) := by decide +kernel
theorem dX4_read_226 : decode cX4_read 226 = .ok (.aload_n 0, 1) := by decide +kernel
theorem dX4_read_227 : decode cX4_read 227 = .ok (.getfield 21, 3) := by decide +kernel
theorem dX4_read_230 : decode cX4_read 230 = .ok (.iload 6, 2) := by decide +kernel
theorem dX4_read_232 : decode cX4_read 232 = .ok (.iaload, 1) := by decide +kernel
theorem dX4_read_233 : decode cX4_read 233 = .ok (.iload_n 3, 1) := by decide +kernel
theorem dX4_read_234 : decode cX4_read 234 = .ok (.ior, 1) := by decide +kernel
theorem dX4_read_235 : decode cX4_read 235 = .ok (.goto 14, 3) := by decide +kernel
theorem dX4_read_238 : decode cX4_read 238 = .ok (.aload_n 0, 1) := by decide +kernel
theorem dX4_read_239 : decode cX4_read 239 = .ok (.getfield 21, 3) := by decide +kernel
theorem dX4_read_242 : decode cX4_read 242 = .ok (.iload 6, 2) := by decide +kernel
theorem dX4_read_244 : decode cX4_read 244 = .ok (.iaload, 1) := by decide +kernel
theorem dX4_read_245 : decode cX4_read 245 = .ok (.iload_n 3, 1) := by decide +kernel
theorem dX4_read_246 : decode cX4_read 246 = .ok (.iconst (-1), 1) := by decide +kernel
theorem dX4_read_247 : decode cX4_read 247 = .ok (.ixor, 1) := by decide +kernel
theorem dX4_read_248 : decode cX4_read 248 = .ok (.iand, 1) := by decide +kernel
theorem dX4_read_249 : decode cX4_read 249 = .ok (.iastore, 1) := by decide +kernel
theorem dX4_read_250 : decode cX4_read 250 = .ok (.iinc 6 1, 3) := by decide +kernel
theorem dX4_read_253 : decode cX4_read 253 = .ok (.goto (-187), 3) := by decide +kernel
theorem dX4_read_256 : decode cX4_read 256 = .ok (.return_, 1) := by decide +kernel
theorem dX4_greatestBefore_0 : decode cX4_greatestBefore 0 = .ok (.iload_n 1, 1) := by decide +kernel
theorem dX4_greatestBefore_1 : decode cX4_greatestBefore 1 = .ok (.ifCond .le 24, 3) := by decide +kernel
theorem dX4_greatestBefore_4 : decode cX4_greatestBefore 4 = .ok (.aload_n 0, 1) := by decide +kernel
theorem dX4_greatestBefore_5 : decode cX4_greatestBefore 5 = .ok (.getfield 9, 3) := by decide +kernel
theorem dX4_greatestBefore_8 : decode cX4_greatestBefore 8 = .ok (.iload_n 1, 1) := by decide +kernel
theorem dX4_greatestBefore_9 : decode cX4_greatestBefore 9 = .ok (.iconst 1, 1) := by decide +kernel
theorem dX4_greatestBefore_10 : decode cX4_greatestBefore 10 = .ok (.isub, 1) := by decide +kernel
theorem dX4_greatestBefore_11 : decode cX4_greatestBefore 11 = .ok (.iaload, 1) := by decide +kernel
theorem dX4_greatestBefore_12 : decode cX4_greatestBefore 12 = .ok (.iload_n 2, 1) := by decide +kernel
theorem dX4_greatestBefore_13 : decode cX4_greatestBefore 13 = .ok (.if_icmp .lt 12, 3) := by decide +kernel
theorem dX4_greatestBefore_16 : decode cX4_greatestBefore 16 = .ok (.aload_n 0, 1) := by decide +kernel
theorem dX4_greatestBefore_17 : decode cX4_greatestBefore 17 = .ok (.getfield 9, 3) := by decide +kernel
theorem dX4_greatestBefore_20 : decode cX4_greatestBefore 20 = .ok (.iload_n 1, 1) := by decide +kernel
theorem dX4_greatestBefore_21 : decode cX4_greatestBefore 21 = .ok (.iconst 1, 1) := by decide +kernel
theorem dX4_greatestBefore_22 : decode cX4_greatestBefore 22 = .ok (.isub, 1) := by decide +kernel
theorem dX4_greatestBefore_23 : decode cX4_greatestBefore 23 = .ok (.iaload, 1) := by decide +kernel
theorem dX4_greatestBefore_24 : decode cX4_greatestBefore 24 = .ok (.ireturn, 1) := by decide +kernel
theorem dX4_greatestBefore_25 : decode cX4_greatestBefore 25 = .ok (.iload_n 1, 1) := by decide +kernel
theorem dX4_greatestBefore_26 : decode cX4_greatestBefore 26 = .ok (.bipush 10, 2) := by decide +kernel
theorem dX4_greatestBefore_28 : decode cX4_greatestBefore 28 = .ok (.isub, 1) := by decide +kernel
theorem dX4_greatestBefore_29 : decode cX4_greatestBefore 29 = .ok (.iconst 1, 1) := by decide +kernel
theorem dX4_greatestBefore_30 : decode cX4_greatestBefore 30 = .ok (.isub, 1) := by decide +kernel
theorem dX4_greatestBefore_31 : decode cX4_greatestBefore 31 = .ok (.istore_n 3, 1) := by decide +kernel
theorem dX4_greatestBefore_32 : decode cX4_greatestBefore 32 = .ok (.iload_n 3, 1) := by decide +kernel
theorem dX4_greatestBefore_33 : decode cX4_greatestBefore 33 = .ok (.ifCond .lt 13, 3) := by decide +kernel
theorem dX4_greatestBefore_36 : decode cX4_greatestBefore 36 = .ok (.aload_n 0, 1) := by decide +kernel
theorem dX4_greatestBefore_37 : decode cX4_greatestBefore 37 = .ok (.getfield 9, 3) := by decide +kernel
theorem dX4_greatestBefore_40 : decode cX4_greatestBefore 40 = .ok (.iload_n 3, 1) := by decide +kernel
theorem dX4_greatestBefore_41 : decode cX4_greatestBefore 41 = .ok (.iaload, 1) := by decide +kernel
theorem dX4_greatestBefore_42 : decode cX4_greatestBefore 42 = .ok (.iload_n 2, 1) := by decide +kernel
theorem dX4_greatestBefore_43 : decode cX4_greatestBefore 43 = .ok (.if_icmp .ge 7, 3) := by decide +kernel
theorem dX4_greatestBefore_46 : decode cX4_greatestBefore 46 = .ok (.iconst 1, 1) := by decide +kernel
theorem dX4_greatestBefore_47 : decode cX4_greatestBefore 47 = .ok (.goto 4, 3) := by decide +kernel
theorem dX4_greatestBefore_50 : decode cX4_greatestBefore 50 = .ok (.iconst 0, 1) := by decide +kernel
theorem dX4_greatestBefore_51 : decode cX4_greatestBefore 51 = .ok (.istore 4, 2) := by decide +kernel
theorem dX4_greatestBefore_53 : decode cX4_greatestBefore 53 = .ok (.iload 4, 2) := by decide +kernel
theorem dX4_greatestBefore_55 : decode cX4_greatestBefore 55 = .ok (.ifCond .eq 7, 3) := by decide +kernel
theorem dX4_greatestBefore_58 : decode cX4_greatestBefore 58 = .ok (.iload_n 2, 1) := by decide +kernel
theorem dX4_greatestBefore_59 : decode cX4_greatestBefore 59 = .ok (.goto 13, 3) := by decide +kernel
theorem dX4_greatestBefore_62 : decode cX4_greatestBefore 62 = .ok (.aload_n 0, 1) := by decide +kernel
theorem dX4_greatestBefore_63 : decode cX4_greatestBefore 63 = .ok (.iload_n 3, 1) := by decide +kernel
theorem dX4_greatestBefore_64 : decode cX4_greatestBefore 64 = .ok (.iconst 1, 1) := by decide +kernel
theorem dX4_greatestBefore_65 : decode cX4_greatestBefore 65 = .ok (.iadd, 1) := by decide +kernel
theorem dX4_greatestBefore_66 : decode cX4_greatestBefore 66 = .ok (.iload_n 1, 1) := by decide +kernel
theorem dX4_greatestBefore_67 : decode cX4_greatestBefore 67 = .ok (.iconst 1, 1) := by decide +kernel
theorem dX4_greatestBefore_68 : decode cX4_greatestBefore 68 = .ok (.isub, 1) := by decide +kernel
theorem dX4_greatestBefore_69 : decode cX4_greatestBefore 69 = .ok (.invokevirtual 62, 3) := by decide +kernel
theorem dX4_greatestBefore_72 : decode cX4_greatestBefore 72 = .ok (.ireturn, 1) := by decide +kernel
theorem dX4_greatestOf_0 : decode cX4_greatestOf 0 = .ok (.iconst 0, 1) := by decide +kernel
theorem dX4_greatestOf_1 : decode cX4_greatestOf 1 = .ok (.istore_n 3, 1) := by decide +kernel
theorem dX4_greatestOf_2 : decode cX4_greatestOf 2 = .ok (.iload_n 1, 1) := by decide +kernel
theorem dX4_greatestOf_3 : decode cX4_greatestOf 3 = .ok (.istore 4, 2) := by decide +kernel
theorem dX4_greatestOf_5 : decode cX4_greatestOf 5 = .ok (.iload 4, 2) := by decide +kernel
theorem dX4_greatestOf_7 : decode cX4_greatestOf 7 = .ok (.iload_n 2, 1) := by decide +kernel
theorem dX4_greatestOf_8 : decode cX4_greatestOf 8 = .ok (.if_icmp .gt 29, 3) := by decide +kernel
theorem dX4_greatestOf_11 : decode cX4_greatestOf 11 = .ok (.iload 4, 2) := by decide +kernel
theorem dX4_greatestOf_13 : decode cX4_greatestOf 13 = .ok (.sipush 1440, 3) := by decide +kernel
theorem dX4_greatestOf_16 : decode cX4_greatestOf 16 = .ok (.if_icmp .ge 21, 3) := by decide +kernel
theorem dX4_greatestOf_19 : decode cX4_greatestOf 19 = .ok (.iload_n 3, 1) := by decide +kernel
theorem dX4_greatestOf_20 : decode cX4_greatestOf 20 = .ok (.aload_n 0, 1) := by decide +kernel
theorem dX4_greatestOf_21 : decode cX4_greatestOf 21 = .ok (.getfield 9, 3) := by decide +kernel
theorem dX4_greatestOf_24 : decode cX4_greatestOf 24 = .ok (.iload 4, 2) := by decide +kernel
theorem dX4_greatestOf_26 : decode cX4_greatestOf 26 = .ok (.iaload, 1) := by decide +kernel
theorem dX4_greatestOf_27 : decode cX4_greatestOf 27 = .ok (.invokestatic 65, 3) := by decide +kernel
theorem dX4_greatestOf_30 : decode cX4_greatestOf 30 = .ok (.istore_n 3, 1) := by decide +kernel
theorem dX4_greatestOf_31 : decode cX4_greatestOf 31 = .ok (.iinc 4 1, 3) := by decide +kernel
theorem dX4_greatestOf_34 : decode cX4_greatestOf 34 = .ok (.goto (-29), 3) := by decide +kernel
theorem dX4_greatestOf_37 : decode cX4_greatestOf 37 = .ok (.iload_n 3, 1) := by decide +kernel
theorem dX4_greatestOf_38 : decode cX4_greatestOf 38 = .ok (.ireturn, 1) := by decide +kernel
theorem dX4_isMarked_0 : decode cX4_isMarked 0 = .ok (.iload_n 2, 1) := by decide +kernel
theorem dX4_isMarked_1 : decode cX4_isMarked 1 = .ok (.invokestatic 70, 3) := by decide +kernel
theorem dX4_isMarked_4 : decode cX4_isMarked 4 = .ok (.ifCond .eq 21, 3) := by decide +kernel
theorem dX4_isMarked_7 : decode cX4_isMarked 7 = .ok (.aload_n 0, 1) := by decide +kernel
theorem dX4_isMarked_8 : decode cX4_isMarked 8 = .ok (.getfield 21, 3) := by decide +kernel
theorem dX4_isMarked_11 : decode cX4_isMarked 11 = .ok (.iload_n 2, 1) := by decide +kernel
theorem dX4_isMarked_12 : decode cX4_isMarked 12 = .ok (.iaload, 1) := by decide +kernel
theorem dX4_isMarked_13 : decode cX4_isMarked 13 = .ok (.iload_n 1, 1) := by decide +kernel
theorem dX4_isMarked_14 : decode cX4_isMarked 14 = .ok (.ishr, 1) := by decide +kernel
theorem dX4_isMarked_15 : decode cX4_isMarked 15 = .ok (.iconst 1, 1) := by decide +kernel
theorem dX4_isMarked_16 : decode cX4_isMarked 16 = .ok (.iand, 1) := by decide +kernel
theorem dX4_isMarked_17 : decode cX4_isMarked 17 = .ok (.iconst 1, 1) := by decide +kernel
theorem dX4_isMarked_18 : decode cX4_isMarked 18 = .ok (.if_icmp .ne 7, 3) := by decide +kernel
theorem dX4_isMarked_21 : decode cX4_isMarked 21 = .ok (.iconst 1, 1) := by decide +kernel
theorem dX4_isMarked_22 : decode cX4_isMarked 22 = .ok (.goto 4, 3) := by decide +kernel
theorem dX4_isMarked_25 : decode cX4_isMarked 25 = .ok (.iconst 0, 1) := by decide +kernel
theorem dX4_isMarked_26 : decode cX4_isMarked 26 = .ok (.ireturn, 1) := by decide +kernel
theorem dX4_beginsMark_0 : decode cX4_beginsMark 0 = .ok (.aload_n 0, 1) := by decide +kernel
theorem dX4_beginsMark_1 : decode cX4_beginsMark 1 = .ok (.iload_n 1, 1) := by decide +kernel
theorem dX4_beginsMark_2 : decode cX4_beginsMark 2 = .ok (.iload_n 2, 1) := by decide +kernel
theorem dX4_beginsMark_3 : decode cX4_beginsMark 3 = .ok (.invokevirtual 54, 3) := by decide +kernel
theorem dX4_beginsMark_6 : decode cX4_beginsMark 6 = .ok (.ifCond .eq 18, 3) := by decide +kernel
theorem dX4_beginsMark_9 : decode cX4_beginsMark 9 = .ok (.aload_n 0, 1) := by decide +kernel
theorem dX4_beginsMark_10 : decode cX4_beginsMark 10 = .ok (.iload_n 1, 1) := by decide +kernel
theorem dX4_beginsMark_11 : decode cX4_beginsMark 11 = .ok (.iload_n 2, 1) := by decide +kernel
theorem dX4_beginsMark_12 : decode cX4_beginsMark 12 = .ok (.iconst 1, 1) := by decide +kernel
theorem dX4_beginsMark_13 : decode cX4_beginsMark 13 = .ok (.isub, 1) := by decide +kernel
theorem dX4_beginsMark_14 : decode cX4_beginsMark 14 = .ok (.invokevirtual 54, 3) := by decide +kernel
theorem dX4_beginsMark_17 : decode cX4_beginsMark 17 = .ok (.ifCond .ne 7, 3) := by decide +kernel
theorem dX4_beginsMark_20 : decode cX4_beginsMark 20 = .ok (.iconst 1, 1) := by decide +kernel
theorem dX4_beginsMark_21 : decode cX4_beginsMark 21 = .ok (.goto 4, 3) := by decide +kernel
theorem dX4_beginsMark_24 : decode cX4_beginsMark 24 = .ok (.iconst 0, 1) := by decide +kernel
theorem dX4_beginsMark_25 : decode cX4_beginsMark 25 = .ok (.ireturn, 1) := by decide +kernel
theorem dX4_lastOf_0 : decode cX4_lastOf 0 = .ok (.iload_n 2, 1) := by decide +kernel
theorem dX4_lastOf_1 : decode cX4_lastOf 1 = .ok (.istore_n 3, 1) := by decide +kernel
theorem dX4_lastOf_2 : decode cX4_lastOf 2 = .ok (.iload_n 3, 1) := by decide +kernel
theorem dX4_lastOf_3 : decode cX4_lastOf 3 = .ok (.iconst 1, 1) := by decide +kernel
theorem dX4_lastOf_4 : decode cX4_lastOf 4 = .ok (.iadd, 1) := by decide +kernel
theorem dX4_lastOf_5 : decode cX4_lastOf 5 = .ok (.sipush 1440, 3) := by decide +kernel
theorem dX4_lastOf_8 : decode cX4_lastOf 8 = .ok (.if_icmp .ge 20, 3) := by decide +kernel
theorem dX4_lastOf_11 : decode cX4_lastOf 11 = .ok (.aload_n 0, 1) := by decide +kernel
theorem dX4_lastOf_12 : decode cX4_lastOf 12 = .ok (.iload_n 1, 1) := by decide +kernel
theorem dX4_lastOf_13 : decode cX4_lastOf 13 = .ok (.iload_n 3, 1) := by decide +kernel
theorem dX4_lastOf_14 : decode cX4_lastOf 14 = .ok (.iconst 1, 1) := by decide +kernel
theorem dX4_lastOf_15 : decode cX4_lastOf 15 = .ok (.iadd, 1) := by decide +kernel
theorem dX4_lastOf_16 : decode cX4_lastOf 16 = .ok (.invokevirtual 54, 3) := by decide +kernel
theorem dX4_lastOf_19 : decode cX4_lastOf 19 = .ok (.ifCond .eq 9, 3) := by decide +kernel
theorem dX4_lastOf_22 : decode cX4_lastOf 22 = .ok (.iinc 3 1, 3) := by decide +kernel
theorem dX4_lastOf_25 : decode cX4_lastOf 25 = .ok (.goto (-23), 3) := by decide +kernel
theorem dX4_lastOf_28 : decode cX4_lastOf 28 = .ok (.iload_n 3, 1) := by decide +kernel
theorem dX4_lastOf_29 : decode cX4_lastOf 29 = .ok (.ireturn, 1) := by decide +kernel
theorem dX4_marksOf_0 : decode cX4_marksOf 0 = .ok (.iconst 0, 1) := by decide +kernel
theorem dX4_marksOf_1 : decode cX4_marksOf 1 = .ok (.istore_n 2, 1) := by decide +kernel
theorem dX4_marksOf_2 : decode cX4_marksOf 2 = .ok (.iconst 0, 1) := by decide +kernel
theorem dX4_marksOf_3 : decode cX4_marksOf 3 = .ok (.istore_n 3, 1) := by decide +kernel
theorem dX4_marksOf_4 : decode cX4_marksOf 4 = .ok (.iload_n 3, 1) := by decide +kernel
theorem dX4_marksOf_5 : decode cX4_marksOf 5 = .ok (.sipush 1440, 3) := by decide +kernel
theorem dX4_marksOf_8 : decode cX4_marksOf 8 = .ok (.if_icmp .ge 26, 3) := by decide +kernel
theorem dX4_marksOf_11 : decode cX4_marksOf 11 = .ok (.iload_n 2, 1) := by decide +kernel
theorem dX4_marksOf_12 : decode cX4_marksOf 12 = .ok (.aload_n 0, 1) := by decide +kernel
theorem dX4_marksOf_13 : decode cX4_marksOf 13 = .ok (.iload_n 1, 1) := by decide +kernel
theorem dX4_marksOf_14 : decode cX4_marksOf 14 = .ok (.iload_n 3, 1) := by decide +kernel
theorem dX4_marksOf_15 : decode cX4_marksOf 15 = .ok (.invokevirtual 74, 3) := by decide +kernel
theorem dX4_marksOf_18 : decode cX4_marksOf 18 = .ok (.ifCond .eq 7, 3) := by decide +kernel
theorem dX4_marksOf_21 : decode cX4_marksOf 21 = .ok (.iconst 1, 1) := by decide +kernel
theorem dX4_marksOf_22 : decode cX4_marksOf 22 = .ok (.goto 4, 3) := by decide +kernel
theorem dX4_marksOf_25 : decode cX4_marksOf 25 = .ok (.iconst 0, 1) := by decide +kernel
theorem dX4_marksOf_26 : decode cX4_marksOf 26 = .ok (.iadd, 1) := by decide +kernel
theorem dX4_marksOf_27 : decode cX4_marksOf 27 = .ok (.istore_n 2, 1) := by decide +kernel
theorem dX4_marksOf_28 : decode cX4_marksOf 28 = .ok (.iinc 3 1, 3) := by decide +kernel
theorem dX4_marksOf_31 : decode cX4_marksOf 31 = .ok (.goto (-27), 3) := by decide +kernel
theorem dX4_marksOf_34 : decode cX4_marksOf 34 = .ok (.iload_n 2, 1) := by decide +kernel
theorem dX4_marksOf_35 : decode cX4_marksOf 35 = .ok (.ireturn, 1) := by decide +kernel
theorem dX4_markNumber_0 : decode cX4_markNumber 0 = .ok (.iload_n 2, 1) := by decide +kernel
theorem dX4_markNumber_1 : decode cX4_markNumber 1 = .ok (.iconst 3, 1) := by decide +kernel
theorem dX4_markNumber_2 : decode cX4_markNumber 2 = .ok (.idiv, 1) := by decide +kernel
theorem dX4_markNumber_3 : decode cX4_markNumber 3 = .ok (.istore_n 3, 1) := by decide +kernel
theorem dX4_markNumber_4 : decode cX4_markNumber 4 = .ok (.iconst 0, 1) := by decide +kernel
theorem dX4_markNumber_5 : decode cX4_markNumber 5 = .ok (.istore 4, 2) := by decide +kernel
theorem dX4_markNumber_7 : decode cX4_markNumber 7 = .ok (.iload 4, 2) := by decide +kernel
theorem dX4_markNumber_9 : decode cX4_markNumber 9 = .ok (.sipush 1440, 3) := by decide +kernel
theorem dX4_markNumber_12 : decode cX4_markNumber 12 = .ok (.if_icmp .ge 37, 3) := by decide +kernel
theorem dX4_markNumber_15 : decode cX4_markNumber 15 = .ok (.aload_n 0, 1) := by decide +kernel
theorem dX4_markNumber_16 : decode cX4_markNumber 16 = .ok (.iload_n 1, 1) := by decide +kernel
theorem dX4_markNumber_17 : decode cX4_markNumber 17 = .ok (.iload 4, 2) := by decide +kernel
theorem dX4_markNumber_19 : decode cX4_markNumber 19 = .ok (.invokevirtual 74, 3) := by decide +kernel
theorem dX4_markNumber_22 : decode cX4_markNumber 22 = .ok (.ifCond .eq 21, 3) := by decide +kernel
theorem dX4_markNumber_25 : decode cX4_markNumber 25 = .ok (.iload_n 3, 1) := by decide +kernel
theorem dX4_markNumber_26 : decode cX4_markNumber 26 = .ok (.ifCond .ne 14, 3) := by decide +kernel
theorem dX4_markNumber_29 : decode cX4_markNumber 29 = .ok (.aload_n 0, 1) := by decide +kernel
theorem dX4_markNumber_30 : decode cX4_markNumber 30 = .ok (.iload_n 1, 1) := by decide +kernel
theorem dX4_markNumber_31 : decode cX4_markNumber 31 = .ok (.iload 4, 2) := by decide +kernel
theorem dX4_markNumber_33 : decode cX4_markNumber 33 = .ok (.iload_n 2, 1) := by decide +kernel
theorem dX4_markNumber_34 : decode cX4_markNumber 34 = .ok (.iconst 3, 1) := by decide +kernel
theorem dX4_markNumber_35 : decode cX4_markNumber 35 = .ok (.irem, 1) := by decide +kernel
theorem dX4_markNumber_36 : decode cX4_markNumber 36 = .ok (.invokevirtual 77, 3) := by decide +kernel
theorem dX4_markNumber_39 : decode cX4_markNumber 39 = .ok (.ireturn, 1) := by decide +kernel
theorem dX4_markNumber_40 : decode cX4_markNumber 40 = .ok (.iinc 3 (-1), 3) := by decide +kernel
theorem dX4_markNumber_43 : decode cX4_markNumber 43 = .ok (.iinc 4 1, 3) := by decide +kernel
theorem dX4_markNumber_46 : decode cX4_markNumber 46 = .ok (.goto (-39), 3) := by decide +kernel
theorem dX4_markNumber_49 : decode cX4_markNumber 49 = .ok (.iconst (-1), 1) := by decide +kernel
theorem dX4_markNumber_50 : decode cX4_markNumber 50 = .ok (.ireturn, 1) := by decide +kernel
theorem dX4_numberOf_0 : decode cX4_numberOf 0 = .ok (.iload_n 3, 1) := by decide +kernel
theorem dX4_numberOf_1 : decode cX4_numberOf 1 = .ok (.ifCond .ne 5, 3) := by decide +kernel
theorem dX4_numberOf_4 : decode cX4_numberOf 4 = .ok (.iload_n 2, 1) := by decide +kernel
theorem dX4_numberOf_5 : decode cX4_numberOf 5 = .ok (.ireturn, 1) := by decide +kernel
theorem dX4_numberOf_6 : decode cX4_numberOf 6 = .ok (.aload_n 0, 1) := by decide +kernel
theorem dX4_numberOf_7 : decode cX4_numberOf 7 = .ok (.iload_n 1, 1) := by decide +kernel
theorem dX4_numberOf_8 : decode cX4_numberOf 8 = .ok (.iload_n 2, 1) := by decide +kernel
theorem dX4_numberOf_9 : decode cX4_numberOf 9 = .ok (.invokevirtual 81, 3) := by decide +kernel
theorem dX4_numberOf_12 : decode cX4_numberOf 12 = .ok (.istore 4, 2) := by decide +kernel
theorem dX4_numberOf_14 : decode cX4_numberOf 14 = .ok (.iload_n 3, 1) := by decide +kernel
theorem dX4_numberOf_15 : decode cX4_numberOf 15 = .ok (.iconst 1, 1) := by decide +kernel
theorem dX4_numberOf_16 : decode cX4_numberOf 16 = .ok (.if_icmp .ne 8, 3) := by decide +kernel
theorem dX4_numberOf_19 : decode cX4_numberOf 19 = .ok (.iload 4, 2) := by decide +kernel
theorem dX4_numberOf_21 : decode cX4_numberOf 21 = .ok (.goto 10, 3) := by decide +kernel
theorem dX4_numberOf_24 : decode cX4_numberOf 24 = .ok (.aload_n 0, 1) := by decide +kernel
theorem dX4_numberOf_25 : decode cX4_numberOf 25 = .ok (.iload_n 2, 1) := by decide +kernel
theorem dX4_numberOf_26 : decode cX4_numberOf 26 = .ok (.iload 4, 2) := by decide +kernel
theorem dX4_numberOf_28 : decode cX4_numberOf 28 = .ok (.invokevirtual 62, 3) := by decide +kernel
theorem dX4_numberOf_31 : decode cX4_numberOf 31 = .ok (.ireturn, 1) := by decide +kernel
theorem dX4_beginsPassed_0 : decode cX4_beginsPassed 0 = .ok (.aload_n 0, 1) := by decide +kernel
theorem dX4_beginsPassed_1 : decode cX4_beginsPassed 1 = .ok (.iload_n 2, 1) := by decide +kernel
theorem dX4_beginsPassed_2 : decode cX4_beginsPassed 2 = .ok (.iload_n 3, 1) := by decide +kernel
theorem dX4_beginsPassed_3 : decode cX4_beginsPassed 3 = .ok (.invokevirtual 74, 3) := by decide +kernel
theorem dX4_beginsPassed_6 : decode cX4_beginsPassed 6 = .ok (.ifCond .ne 5, 3) := by decide +kernel
theorem dX4_beginsPassed_9 : decode cX4_beginsPassed 9 = .ok (.iconst 0, 1) := by decide +kernel
theorem dX4_beginsPassed_10 : decode cX4_beginsPassed 10 = .ok (.ireturn, 1) := by decide +kernel
theorem dX4_beginsPassed_11 : decode cX4_beginsPassed 11 = .ok (.iload_n 3, 1) := by decide +kernel
theorem dX4_beginsPassed_12 : decode cX4_beginsPassed 12 = .ok (.istore 4, 2) := by decide +kernel
theorem dX4_beginsPassed_14 : decode cX4_beginsPassed 14 = .ok (.iload 4, 2) := by decide +kernel
theorem dX4_beginsPassed_16 : decode cX4_beginsPassed 16 = .ok (.sipush 1440, 3) := by decide +kernel
theorem dX4_beginsPassed_19 : decode cX4_beginsPassed 19 = .ok (.if_icmp .ge 31, 3) := by decide +kernel
theorem dX4_beginsPassed_22 : decode cX4_beginsPassed 22 = .ok (.aload_n 0, 1) := by decide +kernel
theorem dX4_beginsPassed_23 : decode cX4_beginsPassed 23 = .ok (.iload_n 2, 1) := by decide +kernel
theorem dX4_beginsPassed_24 : decode cX4_beginsPassed 24 = .ok (.iload 4, 2) := by decide +kernel
theorem dX4_beginsPassed_26 : decode cX4_beginsPassed 26 = .ok (.invokevirtual 54, 3) := by decide +kernel
theorem dX4_beginsPassed_29 : decode cX4_beginsPassed 29 = .ok (.ifCond .eq 21, 3) := by decide +kernel
theorem dX4_beginsPassed_32 : decode cX4_beginsPassed 32 = .ok (.aload_n 0, 1) := by decide +kernel
theorem dX4_beginsPassed_33 : decode cX4_beginsPassed 33 = .ok (.iload_n 1, 1) := by decide +kernel
theorem dX4_beginsPassed_34 : decode cX4_beginsPassed 34 = .ok (.iload 4, 2) := by decide +kernel
theorem dX4_beginsPassed_36 : decode cX4_beginsPassed 36 = .ok (.invokevirtual 54, 3) := by decide +kernel
theorem dX4_beginsPassed_39 : decode cX4_beginsPassed 39 = .ok (.ifCond .eq 5, 3) := by decide +kernel
theorem dX4_beginsPassed_42 : decode cX4_beginsPassed 42 = .ok (.iconst 0, 1) := by decide +kernel
theorem dX4_beginsPassed_43 : decode cX4_beginsPassed 43 = .ok (.ireturn, 1) := by decide +kernel
theorem dX4_beginsPassed_44 : decode cX4_beginsPassed 44 = .ok (.iinc 4 1, 3) := by decide +kernel
theorem dX4_beginsPassed_47 : decode cX4_beginsPassed 47 = .ok (.goto (-33), 3) := by decide +kernel
theorem dX4_beginsPassed_50 : decode cX4_beginsPassed 50 = .ok (.iconst 1, 1) := by decide +kernel
theorem dX4_beginsPassed_51 : decode cX4_beginsPassed 51 = .ok (.ireturn, 1) := by decide +kernel
theorem dX4_passedMarks_0 : decode cX4_passedMarks 0 = .ok (.iconst 0, 1) := by decide +kernel
theorem dX4_passedMarks_1 : decode cX4_passedMarks 1 = .ok (.istore_n 3, 1) := by decide +kernel
theorem dX4_passedMarks_2 : decode cX4_passedMarks 2 = .ok (.iconst 0, 1) := by decide +kernel
theorem dX4_passedMarks_3 : decode cX4_passedMarks 3 = .ok (.istore 4, 2) := by decide +kernel
theorem dX4_passedMarks_5 : decode cX4_passedMarks 5 = .ok (.iload 4, 2) := by decide +kernel
theorem dX4_passedMarks_7 : decode cX4_passedMarks 7 = .ok (.sipush 1440, 3) := by decide +kernel
theorem dX4_passedMarks_10 : decode cX4_passedMarks 10 = .ok (.if_icmp .ge 28, 3) := by decide +kernel
theorem dX4_passedMarks_13 : decode cX4_passedMarks 13 = .ok (.iload_n 3, 1) := by decide +kernel
theorem dX4_passedMarks_14 : decode cX4_passedMarks 14 = .ok (.aload_n 0, 1) := by decide +kernel
theorem dX4_passedMarks_15 : decode cX4_passedMarks 15 = .ok (.iload_n 1, 1) := by decide +kernel
theorem dX4_passedMarks_16 : decode cX4_passedMarks 16 = .ok (.iload_n 2, 1) := by decide +kernel
theorem dX4_passedMarks_17 : decode cX4_passedMarks 17 = .ok (.iload 4, 2) := by decide +kernel
theorem dX4_passedMarks_19 : decode cX4_passedMarks 19 = .ok (.invokevirtual 84, 3) := by decide +kernel
theorem dX4_passedMarks_22 : decode cX4_passedMarks 22 = .ok (.ifCond .eq 7, 3) := by decide +kernel
theorem dX4_passedMarks_25 : decode cX4_passedMarks 25 = .ok (.iconst 1, 1) := by decide +kernel
theorem dX4_passedMarks_26 : decode cX4_passedMarks 26 = .ok (.goto 4, 3) := by decide +kernel
theorem dX4_passedMarks_29 : decode cX4_passedMarks 29 = .ok (.iconst 0, 1) := by decide +kernel
theorem dX4_passedMarks_30 : decode cX4_passedMarks 30 = .ok (.iadd, 1) := by decide +kernel
theorem dX4_passedMarks_31 : decode cX4_passedMarks 31 = .ok (.istore_n 3, 1) := by decide +kernel
theorem dX4_passedMarks_32 : decode cX4_passedMarks 32 = .ok (.iinc 4 1, 3) := by decide +kernel
theorem dX4_passedMarks_35 : decode cX4_passedMarks 35 = .ok (.goto (-30), 3) := by decide +kernel
theorem dX4_passedMarks_38 : decode cX4_passedMarks 38 = .ok (.iload_n 3, 1) := by decide +kernel
theorem dX4_passedMarks_39 : decode cX4_passedMarks 39 = .ok (.ireturn, 1) := by decide +kernel
theorem dX4_firstPassed_0 : decode cX4_firstPassed 0 = .ok (.iconst 0, 1) := by decide +kernel
theorem dX4_firstPassed_1 : decode cX4_firstPassed 1 = .ok (.istore_n 3, 1) := by decide +kernel
theorem dX4_firstPassed_2 : decode cX4_firstPassed 2 = .ok (.iload_n 3, 1) := by decide +kernel
theorem dX4_firstPassed_3 : decode cX4_firstPassed 3 = .ok (.sipush 1440, 3) := by decide +kernel
theorem dX4_firstPassed_6 : decode cX4_firstPassed 6 = .ok (.if_icmp .ge 21, 3) := by decide +kernel
theorem dX4_firstPassed_9 : decode cX4_firstPassed 9 = .ok (.aload_n 0, 1) := by decide +kernel
theorem dX4_firstPassed_10 : decode cX4_firstPassed 10 = .ok (.iload_n 1, 1) := by decide +kernel
theorem dX4_firstPassed_11 : decode cX4_firstPassed 11 = .ok (.iload_n 2, 1) := by decide +kernel
theorem dX4_firstPassed_12 : decode cX4_firstPassed 12 = .ok (.iload_n 3, 1) := by decide +kernel
theorem dX4_firstPassed_13 : decode cX4_firstPassed 13 = .ok (.invokevirtual 84, 3) := by decide +kernel
theorem dX4_firstPassed_16 : decode cX4_firstPassed 16 = .ok (.ifCond .eq 5, 3) := by decide +kernel
theorem dX4_firstPassed_19 : decode cX4_firstPassed 19 = .ok (.iload_n 3, 1) := by decide +kernel
theorem dX4_firstPassed_20 : decode cX4_firstPassed 20 = .ok (.ireturn, 1) := by decide +kernel
theorem dX4_firstPassed_21 : decode cX4_firstPassed 21 = .ok (.iinc 3 1, 3) := by decide +kernel
theorem dX4_firstPassed_24 : decode cX4_firstPassed 24 = .ok (.goto (-22), 3) := by decide +kernel
theorem dX4_firstPassed_27 : decode cX4_firstPassed 27 = .ok (.iconst (-1), 1) := by decide +kernel
theorem dX4_firstPassed_28 : decode cX4_firstPassed 28 = .ok (.ireturn, 1) := by decide +kernel
theorem dX4_firstWrong_0 : decode cX4_firstWrong 0 = .ok (.iconst 0, 1) := by decide +kernel
theorem dX4_firstWrong_1 : decode cX4_firstWrong 1 = .ok (.istore 4, 2) := by decide +kernel
theorem dX4_firstWrong_3 : decode cX4_firstWrong 3 = .ok (.iconst 0, 1) := by decide +kernel
theorem dX4_firstWrong_4 : decode cX4_firstWrong 4 = .ok (.istore 5, 2) := by decide +kernel
theorem dX4_firstWrong_6 : decode cX4_firstWrong 6 = .ok (.iload 5, 2) := by decide +kernel
theorem dX4_firstWrong_8 : decode cX4_firstWrong 8 = .ok (.sipush 1440, 3) := by decide +kernel
theorem dX4_firstWrong_11 : decode cX4_firstWrong 11 = .ok (.if_icmp .ge 69, 3) := by decide +kernel
theorem dX4_firstWrong_14 : decode cX4_firstWrong 14 = .ok (.aload_n 0, 1) := by decide +kernel
theorem dX4_firstWrong_15 : decode cX4_firstWrong 15 = .ok (.iload_n 1, 1) := by decide +kernel
theorem dX4_firstWrong_16 : decode cX4_firstWrong 16 = .ok (.iload 5, 2) := by decide +kernel
theorem dX4_firstWrong_18 : decode cX4_firstWrong 18 = .ok (.invokevirtual 74, 3) := by decide +kernel
theorem dX4_firstWrong_21 : decode cX4_firstWrong 21 = .ok (.ifCond .eq 53, 3) := by decide +kernel
theorem dX4_firstWrong_24 : decode cX4_firstWrong 24 = .ok (.iload 4, 2) := by decide +kernel
theorem dX4_firstWrong_26 : decode cX4_firstWrong 26 = .ok (.iconst 3, 1) := by decide +kernel
theorem dX4_firstWrong_27 : decode cX4_firstWrong 27 = .ok (.iload_n 3, 1) := by decide +kernel
theorem dX4_firstWrong_28 : decode cX4_firstWrong 28 = .ok (.imul, 1) := by decide +kernel
theorem dX4_firstWrong_29 : decode cX4_firstWrong 29 = .ok (.if_icmp .lt 6, 3) := by decide +kernel
theorem dX4_firstWrong_32 : decode cX4_firstWrong 32 = .ok (.iload 4, 2) := by decide +kernel
theorem dX4_firstWrong_34 : decode cX4_firstWrong 34 = .ok (.ireturn, 1) := by decide +kernel
theorem dX4_firstWrong_35 : decode cX4_firstWrong 35 = .ok (.iconst 0, 1) := by decide +kernel
theorem dX4_firstWrong_36 : decode cX4_firstWrong 36 = .ok (.istore 6, 2) := by decide +kernel
theorem dX4_firstWrong_38 : decode cX4_firstWrong 38 = .ok (.iload 6, 2) := by decide +kernel
theorem dX4_firstWrong_40 : decode cX4_firstWrong 40 = .ok (.iconst 3, 1) := by decide +kernel
theorem dX4_firstWrong_41 : decode cX4_firstWrong 41 = .ok (.if_icmp .ge 33, 3) := by decide +kernel
theorem dX4_firstWrong_44 : decode cX4_firstWrong 44 = .ok (.aload_n 2, 1) := by decide +kernel
theorem dX4_firstWrong_45 : decode cX4_firstWrong 45 = .ok (.iload 4, 2) := by decide +kernel
theorem dX4_firstWrong_47 : decode cX4_firstWrong 47 = .ok (.invokevirtual 88, 3) := by decide +kernel
theorem dX4_firstWrong_50 : decode cX4_firstWrong 50 = .ok (.aload_n 0, 1) := by decide +kernel
theorem dX4_firstWrong_51 : decode cX4_firstWrong 51 = .ok (.iload_n 1, 1) := by decide +kernel
theorem dX4_firstWrong_52 : decode cX4_firstWrong 52 = .ok (.iload 5, 2) := by decide +kernel
theorem dX4_firstWrong_54 : decode cX4_firstWrong 54 = .ok (.iload 6, 2) := by decide +kernel
theorem dX4_firstWrong_56 : decode cX4_firstWrong 56 = .ok (.invokevirtual 77, 3) := by decide +kernel
theorem dX4_firstWrong_59 : decode cX4_firstWrong 59 = .ok (.if_icmp .eq 6, 3) := by decide +kernel
theorem dX4_firstWrong_62 : decode cX4_firstWrong 62 = .ok (.iload 4, 2) := by decide +kernel
theorem dX4_firstWrong_64 : decode cX4_firstWrong 64 = .ok (.ireturn, 1) := by decide +kernel
theorem dX4_firstWrong_65 : decode cX4_firstWrong 65 = .ok (.iinc 4 1, 3) := by decide +kernel
theorem dX4_firstWrong_68 : decode cX4_firstWrong 68 = .ok (.iinc 6 1, 3) := by decide +kernel
theorem dX4_firstWrong_71 : decode cX4_firstWrong 71 = .ok (.goto (-33), 3) := by decide +kernel
theorem dX4_firstWrong_74 : decode cX4_firstWrong 74 = .ok (.iinc 5 1, 3) := by decide +kernel
theorem dX4_firstWrong_77 : decode cX4_firstWrong 77 = .ok (.goto (-71), 3) := by decide +kernel
theorem dX4_firstWrong_80 : decode cX4_firstWrong 80 = .ok (.iload 4, 2) := by decide +kernel
theorem dX4_firstWrong_82 : decode cX4_firstWrong 82 = .ok (.iconst 3, 1) := by decide +kernel
theorem dX4_firstWrong_83 : decode cX4_firstWrong 83 = .ok (.iload_n 3, 1) := by decide +kernel
theorem dX4_firstWrong_84 : decode cX4_firstWrong 84 = .ok (.imul, 1) := by decide +kernel
theorem dX4_firstWrong_85 : decode cX4_firstWrong 85 = .ok (.if_icmp .ge 8, 3) := by decide +kernel
theorem dX4_firstWrong_88 : decode cX4_firstWrong 88 = .ok (.iload 4, 2) := by decide +kernel
theorem dX4_firstWrong_90 : decode cX4_firstWrong 90 = .ok (.goto 4, 3) := by decide +kernel
theorem dX4_firstWrong_93 : decode cX4_firstWrong 93 = .ok (.iconst (-1), 1) := by decide +kernel
theorem dX4_firstWrong_94 : decode cX4_firstWrong 94 = .ok (.ireturn, 1) := by decide +kernel
theorem dX5_firstThatHolds_0 : decode cX5_firstThatHolds 0 = .ok (.iconst 0, 1) := by decide +kernel
theorem dX5_firstThatHolds_1 : decode cX5_firstThatHolds 1 = .ok (.istore_n 2, 1) := by decide +kernel
theorem dX5_firstThatHolds_2 : decode cX5_firstThatHolds 2 = .ok (.iload_n 2, 1) := by decide +kernel
theorem dX5_firstThatHolds_3 : decode cX5_firstThatHolds 3 = .ok (.aload_n 1, 1) := by decide +kernel
theorem dX5_firstThatHolds_4 : decode cX5_firstThatHolds 4 = .ok (.getfield 18, 3) := by decide +kernel
theorem dX5_firstThatHolds_7 : decode cX5_firstThatHolds 7 = .ok (.if_icmp .ge 36, 3) := by decide +kernel
theorem dX5_firstThatHolds_10 : decode cX5_firstThatHolds 10 = .ok (.aload_n 0, 1) := by decide +kernel
theorem dX5_firstThatHolds_11 : decode cX5_firstThatHolds 11 = .ok (.aload_n 1, 1) := by decide +kernel
theorem dX5_firstThatHolds_12 : decode cX5_firstThatHolds 12 = .ok (.getfield 24, 3) := by decide +kernel
theorem dX5_firstThatHolds_15 : decode cX5_firstThatHolds 15 = .ok (.aload_n 1, 1) := by decide +kernel
theorem dX5_firstThatHolds_16 : decode cX5_firstThatHolds 16 = .ok (.getfield 27, 3) := by decide +kernel
theorem dX5_firstThatHolds_19 : decode cX5_firstThatHolds 19 = .ok (.iload_n 2, 1) := by decide +kernel
theorem dX5_firstThatHolds_20 : decode cX5_firstThatHolds 20 = .ok (.iaload, 1) := by decide +kernel
theorem dX5_firstThatHolds_21 : decode cX5_firstThatHolds 21 = .ok (.aload_n 1, 1) := by decide +kernel
theorem dX5_firstThatHolds_22 : decode cX5_firstThatHolds 22 = .ok (.getfield 30, 3) := by decide +kernel
theorem dX5_firstThatHolds_25 : decode cX5_firstThatHolds 25 = .ok (.iload_n 2, 1) := by decide +kernel
theorem dX5_firstThatHolds_26 : decode cX5_firstThatHolds 26 = .ok (.iconst 1, 1) := by decide +kernel
theorem dX5_firstThatHolds_27 : decode cX5_firstThatHolds 27 = .ok (.iadd, 1) := by decide +kernel
theorem dX5_firstThatHolds_28 : decode cX5_firstThatHolds 28 = .ok (.iaload, 1) := by decide +kernel
theorem dX5_firstThatHolds_29 : decode cX5_firstThatHolds 29 = .ok (.invokevirtual 33, 3) := by decide +kernel
theorem dX5_firstThatHolds_32 : decode cX5_firstThatHolds 32 = .ok (.ifCond .eq 5, 3) := by decide +kernel
theorem dX5_firstThatHolds_35 : decode cX5_firstThatHolds 35 = .ok (.iload_n 2, 1) := by decide +kernel
theorem dX5_firstThatHolds_36 : decode cX5_firstThatHolds 36 = .ok (.ireturn, 1) := by decide +kernel
theorem dX5_firstThatHolds_37 : decode cX5_firstThatHolds 37 = .ok (.iinc 2 1, 3) := by decide +kernel
theorem dX5_firstThatHolds_40 : decode cX5_firstThatHolds 40 = .ok (.goto (-38), 3) := by decide +kernel
theorem dX5_firstThatHolds_43 : decode cX5_firstThatHolds 43 = .ok (.iconst (-1), 1) := by decide +kernel
theorem dX5_firstThatHolds_44 : decode cX5_firstThatHolds 44 = .ok (.ireturn, 1) := by decide +kernel
theorem dX5_worth_0 : decode cX5_worth 0 = .ok (.aload_n 0, 1) := by decide +kernel
theorem dX5_worth_1 : decode cX5_worth 1 = .ok (.aload_n 1, 1) := by decide +kernel
theorem dX5_worth_2 : decode cX5_worth 2 = .ok (.getfield 24, 3) := by decide +kernel
theorem dX5_worth_5 : decode cX5_worth 5 = .ok (.aload_n 1, 1) := by decide +kernel
theorem dX5_worth_6 : decode cX5_worth 6 = .ok (.getfield 30, 3) := by decide +kernel
theorem dX5_worth_9 : decode cX5_worth 9 = .ok (.iload_n 2, 1) := by decide +kernel
theorem dX5_worth_10 : decode cX5_worth 10 = .ok (.iaload, 1) := by decide +kernel
theorem dX5_worth_11 : decode cX5_worth 11 = .ok (.aload_n 1, 1) := by decide +kernel
theorem dX5_worth_12 : decode cX5_worth 12 = .ok (.getfield 27, 3) := by decide +kernel
theorem dX5_worth_15 : decode cX5_worth 15 = .ok (.iload_n 2, 1) := by decide +kernel
theorem dX5_worth_16 : decode cX5_worth 16 = .ok (.iaload, 1) := by decide +kernel
theorem dX5_worth_17 : decode cX5_worth 17 = .ok (.invokevirtual 33, 3) := by decide +kernel
theorem dX5_worth_20 : decode cX5_worth 20 = .ok (.ireturn, 1) := by decide +kernel
theorem dX5_reckon_0 : decode cX5_reckon 0 = .ok (.iconst 0, 1) := by decide +kernel
theorem dX5_reckon_1 : decode cX5_reckon 1 = .ok (.istore 4, 2) := by decide +kernel
theorem dX5_reckon_3 : decode cX5_reckon 3 = .ok (.iload_n 2, 1) := by decide +kernel
theorem dX5_reckon_4 : decode cX5_reckon 4 = .ok (.istore 5, 2) := by decide +kernel
theorem dX5_reckon_6 : decode cX5_reckon 6 = .ok (.iload_n 2, 1) := by decide +kernel
theorem dX5_reckon_7 : decode cX5_reckon 7 = .ok (.istore 6, 2) := by decide +kernel
theorem dX5_reckon_9 : decode cX5_reckon 9 = .ok (.iload 6, 2) := by decide +kernel
theorem dX5_reckon_11 : decode cX5_reckon 11 = .ok (.iload_n 3, 1) := by decide +kernel
theorem dX5_reckon_12 : decode cX5_reckon 12 = .ok (.if_icmp .ge 261, 3) := by decide +kernel
theorem dX5_reckon_15 : decode cX5_reckon 15 = .ok (.iload 6, 2) := by decide +kernel
theorem dX5_reckon_17 : decode cX5_reckon 17 = .ok (.aload_n 1, 1) := by decide +kernel
theorem dX5_reckon_18 : decode cX5_reckon 18 = .ok (.arraylength, 1) := by decide +kernel
theorem dX5_reckon_19 : decode cX5_reckon 19 = .ok (.if_icmp .ge 254, 3) := by decide +kernel
theorem dX5_reckon_22 : decode cX5_reckon 22 = .ok (.iload 6, 2) := by decide +kernel
theorem dX5_reckon_24 : decode cX5_reckon 24 = .ok (.iload 5, 2) := by decide +kernel
theorem dX5_reckon_26 : decode cX5_reckon 26 = .ok (.if_icmp .ge 6, 3) := by decide +kernel
theorem dX5_reckon_29 : decode cX5_reckon 29 = .ok (.goto 238, 3) := by decide +kernel
theorem dX5_reckon_32 : decode cX5_reckon 32 = .ok (.aload_n 1, 1) := by decide +kernel
theorem dX5_reckon_33 : decode cX5_reckon 33 = .ok (.iload 6, 2) := by decide +kernel
theorem dX5_reckon_35 : decode cX5_reckon 35 = .ok (.iaload, 1) := by decide +kernel
theorem dX5_reckon_36 : decode cX5_reckon 36 = .ok (.sipush 255, 3) := by decide +kernel
theorem dX5_reckon_39 : decode cX5_reckon 39 = .ok (.iand, 1) := by decide +kernel
theorem dX5_reckon_40 : decode cX5_reckon 40 = .ok (.istore 7, 2) := by decide +kernel
theorem dX5_reckon_42 : decode cX5_reckon 42 = .ok (.aload_n 1, 1) := by decide +kernel
theorem dX5_reckon_43 : decode cX5_reckon 43 = .ok (.iload 6, 2) := by decide +kernel
theorem dX5_reckon_45 : decode cX5_reckon 45 = .ok (.iaload, 1) := by decide +kernel
theorem dX5_reckon_46 : decode cX5_reckon 46 = .ok (.bipush 8, 2) := by decide +kernel
theorem dX5_reckon_48 : decode cX5_reckon 48 = .ok (.iushr, 1) := by decide +kernel
theorem dX5_reckon_49 : decode cX5_reckon 49 = .ok (.istore 8, 2) := by decide +kernel
theorem dX5_reckon_51 : decode cX5_reckon 51 = .ok (.iload 7, 2) := by decide +kernel
theorem dX5_reckon_53 : decode cX5_reckon 53 = .ok (.bipush 48, 2) := by decide +kernel
theorem dX5_reckon_55 : decode cX5_reckon 55 = .ok (.if_icmp .eq 10, 3) := by decide +kernel
theorem dX5_reckon_58 : decode cX5_reckon 58 = .ok (.iload 7, 2) := by decide +kernel
theorem dX5_reckon_60 : decode cX5_reckon 60 = .ok (.bipush 97, 2) := by decide +kernel
theorem dX5_reckon_62 : decode cX5_reckon 62 = .ok (.if_icmp .ne 47, 3) := by decide +kernel
theorem dX5_reckon_65 : decode cX5_reckon 65 = .ok (.iload 4, 2) := by decide +kernel
theorem dX5_reckon_67 : decode cX5_reckon 67 = .ok (.bipush 32, 2) := by decide +kernel
theorem dX5_reckon_69 : decode cX5_reckon 69 = .ok (.if_icmp .lt 5, 3) := by decide +kernel
theorem dX5_reckon_72 : decode cX5_reckon 72 = .ok (.iconst 0, 1) := by decide +kernel
theorem dX5_reckon_73 : decode cX5_reckon 73 = .ok (.ireturn, 1) := by decide +kernel
theorem dX5_reckon_74 : decode cX5_reckon 74 = .ok (.aload_n 0, 1) := by decide +kernel
theorem dX5_reckon_75 : decode cX5_reckon 75 = .ok (.getfield 15, 3) := by decide +kernel
theorem dX5_reckon_78 : decode cX5_reckon 78 = .ok (.iload 4, 2) := by decide +kernel
theorem dX5_reckon_80 : decode cX5_reckon 80 = .ok (.iload 7, 2) := by decide +kernel
theorem dX5_reckon_82 : decode cX5_reckon 82 = .ok (.bipush 48, 2) := by decide +kernel
theorem dX5_reckon_84 : decode cX5_reckon 84 = .ok (.if_icmp .ne 8, 3) := by decide +kernel
theorem dX5_reckon_87 : decode cX5_reckon 87 = .ok (.iload 8, 2) := by decide +kernel
theorem dX5_reckon_89 : decode cX5_reckon 89 = .ok (.goto 13, 3) := by decide +kernel
theorem dX5_reckon_92 : decode cX5_reckon 92 = .ok (.aload_n 0, 1) := by decide +kernel
