theorem dX0_init_0 : decode cX0_init 0 = .ok (.aload_n 0, 1) := by decide +kernel
theorem dX0_init_1 : decode cX0_init 1 = .ok (.invokespecial 3, 3) := by decide +kernel
theorem dX0_init_4 : decode cX0_init 4 = .ok (.aload_n 0, 1) := by decide +kernel
theorem dX0_init_5 : decode cX0_init 5 = .ok (.bipush 40, 2) := by decide +kernel
theorem dX0_init_7 : decode cX0_init 7 = .ok (.newarray .int, 2) := by decide +kernel
theorem dX0_init_9 : decode cX0_init 9 = .ok (.putfield 9, 3) := by decide +kernel
theorem dX0_init_12 : decode cX0_init 12 = .ok (.aload_n 0, 1) := by decide +kernel
theorem dX0_init_13 : decode cX0_init 13 = .ok (.bipush 40, 2) := by decide +kernel
theorem dX0_init_15 : decode cX0_init 15 = .ok (.newarray .int, 2) := by decide +kernel
theorem dX0_init_17 : decode cX0_init 17 = .ok (.putfield 15, 3) := by decide +kernel
theorem dX0_init_20 : decode cX0_init 20 = .ok (.aload_n 0, 1) := by decide +kernel
theorem dX0_init_21 : decode cX0_init 21 = .ok (.iconst 0, 1) := by decide +kernel
theorem dX0_init_22 : decode cX0_init 22 = .ok (.putfield 18, 3) := by decide +kernel
theorem dX0_init_25 : decode cX0_init 25 = .ok (.aload_n 0, 1) := by decide +kernel
theorem dX0_init_26 : decode cX0_init 26 = .ok (.iconst 0, 1) := by decide +kernel
theorem dX0_init_27 : decode cX0_init 27 = .ok (.putfield 22, 3) := by decide +kernel
theorem dX0_init_30 : decode cX0_init 30 = .ok (.aload_n 0, 1) := by decide +kernel
theorem dX0_init_31 : decode cX0_init 31 = .ok (.iconst (-1), 1) := by decide +kernel
theorem dX0_init_32 : decode cX0_init 32 = .ok (.putfield 25, 3) := by decide +kernel
theorem dX0_init_35 : decode cX0_init 35 = .ok (.aload_n 0, 1) := by decide +kernel
theorem dX0_init_36 : decode cX0_init 36 = .ok (.iconst (-1), 1) := by decide +kernel
theorem dX0_init_37 : decode cX0_init 37 = .ok (.putfield 28, 3) := by decide +kernel
theorem dX0_init_40 : decode cX0_init 40 = .ok (.return_, 1) := by decide +kernel
theorem dX0_add_0 : decode cX0_add 0 = .ok (.aload_n 0, 1) := by decide +kernel
theorem dX0_add_1 : decode cX0_add 1 = .ok (.getfield 18, 3) := by decide +kernel
theorem dX0_add_4 : decode cX0_add 4 = .ok (.bipush 40, 2) := by decide +kernel
theorem dX0_add_6 : decode cX0_add 6 = .ok (.if_icmp .ge 25, 3) := by decide +kernel
theorem dX0_add_9 : decode cX0_add 9 = .ok (.aload_n 0, 1) := by decide +kernel
theorem dX0_add_10 : decode cX0_add 10 = .ok (.getfield 18, 3) := by decide +kernel
theorem dX0_add_13 : decode cX0_add 13 = .ok (.ifCond .le 20, 3) := by decide +kernel
theorem dX0_add_16 : decode cX0_add 16 = .ok (.iload_n 1, 1) := by decide +kernel
theorem dX0_add_17 : decode cX0_add 17 = .ok (.aload_n 0, 1) := by decide +kernel
theorem dX0_add_18 : decode cX0_add 18 = .ok (.getfield 9, 3) := by decide +kernel
theorem dX0_add_21 : decode cX0_add 21 = .ok (.aload_n 0, 1) := by decide +kernel
theorem dX0_add_22 : decode cX0_add 22 = .ok (.getfield 18, 3) := by decide +kernel
theorem dX0_add_25 : decode cX0_add 25 = .ok (.iconst 1, 1) := by decide +kernel
theorem dX0_add_26 : decode cX0_add 26 = .ok (.isub, 1) := by decide +kernel
theorem dX0_add_27 : decode cX0_add 27 = .ok (.iaload, 1) := by decide +kernel
theorem dX0_add_28 : decode cX0_add 28 = .ok (.if_icmp .gt 5, 3) := by decide +kernel
theorem dX0_add_31 : decode cX0_add 31 = .ok (.iconst (-1), 1) := by decide +kernel
theorem dX0_add_32 : decode cX0_add 32 = .ok (.ireturn, 1) := by decide +kernel
theorem dX0_add_33 : decode cX0_add 33 = .ok (.aload_n 0, 1) := by decide +kernel
theorem dX0_add_34 : decode cX0_add 34 = .ok (.getfield 9, 3) := by decide +kernel
theorem dX0_add_37 : decode cX0_add 37 = .ok (.aload_n 0, 1) := by decide +kernel
theorem dX0_add_38 : decode cX0_add 38 = .ok (.getfield 18, 3) := by decide +kernel
theorem dX0_add_41 : decode cX0_add 41 = .ok (.iload_n 1, 1) := by decide +kernel
theorem dX0_add_42 : decode cX0_add 42 = .ok (.iastore, 1) := by decide +kernel
theorem dX0_add_43 : decode cX0_add 43 = .ok (.aload_n 0, 1) := by decide +kernel
theorem dX0_add_44 : decode cX0_add 44 = .ok (.dup, 1) := by decide +kernel
theorem dX0_add_45 : decode cX0_add 45 = .ok (.getfield 18, 3) := by decide +kernel
theorem dX0_add_48 : decode cX0_add 48 = .ok (.iconst 1, 1) := by decide +kernel
theorem dX0_add_49 : decode cX0_add 49 = .ok (.iadd, 1) := by decide +kernel
theorem dX0_add_50 : decode cX0_add 50 = .ok (.putfield 18, 3) := by decide +kernel
theorem dX0_add_53 : decode cX0_add 53 = .ok (.aload_n 0, 1) := by decide +kernel
theorem dX0_add_54 : decode cX0_add 54 = .ok (.getfield 18, 3) := by decide +kernel
theorem dX0_add_57 : decode cX0_add 57 = .ok (.iconst 1, 1) := by decide +kernel
theorem dX0_add_58 : decode cX0_add 58 = .ok (.isub, 1) := by decide +kernel
theorem dX0_add_59 : decode cX0_add 59 = .ok (.ireturn, 1) := by decide +kernel
theorem dX1_init_0 : decode cX1_init 0 = .ok (.aload_n 0, 1) := by decide +kernel
theorem dX1_init_1 : decode cX1_init 1 = .ok (.invokespecial 3, 3) := by decide +kernel
theorem dX1_init_4 : decode cX1_init 4 = .ok (.aload_n 0, 1) := by decide +kernel
theorem dX1_init_5 : decode cX1_init 5 = .ok (.bipush 40, 2) := by decide +kernel
theorem dX1_init_7 : decode cX1_init 7 = .ok (.newarray .int, 2) := by decide +kernel
theorem dX1_init_9 : decode cX1_init 9 = .ok (.putfield 9, 3) := by decide +kernel
theorem dX1_init_12 : decode cX1_init 12 = .ok (.aload_n 0, 1) := by decide +kernel
theorem dX1_init_13 : decode cX1_init 13 = .ok (.bipush 6, 2) := by decide +kernel
theorem dX1_init_15 : decode cX1_init 15 = .ok (.newarray .int, 2) := by decide +kernel
theorem dX1_init_17 : decode cX1_init 17 = .ok (.putfield 15, 3) := by decide +kernel
theorem dX1_init_20 : decode cX1_init 20 = .ok (.aload_n 0, 1) := by decide +kernel
theorem dX1_init_21 : decode cX1_init 21 = .ok (.sipush 287, 3) := by decide +kernel
theorem dX1_init_24 : decode cX1_init 24 = .ok (.newarray .int, 2) := by decide +kernel
theorem dX1_init_26 : decode cX1_init 26 = .ok (.putfield 18, 3) := by decide +kernel
theorem dX1_init_29 : decode cX1_init 29 = .ok (.aload_n 0, 1) := by decide +kernel
theorem dX1_init_30 : decode cX1_init 30 = .ok (.iconst 0, 1) := by decide +kernel
theorem dX1_init_31 : decode cX1_init 31 = .ok (.putfield 21, 3) := by decide +kernel
theorem dX1_init_34 : decode cX1_init 34 = .ok (.return_, 1) := by decide +kernel
theorem dX1_choose_0 : decode cX1_choose 0 = .ok (.aload_n 0, 1) := by decide +kernel
theorem dX1_choose_1 : decode cX1_choose 1 = .ok (.iload_n 1, 1) := by decide +kernel
theorem dX1_choose_2 : decode cX1_choose 2 = .ok (.iload_n 2, 1) := by decide +kernel
theorem dX1_choose_3 : decode cX1_choose 3 = .ok (.invokevirtual 25, 3) := by decide +kernel
theorem dX1_choose_6 : decode cX1_choose 6 = .ok (.aload_n 0, 1) := by decide +kernel
theorem dX1_choose_7 : decode cX1_choose 7 = .ok (.aload_n 0, 1) := by decide +kernel
theorem dX1_choose_8 : decode cX1_choose 8 = .ok (.getfield 18, 3) := by decide +kernel
theorem dX1_choose_11 : decode cX1_choose 11 = .ok (.iload_n 1, 1) := by decide +kernel
theorem dX1_choose_12 : decode cX1_choose 12 = .ok (.bipush 41, 2) := by decide +kernel
theorem dX1_choose_14 : decode cX1_choose 14 = .ok (.imul, 1) := by decide +kernel
theorem dX1_choose_15 : decode cX1_choose 15 = .ok (.iaload, 1) := by decide +kernel
theorem dX1_choose_16 : decode cX1_choose 16 = .ok (.putfield 21, 3) := by decide +kernel
theorem dX1_choose_19 : decode cX1_choose 19 = .ok (.iconst 1, 1) := by decide +kernel
theorem dX1_choose_20 : decode cX1_choose 20 = .ok (.istore_n 3, 1) := by decide +kernel
theorem dX1_choose_21 : decode cX1_choose 21 = .ok (.iconst 0, 1) := by decide +kernel
theorem dX1_choose_22 : decode cX1_choose 22 = .ok (.istore 4, 2) := by decide +kernel
theorem dX1_choose_24 : decode cX1_choose 24 = .ok (.iconst 0, 1) := by decide +kernel
theorem dX1_choose_25 : decode cX1_choose 25 = .ok (.istore 5, 2) := by decide +kernel
theorem dX1_choose_27 : decode cX1_choose 27 = .ok (.iload 5, 2) := by decide +kernel
theorem dX1_choose_29 : decode cX1_choose 29 = .ok (.iload_n 1, 1) := by decide +kernel
theorem dX1_choose_30 : decode cX1_choose 30 = .ok (.if_icmp .ge 76, 3) := by decide +kernel
theorem dX1_choose_33 : decode cX1_choose 33 = .ok (.iload_n 1, 1) := by decide +kernel
theorem dX1_choose_34 : decode cX1_choose 34 = .ok (.iload 5, 2) := by decide +kernel
theorem dX1_choose_36 : decode cX1_choose 36 = .ok (.isub, 1) := by decide +kernel
theorem dX1_choose_37 : decode cX1_choose 37 = .ok (.iconst 1, 1) := by decide +kernel
theorem dX1_choose_38 : decode cX1_choose 38 = .ok (.isub, 1) := by decide +kernel
theorem dX1_choose_39 : decode cX1_choose 39 = .ok (.istore 6, 2) := by decide +kernel
theorem dX1_choose_41 : decode cX1_choose 41 = .ok (.iload 4, 2) := by decide +kernel
theorem dX1_choose_43 : decode cX1_choose 43 = .ok (.bipush 39, 2) := by decide +kernel
theorem dX1_choose_45 : decode cX1_choose 45 = .ok (.if_icmp .ge 22, 3) := by decide +kernel
theorem dX1_choose_48 : decode cX1_choose 48 = .ok (.aload_n 0, 1) := by decide +kernel
theorem dX1_choose_49 : decode cX1_choose 49 = .ok (.iload_n 3, 1) := by decide +kernel
theorem dX1_choose_50 : decode cX1_choose 50 = .ok (.iload 4, 2) := by decide +kernel
theorem dX1_choose_52 : decode cX1_choose 52 = .ok (.iload 6, 2) := by decide +kernel
theorem dX1_choose_54 : decode cX1_choose 54 = .ok (.iload_n 2, 1) := by decide +kernel
theorem dX1_choose_55 : decode cX1_choose 55 = .ok (.invokevirtual 29, 3) := by decide +kernel
theorem dX1_choose_58 : decode cX1_choose 58 = .ok (.ifCond .ne 9, 3) := by decide +kernel
theorem dX1_choose_61 : decode cX1_choose 61 = .ok (.iinc 4 1, 3) := by decide +kernel
theorem dX1_choose_64 : decode cX1_choose 64 = .ok (.goto (-23), 3) := by decide +kernel
theorem dX1_choose_67 : decode cX1_choose 67 = .ok (.aload_n 0, 1) := by decide +kernel
theorem dX1_choose_68 : decode cX1_choose 68 = .ok (.getfield 15, 3) := by decide +kernel
theorem dX1_choose_71 : decode cX1_choose 71 = .ok (.iload 5, 2) := by decide +kernel
theorem dX1_choose_73 : decode cX1_choose 73 = .ok (.iload 4, 2) := by decide +kernel
theorem dX1_choose_75 : decode cX1_choose 75 = .ok (.iastore, 1) := by decide +kernel
theorem dX1_choose_76 : decode cX1_choose 76 = .ok (.iload_n 3, 1) := by decide +kernel
theorem dX1_choose_77 : decode cX1_choose 77 = .ok (.bipush 10, 2) := by decide +kernel
theorem dX1_choose_79 : decode cX1_choose 79 = .ok (.aload_n 0, 1) := by decide +kernel
theorem dX1_choose_80 : decode cX1_choose 80 = .ok (.getfield 9, 3) := by decide +kernel
theorem dX1_choose_83 : decode cX1_choose 83 = .ok (.iload 4, 2) := by decide +kernel
theorem dX1_choose_85 : decode cX1_choose 85 = .ok (.iaload, 1) := by decide +kernel
theorem dX1_choose_86 : decode cX1_choose 86 = .ok (.isub, 1) := by decide +kernel
theorem dX1_choose_87 : decode cX1_choose 87 = .ok (.imul, 1) := by decide +kernel
theorem dX1_choose_88 : decode cX1_choose 88 = .ok (.istore_n 3, 1) := by decide +kernel
theorem dX1_choose_89 : decode cX1_choose 89 = .ok (.bipush 39, 2) := by decide +kernel
theorem dX1_choose_91 : decode cX1_choose 91 = .ok (.iload 4, 2) := by decide +kernel
theorem dX1_choose_93 : decode cX1_choose 93 = .ok (.iload_n 2, 1) := by decide +kernel
theorem dX1_choose_94 : decode cX1_choose 94 = .ok (.iadd, 1) := by decide +kernel
theorem dX1_choose_95 : decode cX1_choose 95 = .ok (.invokestatic 33, 3) := by decide +kernel
theorem dX1_choose_98 : decode cX1_choose 98 = .ok (.istore 4, 2) := by decide +kernel
theorem dX1_choose_100 : decode cX1_choose 100 = .ok (.iinc 5 1, 3) := by decide +kernel
theorem dX1_choose_103 : decode cX1_choose 103 = .ok (.goto (-76), 3) := by decide +kernel
theorem dX1_choose_106 : decode cX1_choose 106 = .ok (.return_, 1) := by decide +kernel
theorem dX1_weigh_0 : decode cX1_weigh 0 = .ok (.iconst 0, 1) := by decide +kernel
theorem dX1_weigh_1 : decode cX1_weigh 1 = .ok (.istore_n 3, 1) := by decide +kernel
theorem dX1_weigh_2 : decode cX1_weigh 2 = .ok (.iload_n 3, 1) := by decide +kernel
theorem dX1_weigh_3 : decode cX1_weigh 3 = .ok (.iload_n 1, 1) := by decide +kernel
theorem dX1_weigh_4 : decode cX1_weigh 4 = .ok (.if_icmp .gt 131, 3) := by decide +kernel
theorem dX1_weigh_7 : decode cX1_weigh 7 = .ok (.aload_n 0, 1) := by decide +kernel
theorem dX1_weigh_8 : decode cX1_weigh 8 = .ok (.getfield 18, 3) := by decide +kernel
theorem dX1_weigh_11 : decode cX1_weigh 11 = .ok (.iload_n 3, 1) := by decide +kernel
theorem dX1_weigh_12 : decode cX1_weigh 12 = .ok (.bipush 41, 2) := by decide +kernel
theorem dX1_weigh_14 : decode cX1_weigh 14 = .ok (.imul, 1) := by decide +kernel
theorem dX1_weigh_15 : decode cX1_weigh 15 = .ok (.bipush 40, 2) := by decide +kernel
theorem dX1_weigh_17 : decode cX1_weigh 17 = .ok (.iadd, 1) := by decide +kernel
theorem dX1_weigh_18 : decode cX1_weigh 18 = .ok (.iload_n 3, 1) := by decide +kernel
theorem dX1_weigh_19 : decode cX1_weigh 19 = .ok (.ifCond .ne 7, 3) := by decide +kernel
theorem dX1_weigh_22 : decode cX1_weigh 22 = .ok (.iconst 1, 1) := by decide +kernel
theorem dX1_weigh_23 : decode cX1_weigh 23 = .ok (.goto 4, 3) := by decide +kernel
theorem dX1_weigh_26 : decode cX1_weigh 26 = .ok (.iconst (-1), 1) := by decide +kernel
theorem dX1_weigh_27 : decode cX1_weigh 27 = .ok (.iastore, 1) := by decide +kernel
theorem dX1_weigh_28 : decode cX1_weigh 28 = .ok (.bipush 39, 2) := by decide +kernel
theorem dX1_weigh_30 : decode cX1_weigh 30 = .ok (.istore 4, 2) := by decide +kernel
theorem dX1_weigh_32 : decode cX1_weigh 32 = .ok (.iload 4, 2) := by decide +kernel
theorem dX1_weigh_34 : decode cX1_weigh 34 = .ok (.ifCond .lt 95, 3) := by decide +kernel
theorem dX1_weigh_37 : decode cX1_weigh 37 = .ok (.aload_n 0, 1) := by decide +kernel
theorem dX1_weigh_38 : decode cX1_weigh 38 = .ok (.getfield 18, 3) := by decide +kernel
theorem dX1_weigh_41 : decode cX1_weigh 41 = .ok (.iload_n 3, 1) := by decide +kernel
theorem dX1_weigh_42 : decode cX1_weigh 42 = .ok (.bipush 41, 2) := by decide +kernel
theorem dX1_weigh_44 : decode cX1_weigh 44 = .ok (.imul, 1) := by decide +kernel
theorem dX1_weigh_45 : decode cX1_weigh 45 = .ok (.iload 4, 2) := by decide +kernel
theorem dX1_weigh_47 : decode cX1_weigh 47 = .ok (.iadd, 1) := by decide +kernel
theorem dX1_weigh_48 : decode cX1_weigh 48 = .ok (.iconst 1, 1) := by decide +kernel
theorem dX1_weigh_49 : decode cX1_weigh 49 = .ok (.iadd, 1) := by decide +kernel
theorem dX1_weigh_50 : decode cX1_weigh 50 = .ok (.iaload, 1) := by decide +kernel
theorem dX1_weigh_51 : decode cX1_weigh 51 = .ok (.istore 5, 2) := by decide +kernel
theorem dX1_weigh_53 : decode cX1_weigh 53 = .ok (.iload_n 3, 1) := by decide +kernel
theorem dX1_weigh_54 : decode cX1_weigh 54 = .ok (.ifCond .ne 7, 3) := by decide +kernel
theorem dX1_weigh_57 : decode cX1_weigh 57 = .ok (.iconst 1, 1) := by decide +kernel
theorem dX1_weigh_58 : decode cX1_weigh 58 = .ok (.goto 13, 3) := by decide +kernel
theorem dX1_weigh_61 : decode cX1_weigh 61 = .ok (.aload_n 0, 1) := by decide +kernel
theorem dX1_weigh_62 : decode cX1_weigh 62 = .ok (.iload 4, 2) := by decide +kernel
theorem dX1_weigh_64 : decode cX1_weigh 64 = .ok (.iload_n 3, 1) := by decide +kernel
theorem dX1_weigh_65 : decode cX1_weigh 65 = .ok (.iconst 1, 1) := by decide +kernel
theorem dX1_weigh_66 : decode cX1_weigh 66 = .ok (.isub, 1) := by decide +kernel
theorem dX1_weigh_67 : decode cX1_weigh 67 = .ok (.iload_n 2, 1) := by decide +kernel
theorem dX1_weigh_68 : decode cX1_weigh 68 = .ok (.invokevirtual 39, 3) := by decide +kernel
theorem dX1_weigh_71 : decode cX1_weigh 71 = .ok (.istore 6, 2) := by decide +kernel
theorem dX1_weigh_73 : decode cX1_weigh 73 = .ok (.iload 6, 2) := by decide +kernel
theorem dX1_weigh_75 : decode cX1_weigh 75 = .ok (.iconst (-1), 1) := by decide +kernel
theorem dX1_weigh_76 : decode cX1_weigh 76 = .ok (.if_icmp .eq 20, 3) := by decide +kernel
theorem dX1_weigh_79 : decode cX1_weigh 79 = .ok (.iload 5, 2) := by decide +kernel
theorem dX1_weigh_81 : decode cX1_weigh 81 = .ok (.iconst (-1), 1) := by decide +kernel
theorem dX1_weigh_82 : decode cX1_weigh 82 = .ok (.if_icmp .eq 10, 3) := by decide +kernel
theorem dX1_weigh_85 : decode cX1_weigh 85 = .ok (.iload 6, 2) := by decide +kernel
theorem dX1_weigh_87 : decode cX1_weigh 87 = .ok (.iload 5, 2) := by decide +kernel
theorem dX1_weigh_89 : decode cX1_weigh 89 = .ok (.if_icmp .ge 7, 3) := by decide +kernel
theorem dX1_weigh_92 : decode cX1_weigh 92 = .ok (.iconst 1, 1) := by decide +kernel
theorem dX1_weigh_93 : decode cX1_weigh 93 = .ok (.goto 4, 3) := by decide +kernel
theorem dX1_weigh_96 : decode cX1_weigh 96 = .ok (.iconst 0, 1) := by decide +kernel
theorem dX1_weigh_97 : decode cX1_weigh 97 = .ok (.istore 7, 2) := by decide +kernel
theorem dX1_weigh_99 : decode cX1_weigh 99 = .ok (.aload_n 0, 1) := by decide +kernel
theorem dX1_weigh_100 : decode cX1_weigh 100 = .ok (.getfield 18, 3) := by decide +kernel
theorem dX1_weigh_103 : decode cX1_weigh 103 = .ok (.iload_n 3, 1) := by decide +kernel
theorem dX1_weigh_104 : decode cX1_weigh 104 = .ok (.bipush 41, 2) := by decide +kernel
theorem dX1_weigh_106 : decode cX1_weigh 106 = .ok (.imul, 1) := by decide +kernel
theorem dX1_weigh_107 : decode cX1_weigh 107 = .ok (.iload 4, 2) := by decide +kernel
theorem dX1_weigh_109 : decode cX1_weigh 109 = .ok (.iadd, 1) := by decide +kernel
theorem dX1_weigh_110 : decode cX1_weigh 110 = .ok (.iload 7, 2) := by decide +kernel
theorem dX1_weigh_112 : decode cX1_weigh 112 = .ok (.ifCond .eq 8, 3) := by decide +kernel
theorem dX1_weigh_115 : decode cX1_weigh 115 = .ok (.iload 6, 2) := by decide +kernel
theorem dX1_weigh_117 : decode cX1_weigh 117 = .ok (.goto 5, 3) := by decide +kernel
theorem dX1_weigh_120 : decode cX1_weigh 120 = .ok (.iload 5, 2) := by decide +kernel
theorem dX1_weigh_122 : decode cX1_weigh 122 = .ok (.iastore, 1) := by decide +kernel
theorem dX1_weigh_123 : decode cX1_weigh 123 = .ok (.iinc 4 (-1), 3) := by decide +kernel
theorem dX1_weigh_126 : decode cX1_weigh 126 = .ok (.goto (-94), 3) := by decide +kernel
theorem dX1_weigh_129 : decode cX1_weigh 129 = .ok (.iinc 3 1, 3) := by decide +kernel
theorem dX1_weigh_132 : decode cX1_weigh 132 = .ok (.goto (-130), 3) := by decide +kernel
theorem dX1_weigh_135 : decode cX1_weigh 135 = .ok (.return_, 1) := by decide +kernel
theorem dX1_missesFrom_0 : decode cX1_missesFrom 0 = .ok (.aload_n 0, 1) := by decide +kernel
theorem dX1_missesFrom_1 : decode cX1_missesFrom 1 = .ok (.getfield 18, 3) := by decide +kernel
theorem dX1_missesFrom_4 : decode cX1_missesFrom 4 = .ok (.iload_n 2, 1) := by decide +kernel
theorem dX1_missesFrom_5 : decode cX1_missesFrom 5 = .ok (.bipush 41, 2) := by decide +kernel
theorem dX1_missesFrom_7 : decode cX1_missesFrom 7 = .ok (.imul, 1) := by decide +kernel
theorem dX1_missesFrom_8 : decode cX1_missesFrom 8 = .ok (.bipush 40, 2) := by decide +kernel
theorem dX1_missesFrom_10 : decode cX1_missesFrom 10 = .ok (.iload_n 1, 1) := by decide +kernel
theorem dX1_missesFrom_11 : decode cX1_missesFrom 11 = .ok (.iload_n 3, 1) := by decide +kernel
theorem dX1_missesFrom_12 : decode cX1_missesFrom 12 = .ok (.iadd, 1) := by decide +kernel
theorem dX1_missesFrom_13 : decode cX1_missesFrom 13 = .ok (.invokestatic 33, 3) := by decide +kernel
theorem dX1_missesFrom_16 : decode cX1_missesFrom 16 = .ok (.iadd, 1) := by decide +kernel
theorem dX1_missesFrom_17 : decode cX1_missesFrom 17 = .ok (.iaload, 1) := by decide +kernel
theorem dX1_missesFrom_18 : decode cX1_missesFrom 18 = .ok (.istore 4, 2) := by decide +kernel
theorem dX1_missesFrom_20 : decode cX1_missesFrom 20 = .ok (.iload 4, 2) := by decide +kernel
theorem dX1_missesFrom_22 : decode cX1_missesFrom 22 = .ok (.iconst (-1), 1) := by decide +kernel
theorem dX1_missesFrom_23 : decode cX1_missesFrom 23 = .ok (.if_icmp .ne 7, 3) := by decide +kernel
theorem dX1_missesFrom_26 : decode cX1_missesFrom 26 = .ok (.iconst (-1), 1) := by decide +kernel
theorem dX1_missesFrom_27 : decode cX1_missesFrom 27 = .ok (.goto 15, 3) := by decide +kernel
theorem dX1_missesFrom_30 : decode cX1_missesFrom 30 = .ok (.bipush 10, 2) := by decide +kernel
theorem dX1_missesFrom_32 : decode cX1_missesFrom 32 = .ok (.aload_n 0, 1) := by decide +kernel
theorem dX1_missesFrom_33 : decode cX1_missesFrom 33 = .ok (.getfield 9, 3) := by decide +kernel
theorem dX1_missesFrom_36 : decode cX1_missesFrom 36 = .ok (.iload_n 1, 1) := by decide +kernel
theorem dX1_missesFrom_37 : decode cX1_missesFrom 37 = .ok (.iaload, 1) := by decide +kernel
theorem dX1_missesFrom_38 : decode cX1_missesFrom 38 = .ok (.isub, 1) := by decide +kernel
theorem dX1_missesFrom_39 : decode cX1_missesFrom 39 = .ok (.iload 4, 2) := by decide +kernel
theorem dX1_missesFrom_41 : decode cX1_missesFrom 41 = .ok (.imul, 1) := by decide +kernel
theorem dX1_missesFrom_42 : decode cX1_missesFrom 42 = .ok (.ireturn, 1) := by decide +kernel
theorem dX1_goesOn_0 : decode cX1_goesOn 0 = .ok (.aload_n 0, 1) := by decide +kernel
theorem dX1_goesOn_1 : decode cX1_goesOn 1 = .ok (.iload_n 2, 1) := by decide +kernel
theorem dX1_goesOn_2 : decode cX1_goesOn 2 = .ok (.iload_n 3, 1) := by decide +kernel
theorem dX1_goesOn_3 : decode cX1_goesOn 3 = .ok (.iload 4, 2) := by decide +kernel
theorem dX1_goesOn_5 : decode cX1_goesOn 5 = .ok (.invokevirtual 39, 3) := by decide +kernel
theorem dX1_goesOn_8 : decode cX1_goesOn 8 = .ok (.istore 5, 2) := by decide +kernel
theorem dX1_goesOn_10 : decode cX1_goesOn 10 = .ok (.iload 5, 2) := by decide +kernel
theorem dX1_goesOn_12 : decode cX1_goesOn 12 = .ok (.iconst (-1), 1) := by decide +kernel
theorem dX1_goesOn_13 : decode cX1_goesOn 13 = .ok (.if_icmp .eq 18, 3) := by decide +kernel
theorem dX1_goesOn_16 : decode cX1_goesOn 16 = .ok (.iload_n 1, 1) := by decide +kernel
theorem dX1_goesOn_17 : decode cX1_goesOn 17 = .ok (.iload 5, 2) := by decide +kernel
theorem dX1_goesOn_19 : decode cX1_goesOn 19 = .ok (.imul, 1) := by decide +kernel
theorem dX1_goesOn_20 : decode cX1_goesOn 20 = .ok (.aload_n 0, 1) := by decide +kernel
theorem dX1_goesOn_21 : decode cX1_goesOn 21 = .ok (.getfield 21, 3) := by decide +kernel
theorem dX1_goesOn_24 : decode cX1_goesOn 24 = .ok (.if_icmp .ne 7, 3) := by decide +kernel
theorem dX1_goesOn_27 : decode cX1_goesOn 27 = .ok (.iconst 1, 1) := by decide +kernel
theorem dX1_goesOn_28 : decode cX1_goesOn 28 = .ok (.goto 4, 3) := by decide +kernel
theorem dX1_goesOn_31 : decode cX1_goesOn 31 = .ok (.iconst 0, 1) := by decide +kernel
theorem dX1_goesOn_32 : decode cX1_goesOn 32 = .ok (.ireturn, 1) := by decide +kernel
theorem dX1_choices_0 : decode cX1_choices 0 = .ok (.lconst 1, 1) := by decide +kernel
theorem dX1_choices_1 : decode cX1_choices 1 = .ok (.lstore_n 2, 1) := by decide +kernel
theorem dX1_choices_2 : decode cX1_choices 2 = .ok (.iconst 1, 1) := by decide +kernel
theorem dX1_choices_3 : decode cX1_choices 3 = .ok (.istore 4, 2) := by decide +kernel
theorem dX1_choices_5 : decode cX1_choices 5 = .ok (.iload 4, 2) := by decide +kernel
theorem dX1_choices_7 : decode cX1_choices 7 = .ok (.iload_n 1, 1) := by decide +kernel
theorem dX1_choices_8 : decode cX1_choices 8 = .ok (.if_icmp .gt 23, 3) := by decide +kernel
theorem dX1_choices_11 : decode cX1_choices 11 = .ok (.lload_n 2, 1) := by decide +kernel
theorem dX1_choices_12 : decode cX1_choices 12 = .ok (.iload_n 0, 1) := by decide +kernel
theorem dX1_choices_13 : decode cX1_choices 13 = .ok (.iload_n 1, 1) := by decide +kernel
theorem dX1_choices_14 : decode cX1_choices 14 = .ok (.isub, 1) := by decide +kernel
theorem dX1_choices_15 : decode cX1_choices 15 = .ok (.iload 4, 2) := by decide +kernel
theorem dX1_choices_17 : decode cX1_choices 17 = .ok (.iadd, 1) := by decide +kernel
theorem dX1_choices_18 : decode cX1_choices 18 = .ok (.i2l, 1) := by decide +kernel
theorem dX1_choices_19 : decode cX1_choices 19 = .ok (.lmul, 1) := by decide +kernel
theorem dX1_choices_20 : decode cX1_choices 20 = .ok (.iload 4, 2) := by decide +kernel
theorem dX1_choices_22 : decode cX1_choices 22 = .ok (.i2l, 1) := by decide +kernel
theorem dX1_choices_23 : decode cX1_choices 23 = .ok (.ldiv, 1) := by decide +kernel
theorem dX1_choices_24 : decode cX1_choices 24 = .ok (.lstore_n 2, 1) := by decide +kernel
theorem dX1_choices_25 : decode cX1_choices 25 = .ok (.iinc 4 1, 3) := by decide +kernel
theorem dX1_choices_28 : decode cX1_choices 28 = .ok (.goto (-23), 3) := by decide +kernel
theorem dX1_choices_31 : decode cX1_choices 31 = .ok (.lload_n 2, 1) := by decide +kernel
theorem dX1_choices_32 : decode cX1_choices 32 = .ok (.lreturn, 1) := by decide +kernel
theorem dX1_drawsWith_0 : decode cX1_drawsWith 0 = .ok (.iload_n 0, 1) := by decide +kernel
theorem dX1_drawsWith_1 : decode cX1_drawsWith 1 = .ok (.iload_n 2, 1) := by decide +kernel
theorem dX1_drawsWith_2 : decode cX1_drawsWith 2 = .ok (.invokestatic 43, 3) := by decide +kernel
theorem dX1_drawsWith_5 : decode cX1_drawsWith 5 = .ok (.iload_n 3, 1) := by decide +kernel
theorem dX1_drawsWith_6 : decode cX1_drawsWith 6 = .ok (.iload_n 0, 1) := by decide +kernel
theorem dX1_drawsWith_7 : decode cX1_drawsWith 7 = .ok (.isub, 1) := by decide +kernel
theorem dX1_drawsWith_8 : decode cX1_drawsWith 8 = .ok (.iload_n 1, 1) := by decide +kernel
theorem dX1_drawsWith_9 : decode cX1_drawsWith 9 = .ok (.iload_n 2, 1) := by decide +kernel
theorem dX1_drawsWith_10 : decode cX1_drawsWith 10 = .ok (.isub, 1) := by decide +kernel
theorem dX1_drawsWith_11 : decode cX1_drawsWith 11 = .ok (.invokestatic 43, 3) := by decide +kernel
theorem dX1_drawsWith_14 : decode cX1_drawsWith 14 = .ok (.lmul, 1) := by decide +kernel
theorem dX1_drawsWith_15 : decode cX1_drawsWith 15 = .ok (.lreturn, 1) := by decide +kernel
theorem dX1_commonDivisor_0 : decode cX1_commonDivisor 0 = .ok (.lload_n 0, 1) := by decide +kernel
theorem dX1_commonDivisor_1 : decode cX1_commonDivisor 1 = .ok (.lstore 4, 2) := by decide +kernel
theorem dX1_commonDivisor_3 : decode cX1_commonDivisor 3 = .ok (.lload_n 2, 1) := by decide +kernel
theorem dX1_commonDivisor_4 : decode cX1_commonDivisor 4 = .ok (.lstore 6, 2) := by decide +kernel
theorem dX1_commonDivisor_6 : decode cX1_commonDivisor 6 = .ok (.iconst 0, 1) := by decide +kernel
theorem dX1_commonDivisor_7 : decode cX1_commonDivisor 7 = .ok (.istore 8, 2) := by decide +kernel
theorem dX1_commonDivisor_9 : decode cX1_commonDivisor 9 = .ok (.iload 8, 2) := by decide +kernel
theorem dX1_commonDivisor_11 : decode cX1_commonDivisor 11 = .ok (.bipush 100, 2) := by decide +kernel
theorem dX1_commonDivisor_13 : decode cX1_commonDivisor 13 = .ok (.if_icmp .ge 31, 3) := by decide +kernel
theorem dX1_commonDivisor_16 : decode cX1_commonDivisor 16 = .ok (.lload 6, 2) := by decide +kernel
theorem dX1_commonDivisor_18 : decode cX1_commonDivisor 18 = .ok (.lconst 0, 1) := by decide +kernel
theorem dX1_commonDivisor_19 : decode cX1_commonDivisor 19 = .ok (.lcmp, 1) := by decide +kernel
theorem dX1_commonDivisor_20 : decode cX1_commonDivisor 20 = .ok (.ifCond .eq 24, 3) := by decide +kernel
theorem dX1_commonDivisor_23 : decode cX1_commonDivisor 23 = .ok (.lload 4, 2) := by decide +kernel
theorem dX1_commonDivisor_25 : decode cX1_commonDivisor 25 = .ok (.lload 6, 2) := by decide +kernel
theorem dX1_commonDivisor_27 : decode cX1_commonDivisor 27 = .ok (.lrem, 1) := by decide +kernel
theorem dX1_commonDivisor_28 : decode cX1_commonDivisor 28 = .ok (.lstore 9, 2) := by decide +kernel
theorem dX1_commonDivisor_30 : decode cX1_commonDivisor 30 = .ok (.lload 6, 2) := by decide +kernel
theorem dX1_commonDivisor_32 : decode cX1_commonDivisor 32 = .ok (.lstore 4, 2) := by decide +kernel
theorem dX1_commonDivisor_34 : decode cX1_commonDivisor 34 = .ok (.lload 9, 2) := by decide +kernel
theorem dX1_commonDivisor_36 : decode cX1_commonDivisor 36 = .ok (.lstore 6, 2) := by decide +kernel
theorem dX1_commonDivisor_38 : decode cX1_commonDivisor 38 = .ok (.iinc 8 1, 3) := by decide +kernel
theorem dX1_commonDivisor_41 : decode cX1_commonDivisor 41 = .ok (.goto (-32), 3) := by decide +kernel
theorem dX1_commonDivisor_44 : decode cX1_commonDivisor 44 = .ok (.lconst 1, 1) := by decide +kernel
theorem dX1_commonDivisor_45 : decode cX1_commonDivisor 45 = .ok (.lload 4, 2) := by decide +kernel
theorem dX1_commonDivisor_47 : decode cX1_commonDivisor 47 = .ok (.invokestatic 47, 3) := by decide +kernel
theorem dX1_commonDivisor_50 : decode cX1_commonDivisor 50 = .ok (.lreturn, 1) := by decide +kernel
theorem dX2_init_0 : decode cX2_init 0 = .ok (.aload_n 0, 1) := by decide +kernel
theorem dX2_init_1 : decode cX2_init 1 = .ok (.invokespecial 3, 3) := by decide +kernel
theorem dX2_init_4 : decode cX2_init 4 = .ok (.aload_n 0, 1) := by decide +kernel
theorem dX2_init_5 : decode cX2_init 5 = .ok (.bipush 30, 2) := by decide +kernel
theorem dX2_init_7 : decode cX2_init 7 = .ok (.newarray .int, 2) := by decide +kernel
theorem dX2_init_9 : decode cX2_init 9 = .ok (.putfield 9, 3) := by decide +kernel
theorem dX2_init_12 : decode cX2_init 12 = .ok (.aload_n 0, 1) := by decide +kernel
theorem dX2_init_13 : decode cX2_init 13 = .ok (.bipush 30, 2) := by decide +kernel
theorem dX2_init_15 : decode cX2_init 15 = .ok (.newarray .int, 2) := by decide +kernel
theorem dX2_init_17 : decode cX2_init 17 = .ok (.putfield 15, 3) := by decide +kernel
theorem dX2_init_20 : decode cX2_init 20 = .ok (.aload_n 0, 1) := by decide +kernel
theorem dX2_init_21 : decode cX2_init 21 = .ok (.bipush 6, 2) := by decide +kernel
theorem dX2_init_23 : decode cX2_init 23 = .ok (.newarray .int, 2) := by decide +kernel
theorem dX2_init_25 : decode cX2_init 25 = .ok (.putfield 18, 3) := by decide +kernel
theorem dX2_init_28 : decode cX2_init 28 = .ok (.aload_n 0, 1) := by decide +kernel
theorem dX2_init_29 : decode cX2_init 29 = .ok (.new 21, 3) := by decide +kernel
theorem dX2_init_32 : decode cX2_init 32 = .ok (.dup, 1) := by decide +kernel
theorem dX2_init_33 : decode cX2_init 33 = .ok (.invokespecial 23, 3) := by decide +kernel
theorem dX2_init_36 : decode cX2_init 36 = .ok (.putfield 24, 3) := by decide +kernel
theorem dX2_init_39 : decode cX2_init 39 = .ok (.aload_n 0, 1) := by decide +kernel
theorem dX2_init_40 : decode cX2_init 40 = .ok (.bipush 6, 2) := by decide +kernel
theorem dX2_init_42 : decode cX2_init 42 = .ok (.anewarray 28, 3) := by decide +kernel
theorem dX2_init_45 : decode cX2_init 45 = .ok (.putfield 30, 3) := by decide +kernel
theorem dX2_init_48 : decode cX2_init 48 = .ok (.aload_n 0, 1) := by decide +kernel
theorem dX2_init_49 : decode cX2_init 49 = .ok (.iconst 0, 1) := by decide +kernel
theorem dX2_init_50 : decode cX2_init 50 = .ok (.putfield 34, 3) := by decide +kernel
theorem dX2_init_53 : decode cX2_init 53 = .ok (.return_, 1) := by decide +kernel
theorem dX2_add_0 : decode cX2_add 0 = .ok (.aload_n 0, 1) := by decide +kernel
theorem dX2_add_1 : decode cX2_add 1 = .ok (.getfield 34, 3) := by decide +kernel
theorem dX2_add_4 : decode cX2_add 4 = .ok (.bipush 30, 2) := by decide +kernel
theorem dX2_add_6 : decode cX2_add 6 = .ok (.if_icmp .lt 5, 3) := by decide +kernel
theorem dX2_add_9 : decode cX2_add 9 = .ok (.iconst (-1), 1) := by decide +kernel
theorem dX2_add_10 : decode cX2_add 10 = .ok (.ireturn, 1) := by decide +kernel
theorem dX2_add_11 : decode cX2_add 11 = .ok (.aload_n 0, 1) := by decide +kernel
theorem dX2_add_12 : decode cX2_add 12 = .ok (.getfield 9, 3) := by decide +kernel
theorem dX2_add_15 : decode cX2_add 15 = .ok (.aload_n 0, 1) := by decide +kernel
theorem dX2_add_16 : decode cX2_add 16 = .ok (.getfield 34, 3) := by decide +kernel
theorem dX2_add_19 : decode cX2_add 19 = .ok (.iload_n 1, 1) := by decide +kernel
theorem dX2_add_20 : decode cX2_add 20 = .ok (.iastore, 1) := by decide +kernel
theorem dX2_add_21 : decode cX2_add 21 = .ok (.aload_n 0, 1) := by decide +kernel
theorem dX2_add_22 : decode cX2_add 22 = .ok (.getfield 15, 3) := by decide +kernel
theorem dX2_add_25 : decode cX2_add 25 = .ok (.aload_n 0, 1) := by decide +kernel
theorem dX2_add_26 : decode cX2_add 26 = .ok (.getfield 34, 3) := by decide +kernel
theorem dX2_add_29 : decode cX2_add 29 = .ok (.iload_n 2, 1) := by decide +kernel
theorem dX2_add_30 : decode cX2_add 30 = .ok (.iastore, 1) := by decide +kernel
theorem dX2_add_31 : decode cX2_add 31 = .ok (.aload_n 0, 1) := by decide +kernel
theorem dX2_add_32 : decode cX2_add 32 = .ok (.dup, 1) := by decide +kernel
theorem dX2_add_33 : decode cX2_add 33 = .ok (.getfield 34, 3) := by decide +kernel
theorem dX2_add_36 : decode cX2_add 36 = .ok (.iconst 1, 1) := by decide +kernel
theorem dX2_add_37 : decode cX2_add 37 = .ok (.iadd, 1) := by decide +kernel
theorem dX2_add_38 : decode cX2_add 38 = .ok (.putfield 34, 3) := by decide +kernel
theorem dX2_add_41 : decode cX2_add 41 = .ok (.aload_n 0, 1) := by decide +kernel
theorem dX2_add_42 : decode cX2_add 42 = .ok (.getfield 34, 3) := by decide +kernel
theorem dX2_add_45 : decode cX2_add 45 = .ok (.iconst 1, 1) := by decide +kernel
theorem dX2_add_46 : decode cX2_add 46 = .ok (.isub, 1) := by decide +kernel
theorem dX2_add_47 : decode cX2_add 47 = .ok (.ireturn, 1) := by decide +kernel
theorem dX2_storyAt_0 : decode cX2_storyAt 0 = .ok (.iload_n 1, 1) := by decide +kernel
theorem dX2_storyAt_1 : decode cX2_storyAt 1 = .ok (.invokestatic 38, 3) := by decide +kernel
theorem dX2_storyAt_4 : decode cX2_storyAt 4 = .ok (.ifCond .eq 12, 3) := by decide +kernel
theorem dX2_storyAt_7 : decode cX2_storyAt 7 = .ok (.aload_n 0, 1) := by decide +kernel
theorem dX2_storyAt_8 : decode cX2_storyAt 8 = .ok (.getfield 30, 3) := by decide +kernel
theorem dX2_storyAt_11 : decode cX2_storyAt 11 = .ok (.iload_n 1, 1) := by decide +kernel
theorem dX2_storyAt_12 : decode cX2_storyAt 12 = .ok (.aaload, 1) := by decide +kernel
theorem dX2_storyAt_13 : decode cX2_storyAt 13 = .ok (.goto 4, 3) := by decide +kernel
theorem dX2_storyAt_16 : decode cX2_storyAt 16 = .ok (.aconst_null, 1) := by decide +kernel
theorem dX2_storyAt_17 : decode cX2_storyAt 17 = .ok (.areturn, 1) := by decide +kernel
theorem dX2_alone_0 : decode cX2_alone 0 = .ok (.iconst 0, 1) := by decide +kernel
theorem dX2_alone_1 : decode cX2_alone 1 = .ok (.istore_n 3, 1) := by decide +kernel
theorem dX2_alone_2 : decode cX2_alone 2 = .ok (.iload_n 3, 1) := by decide +kernel
theorem dX2_alone_3 : decode cX2_alone 3 = .ok (.bipush 6, 2) := by decide +kernel
theorem dX2_alone_5 : decode cX2_alone 5 = .ok (.if_icmp .ge 39, 3) := by decide +kernel
theorem dX2_alone_8 : decode cX2_alone 8 = .ok (.aload_n 0, 1) := by decide +kernel
theorem dX2_alone_9 : decode cX2_alone 9 = .ok (.getfield 18, 3) := by decide +kernel
theorem dX2_alone_12 : decode cX2_alone 12 = .ok (.iload_n 3, 1) := by decide +kernel
theorem dX2_alone_13 : decode cX2_alone 13 = .ok (.aload_n 0, 1) := by decide +kernel
theorem dX2_alone_14 : decode cX2_alone 14 = .ok (.getfield 30, 3) := by decide +kernel
theorem dX2_alone_17 : decode cX2_alone 17 = .ok (.iload_n 3, 1) := by decide +kernel
theorem dX2_alone_18 : decode cX2_alone 18 = .ok (.aaload, 1) := by decide +kernel
theorem dX2_alone_19 : decode cX2_alone 19 = .ok (.ifnonnull 7, 3) := by decide +kernel
theorem dX2_alone_22 : decode cX2_alone 22 = .ok (.iconst 0, 1) := by decide +kernel
theorem dX2_alone_23 : decode cX2_alone 23 = .ok (.goto 14, 3) := by decide +kernel
theorem dX2_alone_37 : decode cX2_alone 37 = .ok (.iastore, 1) := by decide +kernel
theorem dX2_alone_38 : decode cX2_alone 38 = .ok (.iinc 3 1, 3) := by decide +kernel
theorem dX2_alone_41 : decode cX2_alone 41 = .ok (.goto (-39), 3) := by decide +kernel
theorem dX2_alone_44 : decode cX2_alone 44 = .ok (.iconst 0, 1) := by decide +kernel
theorem dX2_alone_45 : decode cX2_alone 45 = .ok (.istore_n 3, 1) := by decide +kernel
theorem dX2_alone_46 : decode cX2_alone 46 = .ok (.iload_n 3, 1) := by decide +kernel
theorem dX2_alone_47 : decode cX2_alone 47 = .ok (.aload_n 0, 1) := by decide +kernel
theorem dX2_alone_48 : decode cX2_alone 48 = .ok (.getfield 34, 3) := by decide +kernel
theorem dX2_alone_51 : decode cX2_alone 51 = .ok (.if_icmp .ge 78, 3) := by decide +kernel
theorem dX2_alone_54 : decode cX2_alone 54 = .ok (.iconst 0, 1) := by decide +kernel
theorem dX2_alone_55 : decode cX2_alone 55 = .ok (.istore 4, 2) := by decide +kernel
theorem dX2_alone_57 : decode cX2_alone 57 = .ok (.iconst (-1), 1) := by decide +kernel
theorem dX2_alone_58 : decode cX2_alone 58 = .ok (.istore 5, 2) := by decide +kernel
theorem dX2_alone_60 : decode cX2_alone 60 = .ok (.iconst 0, 1) := by decide +kernel
theorem dX2_alone_61 : decode cX2_alone 61 = .ok (.istore 6, 2) := by decide +kernel
theorem dX2_alone_63 : decode cX2_alone 63 = .ok (.iload 6, 2) := by decide +kernel
theorem dX2_alone_65 : decode cX2_alone 65 = .ok (.bipush 6, 2) := by decide +kernel
theorem dX2_alone_67 : decode cX2_alone 67 = .ok (.if_icmp .ge 39, 3) := by decide +kernel
theorem dX2_alone_70 : decode cX2_alone 70 = .ok (.aload_n 0, 1) := by decide +kernel
theorem dX2_alone_71 : decode cX2_alone 71 = .ok (.getfield 18, 3) := by decide +kernel
theorem dX2_alone_74 : decode cX2_alone 74 = .ok (.iload 6, 2) := by decide +kernel
theorem dX2_alone_76 : decode cX2_alone 76 = .ok (.iaload, 1) := by decide +kernel
theorem dX2_alone_77 : decode cX2_alone 77 = .ok (.bipush (-2), 2) := by decide +kernel
theorem dX2_alone_79 : decode cX2_alone 79 = .ok (.if_icmp .eq 14, 3) := by decide +kernel
theorem dX2_alone_82 : decode cX2_alone 82 = .ok (.aload_n 0, 1) := by decide +kernel
theorem dX2_alone_83 : decode cX2_alone 83 = .ok (.getfield 18, 3) := by decide +kernel
theorem dX2_alone_86 : decode cX2_alone 86 = .ok (.iload 6, 2) := by decide +kernel
theorem dX2_alone_88 : decode cX2_alone 88 = .ok (.iaload, 1) := by decide +kernel
theorem dX2_alone_89 : decode cX2_alone 89 = .ok (.iload_n 3, 1) := by decide +kernel
theorem dX2_alone_90 : decode cX2_alone 90 = .ok (.if_icmp .le 10, 3) := by decide +kernel
theorem dX2_alone_93 : decode cX2_alone 93 = .ok (.iinc 4 1, 3) := by decide +kernel
theorem dX2_alone_96 : decode cX2_alone 96 = .ok (.iload 6, 2) := by decide +kernel
theorem dX2_alone_98 : decode cX2_alone 98 = .ok (.istore 5, 2) := by decide +kernel
theorem dX2_alone_100 : decode cX2_alone 100 = .ok (.iinc 6 1, 3) := by decide +kernel
theorem dX2_alone_103 : decode cX2_alone 103 = .ok (.goto (-40), 3) := by decide +kernel
theorem dX2_alone_106 : decode cX2_alone 106 = .ok (.iload 4, 2) := by decide +kernel
theorem dX2_alone_108 : decode cX2_alone 108 = .ok (.iconst 1, 1) := by decide +kernel
theorem dX2_alone_109 : decode cX2_alone 109 = .ok (.if_icmp .ne 14, 3) := by decide +kernel
theorem dX2_alone_112 : decode cX2_alone 112 = .ok (.iload_n 2, 1) := by decide +kernel
theorem dX2_alone_113 : decode cX2_alone 113 = .ok (.ifCond .ne 7, 3) := by decide +kernel
theorem dX2_alone_116 : decode cX2_alone 116 = .ok (.iload_n 3, 1) := by decide +kernel
theorem dX2_alone_117 : decode cX2_alone 117 = .ok (.goto 5, 3) := by decide +kernel
theorem dX2_alone_120 : decode cX2_alone 120 = .ok (.iload 5, 2) := by decide +kernel
theorem dX2_alone_122 : decode cX2_alone 122 = .ok (.ireturn, 1) := by decide +kernel
theorem dX2_alone_123 : decode cX2_alone 123 = .ok (.iinc 3 1, 3) := by decide +kernel
theorem dX2_alone_126 : decode cX2_alone 126 = .ok (.goto (-80), 3) := by decide +kernel
theorem dX2_alone_129 : decode cX2_alone 129 = .ok (.iconst (-1), 1) := by decide +kernel
theorem dX2_alone_130 : decode cX2_alone 130 = .ok (.ireturn, 1) := by decide +kernel
theorem dX2_greatestOrbit_0 : decode cX2_greatestOrbit 0 = .ok (.bipush (-2), 2) := by decide +kernel
theorem dX2_greatestOrbit_2 : decode cX2_greatestOrbit 2 = .ok (.istore_n 3, 1) := by decide +kernel
theorem dX2_greatestOrbit_3 : decode cX2_greatestOrbit 3 = .ok (.iconst 0, 1) := by decide +kernel
theorem dX2_greatestOrbit_4 : decode cX2_greatestOrbit 4 = .ok (.istore 4, 2) := by decide +kernel
theorem dX2_greatestOrbit_6 : decode cX2_greatestOrbit 6 = .ok (.iload 4, 2) := by decide +kernel
theorem dX2_greatestOrbit_8 : decode cX2_greatestOrbit 8 = .ok (.iload_n 1, 1) := by decide +kernel
theorem dX2_greatestOrbit_9 : decode cX2_greatestOrbit 9 = .ok (.if_icmp .ge 22, 3) := by decide +kernel
theorem dX2_greatestOrbit_12 : decode cX2_greatestOrbit 12 = .ok (.iload_n 3, 1) := by decide +kernel
theorem dX2_greatestOrbit_13 : decode cX2_greatestOrbit 13 = .ok (.aload_n 0, 1) := by decide +kernel
theorem dX2_greatestOrbit_14 : decode cX2_greatestOrbit 14 = .ok (.iload_n 1, 1) := by decide +kernel
theorem dX2_greatestOrbit_15 : decode cX2_greatestOrbit 15 = .ok (.iload 4, 2) := by decide +kernel
theorem dX2_greatestOrbit_17 : decode cX2_greatestOrbit 17 = .ok (.iload_n 2, 1) := by decide +kernel
theorem dX2_greatestOrbit_18 : decode cX2_greatestOrbit 18 = .ok (.invokevirtual 61, 3) := by decide +kernel
theorem dX2_greatestOrbit_21 : decode cX2_greatestOrbit 21 = .ok (.invokestatic 65, 3) := by decide +kernel
theorem dX2_greatestOrbit_24 : decode cX2_greatestOrbit 24 = .ok (.istore_n 3, 1) := by decide +kernel
theorem dX2_greatestOrbit_25 : decode cX2_greatestOrbit 25 = .ok (.iinc 4 1, 3) := by decide +kernel
theorem dX2_greatestOrbit_28 : decode cX2_greatestOrbit 28 = .ok (.goto (-22), 3) := by decide +kernel
theorem dX2_greatestOrbit_31 : decode cX2_greatestOrbit 31 = .ok (.iload_n 3, 1) := by decide +kernel
theorem dX2_greatestOrbit_32 : decode cX2_greatestOrbit 32 = .ok (.ireturn, 1) := by decide +kernel
theorem dX2_greatestSize_0 : decode cX2_greatestSize 0 = .ok (.iconst 0, 1) := by decide +kernel
theorem dX2_greatestSize_1 : decode cX2_greatestSize 1 = .ok (.istore 4, 2) := by decide +kernel
theorem dX2_greatestSize_3 : decode cX2_greatestSize 3 = .ok (.sipush 2000, 3) := by decide +kernel
theorem dX2_greatestSize_6 : decode cX2_greatestSize 6 = .ok (.istore 5, 2) := by decide +kernel
theorem dX2_greatestSize_8 : decode cX2_greatestSize 8 = .ok (.iconst 0, 1) := by decide +kernel
theorem dX2_greatestSize_9 : decode cX2_greatestSize 9 = .ok (.istore 6, 2) := by decide +kernel
theorem dX2_greatestSize_11 : decode cX2_greatestSize 11 = .ok (.iload 6, 2) := by decide +kernel
theorem dX2_greatestSize_13 : decode cX2_greatestSize 13 = .ok (.aload_n 0, 1) := by decide +kernel
theorem dX2_greatestSize_14 : decode cX2_greatestSize 14 = .ok (.getfield 34, 3) := by decide +kernel
theorem dX2_greatestSize_17 : decode cX2_greatestSize 17 = .ok (.if_icmp .ge 148, 3) := by decide +kernel
theorem dX2_greatestSize_20 : decode cX2_greatestSize 20 = .ok (.iload_n 1, 1) := by decide +kernel
theorem dX2_greatestSize_21 : decode cX2_greatestSize 21 = .ok (.ifCond .le 144, 3) := by decide +kernel
theorem dX2_greatestSize_24 : decode cX2_greatestSize 24 = .ok (.aload_n 0, 1) := by decide +kernel
theorem dX2_greatestSize_25 : decode cX2_greatestSize 25 = .ok (.getfield 9, 3) := by decide +kernel
theorem dX2_greatestSize_28 : decode cX2_greatestSize 28 = .ok (.iload 6, 2) := by decide +kernel
theorem dX2_greatestSize_30 : decode cX2_greatestSize 30 = .ok (.iaload, 1) := by decide +kernel
theorem dX2_greatestSize_31 : decode cX2_greatestSize 31 = .ok (.iload_n 2, 1) := by decide +kernel
theorem dX2_greatestSize_32 : decode cX2_greatestSize 32 = .ok (.iadd, 1) := by decide +kernel
theorem dX2_greatestSize_33 : decode cX2_greatestSize 33 = .ok (.iload_n 1, 1) := by decide +kernel
theorem dX2_greatestSize_34 : decode cX2_greatestSize 34 = .ok (.irem, 1) := by decide +kernel
theorem dX2_greatestSize_35 : decode cX2_greatestSize 35 = .ok (.iload_n 1, 1) := by decide +kernel
theorem dX2_greatestSize_165 : decode cX2_greatestSize 165 = .ok (.iload 4, 2) := by decide +kernel
theorem dX2_greatestSize_167 : decode cX2_greatestSize 167 = .ok (.iload 5, 2) := by decide +kernel
theorem dX2_greatestSize_169 : decode cX2_greatestSize 169 = .ok (.if_icmp .gt 8, 3) := by decide +kernel
theorem dX2_greatestSize_172 : decode cX2_greatestSize 172 = .ok (.iload 5, 2) := by decide +kernel
theorem dX2_greatestSize_174 : decode cX2_greatestSize 174 = .ok (.goto 5, 3) := by decide +kernel
theorem dX2_greatestSize_179 : decode cX2_greatestSize 179 = .ok (.ireturn, 1) := by decide +kernel
theorem dX3_init_0 : decode cX3_init 0 = .ok (.aload_n 0, 1) := by decide +kernel
theorem dX3_init_1 : decode cX3_init 1 = .ok (.invokespecial 3, 3) := by decide +kernel
theorem dX3_init_4 : decode cX3_init 4 = .ok (.aload_n 0, 1) := by decide +kernel
theorem dX3_init_5 : decode cX3_init 5 = .ok (.bipush 40, 2) := by decide +kernel
theorem dX3_init_7 : decode cX3_init 7 = .ok (.newarray .int, 2) := by decide +kernel
theorem dX3_init_9 : decode cX3_init 9 = .ok (.putfield 9, 3) := by decide +kernel
theorem dX3_init_12 : decode cX3_init 12 = .ok (.aload_n 0, 1) := by decide +kernel
theorem dX3_init_13 : decode cX3_init 13 = .ok (.bipush 40, 2) := by decide +kernel
theorem dX3_init_15 : decode cX3_init 15 = .ok (.newarray .int, 2) := by decide +kernel
theorem dX3_init_17 : decode cX3_init 17 = .ok (.putfield 15, 3) := by decide +kernel
theorem dX3_init_20 : decode cX3_init 20 = .ok (.aload_n 0, 1) := by decide +kernel
theorem dX3_init_21 : decode cX3_init 21 = .ok (.bipush 40, 2) := by decide +kernel
theorem dX3_init_23 : decode cX3_init 23 = .ok (.newarray .int, 2) := by decide +kernel
theorem dX3_init_25 : decode cX3_init 25 = .ok (.putfield 18, 3) := by decide +kernel
theorem dX3_init_28 : decode cX3_init 28 = .ok (.aload_n 0, 1) := by decide +kernel
theorem dX3_init_29 : decode cX3_init 29 = .ok (.bipush 40, 2) := by decide +kernel
theorem dX3_init_31 : decode cX3_init 31 = .ok (.newarray .int, 2) := by decide +kernel
theorem dX3_init_33 : decode cX3_init 33 = .ok (.putfield 21, 3) := by decide +kernel
theorem dX3_init_36 : decode cX3_init 36 = .ok (.aload_n 0, 1) := by decide +kernel
theorem dX3_init_37 : decode cX3_init 37 = .ok (.iconst 0, 1) := by decide +kernel
theorem dX3_init_38 : decode cX3_init 38 = .ok (.putfield 24, 3) := by decide +kernel
theorem dX3_init_41 : decode cX3_init 41 = .ok (.return_, 1) := by decide +kernel
theorem dX3_add_0 : decode cX3_add 0 = .ok (.aload_n 0, 1) := by decide +kernel
theorem dX3_add_1 : decode cX3_add 1 = .ok (.getfield 24, 3) := by decide +kernel
theorem dX3_add_4 : decode cX3_add 4 = .ok (.bipush 40, 2) := by decide +kernel
theorem dX3_add_6 : decode cX3_add 6 = .ok (.if_icmp .ge 25, 3) := by decide +kernel
theorem dX3_add_9 : decode cX3_add 9 = .ok (.aload_n 0, 1) := by decide +kernel
theorem dX3_add_10 : decode cX3_add 10 = .ok (.getfield 24, 3) := by decide +kernel
theorem dX3_add_13 : decode cX3_add 13 = .ok (.ifCond .le 20, 3) := by decide +kernel
theorem dX3_add_16 : decode cX3_add 16 = .ok (.iload_n 1, 1) := by decide +kernel
theorem dX3_add_17 : decode cX3_add 17 = .ok (.aload_n 0, 1) := by decide +kernel
theorem dX3_add_18 : decode cX3_add 18 = .ok (.getfield 9, 3) := by decide +kernel
theorem dX3_add_21 : decode cX3_add 21 = .ok (.aload_n 0, 1) := by decide +kernel
theorem dX3_add_22 : decode cX3_add 22 = .ok (.getfield 24, 3) := by decide +kernel
theorem dX3_add_25 : decode cX3_add 25 = .ok (.iconst 1, 1) := by decide +kernel
theorem dX3_add_26 : decode cX3_add 26 = .ok (.isub, 1) := by decide +kernel
theorem dX3_add_27 : decode cX3_add 27 = .ok (.iaload, 1) := by decide +kernel
theorem dX3_add_28 : decode cX3_add 28 = .ok (.if_icmp .ge 5, 3) := by decide +kernel
theorem dX3_add_31 : decode cX3_add 31 = .ok (.iconst (-1), 1) := by decide +kernel
theorem dX3_add_32 : decode cX3_add 32 = .ok (.ireturn, 1) := by decide +kernel
theorem dX3_add_33 : decode cX3_add 33 = .ok (.aload_n 0, 1) := by decide +kernel
theorem dX3_add_34 : decode cX3_add 34 = .ok (.getfield 9, 3) := by decide +kernel
theorem dX3_add_37 : decode cX3_add 37 = .ok (.aload_n 0, 1) := by decide +kernel
theorem dX3_add_38 : decode cX3_add 38 = .ok (.getfield 24, 3) := by decide +kernel
theorem dX3_add_41 : decode cX3_add 41 = .ok (.iload_n 1, 1) := by decide +kernel
theorem dX3_add_42 : decode cX3_add 42 = .ok (.iastore, 1) := by decide +kernel
theorem dX3_add_43 : decode cX3_add 43 = .ok (.aload_n 0, 1) := by decide +kernel
theorem dX3_add_44 : decode cX3_add 44 = .ok (.getfield 15, 3) := by decide +kernel
theorem dX3_add_47 : decode cX3_add 47 = .ok (.aload_n 0, 1) := by decide +kernel
theorem dX3_add_48 : decode cX3_add 48 = .ok (.getfield 24, 3) := by decide +kernel
theorem dX3_add_51 : decode cX3_add 51 = .ok (.iload_n 2, 1) := by decide +kernel
theorem dX3_add_52 : decode cX3_add 52 = .ok (.iastore, 1) := by decide +kernel
theorem dX3_add_53 : decode cX3_add 53 = .ok (.aload_n 0, 1) := by decide +kernel
theorem dX3_add_54 : decode cX3_add 54 = .ok (.getfield 18, 3) := by decide +kernel
theorem dX3_add_57 : decode cX3_add 57 = .ok (.aload_n 0, 1) := by decide +kernel
theorem dX3_add_58 : decode cX3_add 58 = .ok (.getfield 24, 3) := by decide +kernel
theorem dX3_add_61 : decode cX3_add 61 = .ok (.iload_n 3, 1) := by decide +kernel
theorem dX3_add_62 : decode cX3_add 62 = .ok (.iastore, 1) := by decide +kernel
theorem dX3_add_63 : decode cX3_add 63 = .ok (.aload_n 0, 1) := by decide +kernel
theorem dX3_add_64 : decode cX3_add 64 = .ok (.dup, 1) := by decide +kernel
theorem dX3_add_65 : decode cX3_add 65 = .ok (.getfield 24, 3) := by decide +kernel
theorem dX3_add_68 : decode cX3_add 68 = .ok (.iconst 1, 1) := by decide +kernel
theorem dX3_add_69 : decode cX3_add 69 = .ok (.iadd, 1) := by decide +kernel
theorem dX3_add_70 : decode cX3_add 70 = .ok (.putfield 24, 3) := by decide +kernel
theorem dX3_add_73 : decode cX3_add 73 = .ok (.aload_n 0, 1) := by decide +kernel
theorem dX3_add_74 : decode cX3_add 74 = .ok (.getfield 24, 3) := by decide +kernel
theorem dX3_add_77 : decode cX3_add 77 = .ok (.iconst 1, 1) := by decide +kernel
theorem dX3_add_78 : decode cX3_add 78 = .ok (.isub, 1) := by decide +kernel
theorem dX3_add_79 : decode cX3_add 79 = .ok (.ireturn, 1) := by decide +kernel
theorem dX3_gather_0 : decode cX3_gather 0 = .ok (.iconst 0, 1) := by decide +kernel
theorem dX3_gather_1 : decode cX3_gather 1 = .ok (.istore 4, 2) := by decide +kernel
theorem dX3_gather_3 : decode cX3_gather 3 = .ok (.iconst 0, 1) := by decide +kernel
theorem dX3_gather_4 : decode cX3_gather 4 = .ok (.istore 5, 2) := by decide +kernel
theorem dX3_gather_6 : decode cX3_gather 6 = .ok (.iload 5, 2) := by decide +kernel
theorem dX3_gather_8 : decode cX3_gather 8 = .ok (.aload_n 0, 1) := by decide +kernel
theorem dX3_gather_9 : decode cX3_gather 9 = .ok (.getfield 24, 3) := by decide +kernel
theorem dX3_gather_12 : decode cX3_gather 12 = .ok (.if_icmp .ge 72, 3) := by decide +kernel
theorem dX3_gather_15 : decode cX3_gather 15 = .ok (.aload_n 0, 1) := by decide +kernel
theorem dX3_gather_16 : decode cX3_gather 16 = .ok (.getfield 18, 3) := by decide +kernel
theorem dX3_gather_19 : decode cX3_gather 19 = .ok (.iload 5, 2) := by decide +kernel
theorem dX3_gather_21 : decode cX3_gather 21 = .ok (.iaload, 1) := by decide +kernel
theorem dX3_gather_22 : decode cX3_gather 22 = .ok (.iload_n 1, 1) := by decide +kernel
theorem dX3_gather_23 : decode cX3_gather 23 = .ok (.if_icmp .ne 55, 3) := by decide +kernel
theorem dX3_gather_26 : decode cX3_gather 26 = .ok (.aload_n 0, 1) := by decide +kernel
theorem dX3_gather_27 : decode cX3_gather 27 = .ok (.getfield 9, 3) := by decide +kernel
theorem dX3_gather_30 : decode cX3_gather 30 = .ok (.iload 5, 2) := by decide +kernel
theorem dX3_gather_32 : decode cX3_gather 32 = .ok (.iaload, 1) := by decide +kernel
theorem dX3_gather_33 : decode cX3_gather 33 = .ok (.iload_n 2, 1) := by decide +kernel
theorem dX3_gather_34 : decode cX3_gather 34 = .ok (.if_icmp .gt 44, 3) := by decide +kernel
theorem dX3_gather_37 : decode cX3_gather 37 = .ok (.aload_n 0, 1) := by decide +kernel
theorem dX3_gather_38 : decode cX3_gather 38 = .ok (.getfield 21, 3) := by decide +kernel
theorem dX3_gather_41 : decode cX3_gather 41 = .ok (.iload 4, 2) := by decide +kernel
theorem dX3_gather_43 : decode cX3_gather 43 = .ok (.iload_n 3, 1) := by decide +kernel
theorem dX3_gather_44 : decode cX3_gather 44 = .ok (.ifCond .eq 23, 3) := by decide +kernel
theorem dX3_gather_47 : decode cX3_gather 47 = .ok (.aload_n 0, 1) := by decide +kernel
theorem dX3_gather_48 : decode cX3_gather 48 = .ok (.getfield 9, 3) := by decide +kernel
theorem dX3_gather_51 : decode cX3_gather 51 = .ok (.iload 5, 2) := by decide +kernel
theorem dX3_gather_53 : decode cX3_gather 53 = .ok (.iaload, 1) := by decide +kernel
theorem dX3_gather_54 : decode cX3_gather 54 = .ok (.aload_n 0, 1) := by decide +kernel
theorem dX3_gather_55 : decode cX3_gather 55 = .ok (.getfield 15, 3) := by decide +kernel
theorem dX3_gather_58 : decode cX3_gather 58 = .ok (.iload 5, 2) := by decide +kernel
theorem dX3_gather_60 : decode cX3_gather 60 = .ok (.iaload, 1) := by decide +kernel
theorem dX3_gather_61 : decode cX3_gather 61 = .ok (.invokestatic 28, 3) := by decide +kernel
theorem dX3_gather_64 : decode cX3_gather 64 = .ok (.goto 10, 3) := by decide +kernel
theorem dX3_gather_67 : decode cX3_gather 67 = .ok (.aload_n 0, 1) := by decide +kernel
theorem dX3_gather_68 : decode cX3_gather 68 = .ok (.getfield 15, 3) := by decide +kernel
theorem dX3_gather_71 : decode cX3_gather 71 = .ok (.iload 5, 2) := by decide +kernel
theorem dX3_gather_73 : decode cX3_gather 73 = .ok (.iaload, 1) := by decide +kernel
theorem dX3_gather_74 : decode cX3_gather 74 = .ok (.iastore, 1) := by decide +kernel
theorem dX3_gather_75 : decode cX3_gather 75 = .ok (.iinc 4 1, 3) := by decide +kernel
theorem dX3_gather_78 : decode cX3_gather 78 = .ok (.iinc 5 1, 3) := by decide +kernel
theorem dX3_gather_81 : decode cX3_gather 81 = .ok (.goto (-75), 3) := by decide +kernel
theorem dX3_gather_84 : decode cX3_gather 84 = .ok (.iload 4, 2) := by decide +kernel
theorem dX3_gather_86 : decode cX3_gather 86 = .ok (.ireturn, 1) := by decide +kernel
theorem dX3_oneBy_0 : decode cX3_oneBy 0 = .ok (.aload_n 0, 1) := by decide +kernel
theorem dX3_oneBy_1 : decode cX3_oneBy 1 = .ok (.iload_n 1, 1) := by decide +kernel
theorem dX3_oneBy_2 : decode cX3_oneBy 2 = .ok (.iload_n 3, 1) := by decide +kernel
theorem dX3_oneBy_3 : decode cX3_oneBy 3 = .ok (.iconst 1, 1) := by decide +kernel
theorem dX3_oneBy_4 : decode cX3_oneBy 4 = .ok (.invokevirtual 32, 3) := by decide +kernel
theorem dX3_oneBy_7 : decode cX3_oneBy 7 = .ok (.istore 4, 2) := by decide +kernel
theorem dX3_oneBy_9 : decode cX3_oneBy 9 = .ok (.iload 4, 2) := by decide +kernel
theorem dX3_oneBy_11 : decode cX3_oneBy 11 = .ok (.iconst 2, 1) := by decide +kernel
theorem dX3_oneBy_12 : decode cX3_oneBy 12 = .ok (.if_icmp .ge 5, 3) := by decide +kernel
theorem dX3_oneBy_15 : decode cX3_oneBy 15 = .ok (.iconst (-1), 1) := by decide +kernel
theorem dX3_oneBy_16 : decode cX3_oneBy 16 = .ok (.ireturn, 1) := by decide +kernel
theorem dX3_oneBy_17 : decode cX3_oneBy 17 = .ok (.aload_n 0, 1) := by decide +kernel
theorem dX3_oneBy_18 : decode cX3_oneBy 18 = .ok (.getfield 21, 3) := by decide +kernel
theorem dX3_oneBy_21 : decode cX3_oneBy 21 = .ok (.iload 4, 2) := by decide +kernel
theorem dX3_oneBy_23 : decode cX3_oneBy 23 = .ok (.sipush 1440, 3) := by decide +kernel
theorem dX3_oneBy_26 : decode cX3_oneBy 26 = .ok (.iload_n 2, 1) := by decide +kernel
theorem dX3_knownDay_0 : decode cX3_knownDay 0 = .ok (.iconst 0, 1) := by decide +kernel
theorem dX3_knownDay_1 : decode cX3_knownDay 1 = .ok (.istore_n 3, 1) := by decide +kernel
theorem dX3_knownDay_2 : decode cX3_knownDay 2 = .ok (.iload_n 3, 1) := by decide +kernel
theorem dX3_knownDay_3 : decode cX3_knownDay 3 = .ok (.aload_n 0, 1) := by decide +kernel
theorem dX3_knownDay_4 : decode cX3_knownDay 4 = .ok (.getfield 24, 3) := by decide +kernel
theorem dX3_knownDay_7 : decode cX3_knownDay 7 = .ok (.if_icmp .ge 52, 3) := by decide +kernel
theorem dX3_knownDay_10 : decode cX3_knownDay 10 = .ok (.aload_n 0, 1) := by decide +kernel
theorem dX3_knownDay_11 : decode cX3_knownDay 11 = .ok (.getfield 18, 3) := by decide +kernel
theorem dX3_knownDay_14 : decode cX3_knownDay 14 = .ok (.iload_n 3, 1) := by decide +kernel
theorem dX3_knownDay_15 : decode cX3_knownDay 15 = .ok (.iaload, 1) := by decide +kernel
theorem dX3_knownDay_16 : decode cX3_knownDay 16 = .ok (.iload_n 1, 1) := by decide +kernel
theorem dX3_knownDay_17 : decode cX3_knownDay 17 = .ok (.if_icmp .ne 36, 3) := by decide +kernel
theorem dX3_knownDay_20 : decode cX3_knownDay 20 = .ok (.aload_n 0, 1) := by decide +kernel
theorem dX3_knownDay_21 : decode cX3_knownDay 21 = .ok (.iload_n 1, 1) := by decide +kernel
theorem dX3_knownDay_22 : decode cX3_knownDay 22 = .ok (.iload_n 2, 1) := by decide +kernel
theorem dX3_knownDay_23 : decode cX3_knownDay 23 = .ok (.aload_n 0, 1) := by decide +kernel
theorem dX3_knownDay_24 : decode cX3_knownDay 24 = .ok (.getfield 9, 3) := by decide +kernel
theorem dX3_knownDay_27 : decode cX3_knownDay 27 = .ok (.iload_n 3, 1) := by decide +kernel
theorem dX3_knownDay_28 : decode cX3_knownDay 28 = .ok (.iaload, 1) := by decide +kernel
theorem dX3_knownDay_29 : decode cX3_knownDay 29 = .ok (.invokevirtual 40, 3) := by decide +kernel
theorem dX3_knownDay_32 : decode cX3_knownDay 32 = .ok (.istore 4, 2) := by decide +kernel
theorem dX3_knownDay_34 : decode cX3_knownDay 34 = .ok (.iload 4, 2) := by decide +kernel
theorem dX3_knownDay_36 : decode cX3_knownDay 36 = .ok (.iconst 1, 1) := by decide +kernel
theorem dX3_knownDay_37 : decode cX3_knownDay 37 = .ok (.if_icmp .eq 9, 3) := by decide +kernel
theorem dX3_knownDay_40 : decode cX3_knownDay 40 = .ok (.iload 4, 2) := by decide +kernel
theorem dX3_knownDay_42 : decode cX3_knownDay 42 = .ok (.iconst 2, 1) := by decide +kernel
theorem dX3_knownDay_43 : decode cX3_knownDay 43 = .ok (.if_icmp .ne 10, 3) := by decide +kernel
theorem dX3_knownDay_46 : decode cX3_knownDay 46 = .ok (.aload_n 0, 1) := by decide +kernel
theorem dX3_knownDay_47 : decode cX3_knownDay 47 = .ok (.getfield 9, 3) := by decide +kernel
theorem dX3_knownDay_50 : decode cX3_knownDay 50 = .ok (.iload_n 3, 1) := by decide +kernel
theorem dX3_knownDay_51 : decode cX3_knownDay 51 = .ok (.iaload, 1) := by decide +kernel
theorem dX3_knownDay_52 : decode cX3_knownDay 52 = .ok (.ireturn, 1) := by decide +kernel
theorem dX3_knownDay_53 : decode cX3_knownDay 53 = .ok (.iinc 3 1, 3) := by decide +kernel
theorem dX3_knownDay_56 : decode cX3_knownDay 56 = .ok (.goto (-54), 3) := by decide +kernel
theorem dX3_knownDay_59 : decode cX3_knownDay 59 = .ok (.iconst (-1), 1) := by decide +kernel
theorem dX3_knownDay_60 : decode cX3_knownDay 60 = .ok (.ireturn, 1) := by decide +kernel
theorem dX3_longestRow_0 : decode cX3_longestRow 0 = .ok (.aload_n 0, 1) := by decide +kernel
theorem dX3_longestRow_1 : decode cX3_longestRow 1 = .ok (.iload_n 1, 1) := by decide +kernel
theorem dX3_longestRow_2 : decode cX3_longestRow 2 = .ok (.sipush 400, 3) := by decide +kernel
theorem dX3_longestRow_5 : decode cX3_longestRow 5 = .ok (.iconst 1, 1) := by decide +kernel
theorem dX3_longestRow_6 : decode cX3_longestRow 6 = .ok (.invokevirtual 32, 3) := by decide +kernel
theorem dX3_longestRow_9 : decode cX3_longestRow 9 = .ok (.istore 4, 2) := by decide +kernel
theorem dX3_longestRow_11 : decode cX3_longestRow 11 = .ok (.iconst 0, 1) := by decide +kernel
theorem dX3_longestRow_12 : decode cX3_longestRow 12 = .ok (.istore 5, 2) := by decide +kernel
theorem dX3_longestRow_14 : decode cX3_longestRow 14 = .ok (.iconst (-1), 1) := by decide +kernel
theorem dX3_longestRow_15 : decode cX3_longestRow 15 = .ok (.istore 6, 2) := by decide +kernel
theorem dX3_longestRow_17 : decode cX3_longestRow 17 = .ok (.iconst 0, 1) := by decide +kernel
theorem dX3_longestRow_18 : decode cX3_longestRow 18 = .ok (.istore 7, 2) := by decide +kernel
theorem dX3_longestRow_20 : decode cX3_longestRow 20 = .ok (.iload 7, 2) := by decide +kernel
theorem dX3_longestRow_22 : decode cX3_longestRow 22 = .ok (.iload 4, 2) := by decide +kernel
theorem dX3_longestRow_24 : decode cX3_longestRow 24 = .ok (.if_icmp .ge 64, 3) := by decide +kernel
theorem dX3_longestRow_27 : decode cX3_longestRow 27 = .ok (.aload_n 0, 1) := by decide +kernel
theorem dX3_longestRow_28 : decode cX3_longestRow 28 = .ok (.aload_n 0, 1) := by decide +kernel
theorem dX3_longestRow_29 : decode cX3_longestRow 29 = .ok (.getfield 21, 3) := by decide +kernel
theorem dX3_longestRow_32 : decode cX3_longestRow 32 = .ok (.iload 7, 2) := by decide +kernel
theorem dX3_longestRow_34 : decode cX3_longestRow 34 = .ok (.iaload, 1) := by decide +kernel
theorem dX3_longestRow_35 : decode cX3_longestRow 35 = .ok (.iload 4, 2) := by decide +kernel
theorem dX3_longestRow_37 : decode cX3_longestRow 37 = .ok (.iload_n 2, 1) := by decide +kernel
theorem dX3_longestRow_88 : decode cX3_longestRow 88 = .ok (.iload_n 3, 1) := by decide +kernel
theorem dX3_longestRow_89 : decode cX3_longestRow 89 = .ok (.ifCond .ne 13, 3) := by decide +kernel
theorem dX3_longestRow_92 : decode cX3_longestRow 92 = .ok (.iload 4, 2) := by decide +kernel
theorem dX3_longestRow_94 : decode cX3_longestRow 94 = .ok (.ifCond .le 8, 3) := by decide +kernel
theorem dX3_longestRow_97 : decode cX3_longestRow 97 = .ok (.iload 5, 2) := by decide +kernel
theorem dX3_longestRow_99 : decode cX3_longestRow 99 = .ok (.goto 5, 3) := by decide +kernel
theorem dX3_longestRow_102 : decode cX3_longestRow 102 = .ok (.iload 6, 2) := by decide +kernel
theorem dX3_longestRow_104 : decode cX3_longestRow 104 = .ok (.ireturn, 1) := by decide +kernel
theorem dX4_init_0 : decode cX4_init 0 = .ok (.aload_n 0, 1) := by decide +kernel
theorem dX4_init_1 : decode cX4_init 1 = .ok (.invokespecial 3, 3) := by decide +kernel
theorem dX4_init_4 : decode cX4_init 4 = .ok (.aload_n 0, 1) := by decide +kernel
theorem dX4_init_5 : decode cX4_init 5 = .ok (.sipush 1440, 3) := by decide +kernel
theorem dX4_init_8 : decode cX4_init 8 = .ok (.newarray .int, 2) := by decide +kernel
theorem dX4_init_10 : decode cX4_init 10 = .ok (.putfield 9, 3) := by decide +kernel
theorem dX4_init_13 : decode cX4_init 13 = .ok (.aload_n 0, 1) := by decide +kernel
theorem dX4_init_14 : decode cX4_init 14 = .ok (.sipush 1440, 3) := by decide +kernel
theorem dX4_init_17 : decode cX4_init 17 = .ok (.newarray .int, 2) := by decide +kernel
theorem dX4_init_19 : decode cX4_init 19 = .ok (.putfield 15, 3) := by decide +kernel
theorem dX4_init_22 : decode cX4_init 22 = .ok (.aload_n 0, 1) := by decide +kernel
theorem dX4_init_23 : decode cX4_init 23 = .ok (.sipush 1440, 3) := by decide +kernel
theorem dX4_init_26 : decode cX4_init 26 = .ok (.newarray .int, 2) := by decide +kernel
theorem dX4_init_28 : decode cX4_init 28 = .ok (.putfield 18, 3) := by decide +kernel
theorem dX4_init_31 : decode cX4_init 31 = .ok (.aload_n 0, 1) := by decide +kernel
theorem dX4_init_32 : decode cX4_init 32 = .ok (.sipush 1440, 3) := by decide +kernel
theorem dX4_init_35 : decode cX4_init 35 = .ok (.newarray .int, 2) := by decide +kernel
theorem dX4_init_37 : decode cX4_init 37 = .ok (.putfield 21, 3) := by decide +kernel
theorem dX4_init_40 : decode cX4_init 40 = .ok (.aload_n 0, 1) := by decide +kernel
theorem dX4_init_41 : decode cX4_init 41 = .ok (.new 24, 3) := by decide +kernel
theorem dX4_init_44 : decode cX4_init 44 = .ok (.dup, 1) := by decide +kernel
theorem dX4_init_45 : decode cX4_init 45 = .ok (.invokespecial 26, 3) := by decide +kernel
theorem dX4_init_48 : decode cX4_init 48 = .ok (.putfield 27, 3) := by decide +kernel
theorem dX4_init_51 : decode cX4_init 51 = .ok (.aload_n 0, 1) := by decide +kernel
theorem dX4_init_52 : decode cX4_init 52 = .ok (.iconst 0, 1) := by decide +kernel
theorem dX4_init_53 : decode cX4_init 53 = .ok (.putfield 31, 3) := by decide +kernel
theorem dX4_init_56 : decode cX4_init 56 = .ok (.aload_n 0, 1) := by decide +kernel
theorem dX4_init_57 : decode cX4_init 57 = .ok (.iconst (-1), 1) := by decide +kernel
theorem dX4_init_58 : decode cX4_init 58 = .ok (.putfield 35, 3) := by decide +kernel
theorem dX4_init_61 : decode cX4_init 61 = .ok (.return_, 1) := by decide +kernel
theorem dX4_forget_0 : decode cX4_forget 0 = .ok (.aload_n 0, 1) := by decide +kernel
theorem dX4_forget_1 : decode cX4_forget 1 = .ok (.iconst (-1), 1) := by decide +kernel
theorem dX4_forget_2 : decode cX4_forget 2 = .ok (.putfield 35, 3) := by decide +kernel
theorem dX4_forget_5 : decode cX4_forget 5 = .ok (.return_, 1) := by decide +kernel
theorem dX4_clear_0 : decode cX4_clear 0 = .ok (.aload_n 0, 1) := by decide +kernel
theorem dX4_clear_1 : decode cX4_clear 1 = .ok (.iload_n 1, 1) := by decide +kernel
theorem dX4_clear_2 : decode cX4_clear 2 = .ok (.putfield 35, 3) := by decide +kernel
theorem dX4_clear_5 : decode cX4_clear 5 = .ok (.aload_n 0, 1) := by decide +kernel
theorem dX4_clear_6 : decode cX4_clear 6 = .ok (.iconst 0, 1) := by decide +kernel
theorem dX4_clear_7 : decode cX4_clear 7 = .ok (.putfield 31, 3) := by decide +kernel
theorem dX4_clear_10 : decode cX4_clear 10 = .ok (.aload_n 0, 1) := by decide +kernel
theorem dX4_clear_11 : decode cX4_clear 11 = .ok (.getfield 9, 3) := by decide +kernel
theorem dX4_clear_14 : decode cX4_clear 14 = .ok (.iconst 0, 1) := by decide +kernel
theorem dX4_clear_15 : decode cX4_clear 15 = .ok (.invokestatic 38, 3) := by decide +kernel
theorem dX4_clear_18 : decode cX4_clear 18 = .ok (.aload_n 0, 1) := by decide +kernel
theorem dX4_clear_19 : decode cX4_clear 19 = .ok (.getfield 18, 3) := by decide +kernel
theorem dX4_clear_22 : decode cX4_clear 22 = .ok (.iconst 0, 1) := by decide +kernel
theorem dX4_clear_23 : decode cX4_clear 23 = .ok (.invokestatic 38, 3) := by decide +kernel
theorem dX4_clear_26 : decode cX4_clear 26 = .ok (.aload_n 0, 1) := by decide +kernel
theorem dX4_clear_27 : decode cX4_clear 27 = .ok (.getfield 15, 3) := by decide +kernel
theorem dX4_clear_30 : decode cX4_clear 30 = .ok (.iconst 4, 1) := by decide +kernel
theorem dX4_clear_31 : decode cX4_clear 31 = .ok (.invokestatic 38, 3) := by decide +kernel
theorem dX4_clear_34 : decode cX4_clear 34 = .ok (.return_, 1) := by decide +kernel
theorem dX4_read_0 : decode cX4_read 0 = .ok (.iconst 1, 1) := by decide +kernel
theorem dX4_read_1 : decode cX4_read 1 = .ok (.iload_n 1, 1) := by decide +kernel
theorem dX4_read_2 : decode cX4_read 2 = .ok (.ishl, 1) := by decide +kernel
theorem dX4_read_3 : decode cX4_read 3 = .ok (.istore_n 3, 1) := by decide +kernel
theorem dX4_read_4 : decode cX4_read 4 = .ok (.aload_n 0, 1) := by decide +kernel
theorem dX4_read_5 : decode cX4_read 5 = .ok (.getfield 31, 3) := by decide +kernel
theorem dX4_read_8 : decode cX4_read 8 = .ok (.iload_n 3, 1) := by decide +kernel
theorem dX4_read_9 : decode cX4_read 9 = .ok (.iand, 1) := by decide +kernel
theorem dX4_read_10 : decode cX4_read 10 = .ok (.ifCond .eq 4, 3) := by decide +kernel
theorem dX4_read_13 : decode cX4_read 13 = .ok (.return_, 1) := by decide +kernel
theorem dX4_read_14 : decode cX4_read 14 = .ok (.aload_n 0, 1) := by decide +kernel
theorem dX4_read_15 : decode cX4_read 15 = .ok (.dup, 1) := by decide +kernel
theorem dX4_read_16 : decode cX4_read 16 = .ok (.getfield 31, 3) := by decide +kernel
theorem dX4_read_19 : decode cX4_read 19 = .ok (.iload_n 3, 1) := by decide +kernel
theorem dX4_read_20 : decode cX4_read 20 = .ok (.ior, 1) := by decide +kernel
theorem dX4_read_21 : decode cX4_read 21 = .ok (.putfield 31, 3) := by decide +kernel
theorem dX4_read_24 : decode cX4_read 24 = .ok (.aload_n 0, 1) := by decide +kernel
theorem dX4_read_25 : decode cX4_read 25 = .ok (.getfield 27, 3) := by decide +kernel
theorem dX4_read_28 : decode cX4_read 28 = .ok (.getfield 44, 3) := by decide +kernel
theorem dX4_read_31 : decode cX4_read 31 = .ok (.astore 4, 2) := by decide +kernel
theorem dX4_read_33 : decode cX4_read 33 = .ok (.aload 4, 2) := by decide +kernel
theorem dX4_read_35 : decode cX4_read 35 = .ok (.bipush 100, 2) := by decide +kernel
theorem dX4_read_37 : decode cX4_read 37 = .ok (.aload_n 0, 1) := by decide +kernel
theorem dX4_read_38 : decode cX4_read 38 = .ok (.getfield 35, 3) := by decide +kernel
theorem dX4_read_41 : decode cX4_read 41 = .ok (.iastore, 1) := by decide +kernel
theorem dX4_read_42 : decode cX4_read 42 = .ok (.aload 4, 2) := by decide +kernel
theorem dX4_read_44 : decode cX4_read 44 = .ok (.bipush 102, 2) := by decide +kernel
theorem dX4_read_46 : decode cX4_read 46 = .ok (.aload_n 0, 1) := by decide +kernel
theorem dX4_read_47 : decode cX4_read 47 = .ok (.getfield 35, 3) := by decide +kernel
theorem dX4_read_50 : decode cX4_read 50 = .ok (.bipush 7, 2) := by decide +kernel
theorem dX4_read_52 : decode cX4_read 52 = .ok (.irem, 1) := by decide +kernel
theorem dX4_read_53 : decode cX4_read 53 = .ok (.iastore, 1) := by decide +kernel
theorem dX4_read_54 : decode cX4_read 54 = .ok (.aload 4, 2) := by decide +kernel
theorem dX4_read_56 : decode cX4_read 56 = .ok (.bipush 116, 2) := by decide +kernel
theorem dX4_read_58 : decode cX4_read 58 = .ok (.iconst 0, 1) := by decide +kernel
theorem dX4_read_59 : decode cX4_read 59 = .ok (.iastore, 1) := by decide +kernel
theorem dX4_read_60 : decode cX4_read 60 = .ok (.iconst 0, 1) := by decide +kernel
theorem dX4_read_61 : decode cX4_read 61 = .ok (.istore 5, 2) := by decide +kernel
theorem dX4_read_63 : decode cX4_read 63 = .ok (.iconst 0, 1) := by decide +kernel
theorem dX4_read_64 : decode cX4_read 64 = .ok (.istore 6, 2) := by decide +kernel
theorem dX4_read_66 : decode cX4_read 66 = .ok (.iload 6, 2) := by decide +kernel
theorem dX4_read_68 : decode cX4_read 68 = .ok (.sipush 1440, 3) := by decide +kernel
theorem dX4_read_71 : decode cX4_read 71 = .ok (.if_icmp .ge 185, 3) := by decide +kernel
theorem dX4_read_74 : decode cX4_read 74 = .ok (.aload_n 0, 1) := by decide +kernel
theorem dX4_read_75 : decode cX4_read 75 = .ok (.iload 6, 2) := by decide +kernel
theorem dX4_read_77 : decode cX4_read 77 = .ok (.iload 5, 2) := by decide +kernel
theorem dX4_read_79 : decode cX4_read 79 = .ok (.invokevirtual 47, 3) := by decide +kernel
theorem dX4_read_82 : decode cX4_read 82 = .ok (.istore 5, 2) := by decide +kernel
theorem dX4_read_84 : decode cX4_read 84 = .ok (.aload 4, 2) := by decide +kernel
theorem dX4_read_86 : decode cX4_read 86 = .ok (.bipush 103, 2) := by decide +kernel
theorem dX4_read_88 : decode cX4_read 88 = .ok (.iload 5, 2) := by decide +kernel
theorem dX4_read_90 : decode cX4_read 90 = .ok (.iastore, 1) := by decide +kernel
theorem dX4_read_91 : decode cX4_read 91 = .ok (.aload 4, 2) := by decide +kernel
theorem dX4_read_93 : decode cX4_read 93 = .ok (.bipush 104, 2) := by decide +kernel
theorem dX4_read_95 : decode cX4_read 95 = .ok (.aload_n 0, 1) := by decide +kernel
theorem dX4_read_96 : decode cX4_read 96 = .ok (.getfield 9, 3) := by decide +kernel
theorem dX4_read_99 : decode cX4_read 99 = .ok (.iload 6, 2) := by decide +kernel
theorem dX4_read_101 : decode cX4_read 101 = .ok (.iaload, 1) := by decide +kernel
theorem dX4_read_102 : decode cX4_read 102 = .ok (.iastore, 1) := by decide +kernel
theorem dX4_read_103 : decode cX4_read 103 = .ok (.aload 4, 2) := by decide +kernel
theorem dX4_read_105 : decode cX4_read 105 = .ok (.bipush 98, 2) := by decide +kernel
theorem dX4_read_107 : decode cX4_read 107 = .ok (.iload 6, 2) := by decide +kernel
theorem dX4_read_109 : decode cX4_read 109 = .ok (.ifCond .le 15, 3) := by decide +kernel
theorem dX4_read_112 : decode cX4_read 112 = .ok (.aload_n 0, 1) := by decide +kernel
theorem dX4_read_113 : decode cX4_read 113 = .ok (.getfield 9, 3) := by decide +kernel
theorem dX4_read_116 : decode cX4_read 116 = .ok (.iload 6, 2) := by decide +kernel
theorem dX4_read_118 : decode cX4_read 118 = .ok (.iconst 1, 1) := by decide +kernel
theorem dX4_read_119 : decode cX4_read 119 = .ok (.isub, 1) := by decide +kernel
theorem dX4_read_120 : decode cX4_read 120 = .ok (.iaload, 1) := by decide +kernel
theorem dX4_read_121 : decode cX4_read 121 = .ok (.goto 4, 3) := by decide +kernel
theorem dX4_read_124 : decode cX4_read 124 = .ok (.iconst 0, 1) := by decide +kernel
theorem dX4_read_125 : decode cX4_read 125 = .ok (.iastore, 1) := by decide +kernel
theorem dX4_read_126 : decode cX4_read 126 = .ok (.aload 4, 2) := by decide +kernel
theorem dX4_read_128 : decode cX4_read 128 = .ok (.bipush 108, 2) := by decide +kernel
theorem dX4_read_130 : decode cX4_read 130 = .ok (.aload_n 0, 1) := by decide +kernel
theorem dX4_read_131 : decode cX4_read 131 = .ok (.getfield 15, 3) := by decide +kernel
theorem dX4_read_134 : decode cX4_read 134 = .ok (.iload 6, 2) := by decide +kernel
theorem dX4_read_136 : decode cX4_read 136 = .ok (.iaload, 1) := by decide +kernel
theorem dX4_read_137 : decode cX4_read 137 = .ok (.iastore, 1) := by decide +kernel
theorem dX4_read_138 : decode cX4_read 138 = .ok (.aload 4, 2) := by decide +kernel
theorem dX4_read_140 : decode cX4_read 140 = .ok (.bipush 109, 2) := by decide +kernel
theorem dX4_read_142 : decode cX4_read 142 = .ok (.iload 6, 2) := by decide +kernel
theorem dX4_read_144 : decode cX4_read 144 = .ok (.iastore, 1) := by decide +kernel
theorem dX4_read_145 : decode cX4_read 145 = .ok (.aload 4, 2) := by decide +kernel
theorem dX4_read_147 : decode cX4_read 147 = .ok (.bipush 115, 2) := by decide +kernel
theorem dX4_read_149 : decode cX4_read 149 = .ok (.aload_n 0, 1) := by decide +kernel
theorem dX4_read_150 : decode cX4_read 150 = .ok (.getfield 35, 3) := by decide +kernel
theorem dX4_read_153 : decode cX4_read 153 = .ok (.iload 6, 2) := by decide +kernel
theorem dX4_read_155 : decode cX4_read 155 = .ok (.invokestatic 51, 3) := by decide +kernel
theorem dX4_read_158 : decode cX4_read 158 = .ok (.iastore, 1) := by decide +kernel
theorem dX4_read_159 : decode cX4_read 159 = .ok (.aload_n 0, 1) := by decide +kernel
theorem dX4_read_160 : decode cX4_read 160 = .ok (.iload_n 1, 1) := by decide +kernel
theorem dX4_read_161 : decode cX4_read 161 = .ok (.iload 6, 2) := by decide +kernel
theorem dX4_read_163 : decode cX4_read 163 = .ok (.iconst 2, 1) := by decide +kernel
theorem dX4_read_164 : decode cX4_read 164 = .ok (.isub, 1) := by decide +kernel
theorem dX4_read_165 : decode cX4_read 165 = .ok (.invokevirtual 54, 3) := by decide +kernel
theorem dX4_read_168 : decode cX4_read 168 = .ok (.ifCond .eq 24, 3) := by decide +kernel
theorem dX4_read_171 : decode cX4_read 171 = .ok (.aload_n 0, 1) := by decide +kernel
theorem dX4_read_172 : decode cX4_read 172 = .ok (.iload_n 1, 1) := by decide +kernel
theorem dX4_read_173 : decode cX4_read 173 = .ok (.iload 6, 2) := by decide +kernel
theorem dX4_read_175 : decode cX4_read 175 = .ok (.iconst 1, 1) := by decide +kernel
theorem dX4_read_176 : decode cX4_read 176 = .ok (.isub, 1) := by decide +kernel
theorem dX4_read_177 : decode cX4_read 177 = .ok (.invokevirtual 54, 3) := by decide +kernel
theorem dX4_read_180 : decode cX4_read 180 = .ok (.ifCond .ne 12, 3) := by decide +kernel
theorem dX4_read_183 : decode cX4_read 183 = .ok (.aload 4, 2) := by decide +kernel
theorem dX4_read_185 : decode cX4_read 185 = .ok (.bipush 116, 2) := by decide +kernel
theorem dX4_read_187 : decode cX4_read 187 = .ok (.dup2, 1) := by decide +kernel
theorem dX4_read_188 : decode cX4_read 188 = .ok (.iaload, 1) := by decide +kernel
theorem dX4_read_189 : decode cX4_read 189 = .ok (.iconst 1, 1) := by decide +kernel
theorem dX4_read_190 : decode cX4_read 190 = .ok (.iadd, 1) := by decide +kernel
theorem dX4_read_191 : decode cX4_read 191 = .ok (.iastore, 1) := by decide +kernel
theorem dX4_read_192 : decode cX4_read 192 = .ok (.aload_n 2, 1) := by decide +kernel
theorem dX4_read_193 : decode cX4_read 193 = .ok (.ifnull 19, 3) := by decide +kernel
theorem dX4_read_212 : decode cX4_read 212 = .ok (.iconst 0, 1) := by decide +kernel
theorem dX4_read_213 : decode cX4_read 213 = .ok (.istore 7, 2) := by decide +kernel
theorem dX4_read_215 : decode cX4_read 215 = .ok (.aload_n 0, 1) := by decide +kernel
theorem dX4_read_216 : decode cX4_read 216 = .ok (.getfield 21, 3) := by decide +kernel
theorem dX4_read_219 : decode cX4_read 219 = .ok (.iload 6, 2) := by decide +kernel
theorem dX4_read_221 : decode cX4_read 221 = .ok (.iload 7, 2) := by decide +kernel
theorem dX4_read_223 : decode cX4_read 223 = .ok (.ifCond .eq 15, 3) := by decide +kernel
theorem dX4_read_238 : decode cX4_read 238 = .ok (.aload_n 0, 1) := by decide +kernel
theorem dX4_read_239 : decode cX4_read 239 = .ok (.getfield 21, 3) := by decide +kernel
theorem dX4_read_242 : decode cX4_read 242 = .ok (.iload 6, 2) := by decide +kernel
theorem dX4_read_244 : decode cX4_read 244 = .ok (.iaload, 1) := by decide +kernel
theorem dX4_read_245 : decode cX4_read 245 = .ok (.iload_n 3, 1) := by decide +kernel
theorem dX4_read_246 : decode cX4_read 246 = .ok (.iconst (-1), 1) := by decide +kernel
theorem dX4_read_247 : decode cX4_read 247 = .ok (.ixor, 1) := by decide +kernel
theorem dX4_read_248 : decode cX4_read 248 = .ok (.iand, 1) := by decide +kernel
theorem dX4_read_249 : decode cX4_read 249 = .ok (.iastore, 1) := by decide +kernel
theorem dX4_read_250 : decode cX4_read 250 = .ok (.iinc 6 1, 3) := by decide +kernel
theorem dX4_read_253 : decode cX4_read 253 = .ok (.goto (-187), 3) := by decide +kernel
theorem dX4_read_256 : decode cX4_read 256 = .ok (.return_, 1) := by decide +kernel
theorem dX4_greatestBefore_0 : decode cX4_greatestBefore 0 = .ok (.iload_n 1, 1) := by decide +kernel
theorem dX4_greatestBefore_1 : decode cX4_greatestBefore 1 = .ok (.ifCond .le 24, 3) := by decide +kernel
theorem dX4_greatestBefore_4 : decode cX4_greatestBefore 4 = .ok (.aload_n 0, 1) := by decide +kernel
theorem dX4_greatestBefore_5 : decode cX4_greatestBefore 5 = .ok (.getfield 9, 3) := by decide +kernel
theorem dX4_greatestBefore_8 : decode cX4_greatestBefore 8 = .ok (.iload_n 1, 1) := by decide +kernel
theorem dX4_greatestBefore_9 : decode cX4_greatestBefore 9 = .ok (.iconst 1, 1) := by decide +kernel
theorem dX4_greatestBefore_10 : decode cX4_greatestBefore 10 = .ok (.isub, 1) := by decide +kernel
theorem dX4_greatestBefore_11 : decode cX4_greatestBefore 11 = .ok (.iaload, 1) := by decide +kernel
theorem dX4_greatestBefore_12 : decode cX4_greatestBefore 12 = .ok (.iload_n 2, 1) := by decide +kernel
theorem dX4_greatestBefore_13 : decode cX4_greatestBefore 13 = .ok (.if_icmp .lt 12, 3) := by decide +kernel
theorem dX4_greatestBefore_16 : decode cX4_greatestBefore 16 = .ok (.aload_n 0, 1) := by decide +kernel
theorem dX4_greatestBefore_17 : decode cX4_greatestBefore 17 = .ok (.getfield 9, 3) := by decide +kernel
theorem dX4_greatestBefore_20 : decode cX4_greatestBefore 20 = .ok (.iload_n 1, 1) := by decide +kernel
theorem dX4_greatestBefore_21 : decode cX4_greatestBefore 21 = .ok (.iconst 1, 1) := by decide +kernel
theorem dX4_greatestBefore_22 : decode cX4_greatestBefore 22 = .ok (.isub, 1) := by decide +kernel
theorem dX4_greatestBefore_23 : decode cX4_greatestBefore 23 = .ok (.iaload, 1) := by decide +kernel
theorem dX4_greatestBefore_24 : decode cX4_greatestBefore 24 = .ok (.ireturn, 1) := by decide +kernel
theorem dX4_greatestBefore_25 : decode cX4_greatestBefore 25 = .ok (.iload_n 1, 1) := by decide +kernel
theorem dX4_greatestBefore_26 : decode cX4_greatestBefore 26 = .ok (.bipush 10, 2) := by decide +kernel
theorem dX4_greatestBefore_28 : decode cX4_greatestBefore 28 = .ok (.isub, 1) := by decide +kernel
theorem dX4_greatestBefore_29 : decode cX4_greatestBefore 29 = .ok (.iconst 1, 1) := by decide +kernel
theorem dX4_greatestBefore_30 : decode cX4_greatestBefore 30 = .ok (.isub, 1) := by decide +kernel
theorem dX4_greatestBefore_31 : decode cX4_greatestBefore 31 = .ok (.istore_n 3, 1) := by decide +kernel
theorem dX4_greatestBefore_32 : decode cX4_greatestBefore 32 = .ok (.iload_n 3, 1) := by decide +kernel
theorem dX4_greatestBefore_33 : decode cX4_greatestBefore 33 = .ok (.ifCond .lt 13, 3) := by decide +kernel
theorem dX4_greatestBefore_36 : decode cX4_greatestBefore 36 = .ok (.aload_n 0, 1) := by decide +kernel
theorem dX4_greatestBefore_37 : decode cX4_greatestBefore 37 = .ok (.getfield 9, 3) := by decide +kernel
theorem dX4_greatestBefore_40 : decode cX4_greatestBefore 40 = .ok (.iload_n 3, 1) := by decide +kernel
theorem dX4_greatestBefore_41 : decode cX4_greatestBefore 41 = .ok (.iaload, 1) := by decide +kernel
theorem dX4_greatestBefore_42 : decode cX4_greatestBefore 42 = .ok (.iload_n 2, 1) := by decide +kernel
theorem dX4_greatestBefore_43 : decode cX4_greatestBefore 43 = .ok (.if_icmp .ge 7, 3) := by decide +kernel
theorem dX4_greatestBefore_46 : decode cX4_greatestBefore 46 = .ok (.iconst 1, 1) := by decide +kernel
theorem dX4_greatestBefore_47 : decode cX4_greatestBefore 47 = .ok (.goto 4, 3) := by decide +kernel
theorem dX4_greatestBefore_50 : decode cX4_greatestBefore 50 = .ok (.iconst 0, 1) := by decide +kernel
theorem dX4_greatestBefore_51 : decode cX4_greatestBefore 51 = .ok (.istore 4, 2) := by decide +kernel
theorem dX4_greatestBefore_53 : decode cX4_greatestBefore 53 = .ok (.iload 4, 2) := by decide +kernel
theorem dX4_greatestBefore_55 : decode cX4_greatestBefore 55 = .ok (.ifCond .eq 7, 3) := by decide +kernel
theorem dX4_greatestBefore_58 : decode cX4_greatestBefore 58 = .ok (.iload_n 2, 1) := by decide +kernel
theorem dX4_greatestBefore_59 : decode cX4_greatestBefore 59 = .ok (.goto 13, 3) := by decide +kernel
theorem dX4_greatestBefore_62 : decode cX4_greatestBefore 62 = .ok (.aload_n 0, 1) := by decide +kernel
theorem dX4_greatestBefore_63 : decode cX4_greatestBefore 63 = .ok (.iload_n 3, 1) := by decide +kernel
theorem dX4_greatestBefore_64 : decode cX4_greatestBefore 64 = .ok (.iconst 1, 1) := by decide +kernel
theorem dX4_greatestBefore_65 : decode cX4_greatestBefore 65 = .ok (.iadd, 1) := by decide +kernel
theorem dX4_greatestBefore_66 : decode cX4_greatestBefore 66 = .ok (.iload_n 1, 1) := by decide +kernel
theorem dX4_greatestBefore_67 : decode cX4_greatestBefore 67 = .ok (.iconst 1, 1) := by decide +kernel
theorem dX4_greatestBefore_68 : decode cX4_greatestBefore 68 = .ok (.isub, 1) := by decide +kernel
theorem dX4_greatestBefore_69 : decode cX4_greatestBefore 69 = .ok (.invokevirtual 62, 3) := by decide +kernel
theorem dX4_greatestBefore_72 : decode cX4_greatestBefore 72 = .ok (.ireturn, 1) := by decide +kernel
theorem dX4_greatestOf_0 : decode cX4_greatestOf 0 = .ok (.iconst 0, 1) := by decide +kernel
theorem dX4_greatestOf_1 : decode cX4_greatestOf 1 = .ok (.istore_n 3, 1) := by decide +kernel
theorem dX4_greatestOf_2 : decode cX4_greatestOf 2 = .ok (.iload_n 1, 1) := by decide +kernel
theorem dX4_greatestOf_3 : decode cX4_greatestOf 3 = .ok (.istore 4, 2) := by decide +kernel
theorem dX4_greatestOf_5 : decode cX4_greatestOf 5 = .ok (.iload 4, 2) := by decide +kernel
theorem dX4_greatestOf_7 : decode cX4_greatestOf 7 = .ok (.iload_n 2, 1) := by decide +kernel
theorem dX4_greatestOf_8 : decode cX4_greatestOf 8 = .ok (.if_icmp .gt 29, 3) := by decide +kernel
theorem dX4_greatestOf_11 : decode cX4_greatestOf 11 = .ok (.iload 4, 2) := by decide +kernel
theorem dX4_greatestOf_13 : decode cX4_greatestOf 13 = .ok (.sipush 1440, 3) := by decide +kernel
theorem dX4_greatestOf_16 : decode cX4_greatestOf 16 = .ok (.if_icmp .ge 21, 3) := by decide +kernel
theorem dX4_greatestOf_19 : decode cX4_greatestOf 19 = .ok (.iload_n 3, 1) := by decide +kernel
theorem dX4_greatestOf_20 : decode cX4_greatestOf 20 = .ok (.aload_n 0, 1) := by decide +kernel
theorem dX4_greatestOf_21 : decode cX4_greatestOf 21 = .ok (.getfield 9, 3) := by decide +kernel
theorem dX4_greatestOf_24 : decode cX4_greatestOf 24 = .ok (.iload 4, 2) := by decide +kernel
theorem dX4_greatestOf_26 : decode cX4_greatestOf 26 = .ok (.iaload, 1) := by decide +kernel
theorem dX4_greatestOf_27 : decode cX4_greatestOf 27 = .ok (.invokestatic 65, 3) := by decide +kernel
theorem dX4_greatestOf_30 : decode cX4_greatestOf 30 = .ok (.istore_n 3, 1) := by decide +kernel
theorem dX4_greatestOf_31 : decode cX4_greatestOf 31 = .ok (.iinc 4 1, 3) := by decide +kernel
theorem dX4_greatestOf_34 : decode cX4_greatestOf 34 = .ok (.goto (-29), 3) := by decide +kernel
theorem dX4_greatestOf_37 : decode cX4_greatestOf 37 = .ok (.iload_n 3, 1) := by decide +kernel
theorem dX4_greatestOf_38 : decode cX4_greatestOf 38 = .ok (.ireturn, 1) := by decide +kernel
theorem dX4_isMarked_0 : decode cX4_isMarked 0 = .ok (.iload_n 2, 1) := by decide +kernel
theorem dX4_isMarked_1 : decode cX4_isMarked 1 = .ok (.invokestatic 70, 3) := by decide +kernel
theorem dX4_isMarked_4 : decode cX4_isMarked 4 = .ok (.ifCond .eq 21, 3) := by decide +kernel
theorem dX4_isMarked_7 : decode cX4_isMarked 7 = .ok (.aload_n 0, 1) := by decide +kernel
theorem dX4_isMarked_8 : decode cX4_isMarked 8 = .ok (.getfield 21, 3) := by decide +kernel
theorem dX4_isMarked_11 : decode cX4_isMarked 11 = .ok (.iload_n 2, 1) := by decide +kernel
theorem dX4_isMarked_12 : decode cX4_isMarked 12 = .ok (.iaload, 1) := by decide +kernel
theorem dX4_isMarked_13 : decode cX4_isMarked 13 = .ok (.iload_n 1, 1) := by decide +kernel
theorem dX4_isMarked_14 : decode cX4_isMarked 14 = .ok (.ishr, 1) := by decide +kernel
theorem dX4_isMarked_15 : decode cX4_isMarked 15 = .ok (.iconst 1, 1) := by decide +kernel
theorem dX4_isMarked_16 : decode cX4_isMarked 16 = .ok (.iand, 1) := by decide +kernel
theorem dX4_isMarked_17 : decode cX4_isMarked 17 = .ok (.iconst 1, 1) := by decide +kernel
theorem dX4_isMarked_18 : decode cX4_isMarked 18 = .ok (.if_icmp .ne 7, 3) := by decide +kernel
theorem dX4_isMarked_21 : decode cX4_isMarked 21 = .ok (.iconst 1, 1) := by decide +kernel
theorem dX4_isMarked_22 : decode cX4_isMarked 22 = .ok (.goto 4, 3) := by decide +kernel
theorem dX4_isMarked_25 : decode cX4_isMarked 25 = .ok (.iconst 0, 1) := by decide +kernel
theorem dX4_isMarked_26 : decode cX4_isMarked 26 = .ok (.ireturn, 1) := by decide +kernel
theorem dX4_beginsMark_0 : decode cX4_beginsMark 0 = .ok (.aload_n 0, 1) := by decide +kernel
theorem dX4_beginsMark_1 : decode cX4_beginsMark 1 = .ok (.iload_n 1, 1) := by decide +kernel
theorem dX4_beginsMark_2 : decode cX4_beginsMark 2 = .ok (.iload_n 2, 1) := by decide +kernel
theorem dX4_beginsMark_3 : decode cX4_beginsMark 3 = .ok (.invokevirtual 54, 3) := by decide +kernel
theorem dX4_beginsMark_6 : decode cX4_beginsMark 6 = .ok (.ifCond .eq 18, 3) := by decide +kernel
theorem dX4_beginsMark_9 : decode cX4_beginsMark 9 = .ok (.aload_n 0, 1) := by decide +kernel
theorem dX4_beginsMark_10 : decode cX4_beginsMark 10 = .ok (.iload_n 1, 1) := by decide +kernel
theorem dX4_beginsMark_11 : decode cX4_beginsMark 11 = .ok (.iload_n 2, 1) := by decide +kernel
theorem dX4_beginsMark_12 : decode cX4_beginsMark 12 = .ok (.iconst 1, 1) := by decide +kernel
theorem dX4_beginsMark_13 : decode cX4_beginsMark 13 = .ok (.isub, 1) := by decide +kernel
theorem dX4_beginsMark_14 : decode cX4_beginsMark 14 = .ok (.invokevirtual 54, 3) := by decide +kernel
theorem dX4_beginsMark_17 : decode cX4_beginsMark 17 = .ok (.ifCond .ne 7, 3) := by decide +kernel
theorem dX4_beginsMark_20 : decode cX4_beginsMark 20 = .ok (.iconst 1, 1) := by decide +kernel
theorem dX4_beginsMark_21 : decode cX4_beginsMark 21 = .ok (.goto 4, 3) := by decide +kernel
theorem dX4_beginsMark_24 : decode cX4_beginsMark 24 = .ok (.iconst 0, 1) := by decide +kernel
theorem dX4_beginsMark_25 : decode cX4_beginsMark 25 = .ok (.ireturn, 1) := by decide +kernel
theorem dX4_marksOf_0 : decode cX4_marksOf 0 = .ok (.iconst 0, 1) := by decide +kernel
theorem dX4_marksOf_1 : decode cX4_marksOf 1 = .ok (.istore_n 2, 1) := by decide +kernel
theorem dX4_marksOf_2 : decode cX4_marksOf 2 = .ok (.iconst 0, 1) := by decide +kernel
theorem dX4_marksOf_3 : decode cX4_marksOf 3 = .ok (.istore_n 3, 1) := by decide +kernel
theorem dX4_marksOf_4 : decode cX4_marksOf 4 = .ok (.iload_n 3, 1) := by decide +kernel
theorem dX4_marksOf_5 : decode cX4_marksOf 5 = .ok (.sipush 1440, 3) := by decide +kernel
theorem dX4_marksOf_8 : decode cX4_marksOf 8 = .ok (.if_icmp .ge 26, 3) := by decide +kernel
theorem dX4_marksOf_11 : decode cX4_marksOf 11 = .ok (.iload_n 2, 1) := by decide +kernel
theorem dX4_marksOf_12 : decode cX4_marksOf 12 = .ok (.aload_n 0, 1) := by decide +kernel
theorem dX4_marksOf_13 : decode cX4_marksOf 13 = .ok (.iload_n 1, 1) := by decide +kernel
theorem dX4_marksOf_14 : decode cX4_marksOf 14 = .ok (.iload_n 3, 1) := by decide +kernel
theorem dX4_marksOf_15 : decode cX4_marksOf 15 = .ok (.invokevirtual 74, 3) := by decide +kernel
theorem dX4_marksOf_18 : decode cX4_marksOf 18 = .ok (.ifCond .eq 7, 3) := by decide +kernel
theorem dX4_marksOf_21 : decode cX4_marksOf 21 = .ok (.iconst 1, 1) := by decide +kernel
theorem dX4_marksOf_22 : decode cX4_marksOf 22 = .ok (.goto 4, 3) := by decide +kernel
theorem dX4_marksOf_25 : decode cX4_marksOf 25 = .ok (.iconst 0, 1) := by decide +kernel
theorem dX4_marksOf_26 : decode cX4_marksOf 26 = .ok (.iadd, 1) := by decide +kernel
theorem dX4_marksOf_27 : decode cX4_marksOf 27 = .ok (.istore_n 2, 1) := by decide +kernel
theorem dX4_marksOf_28 : decode cX4_marksOf 28 = .ok (.iinc 3 1, 3) := by decide +kernel
theorem dX4_marksOf_31 : decode cX4_marksOf 31 = .ok (.goto (-27), 3) := by decide +kernel
theorem dX4_marksOf_34 : decode cX4_marksOf 34 = .ok (.iload_n 2, 1) := by decide +kernel
theorem dX4_marksOf_35 : decode cX4_marksOf 35 = .ok (.ireturn, 1) := by decide +kernel
theorem dX4_markNumber_0 : decode cX4_markNumber 0 = .ok (.iload_n 2, 1) := by decide +kernel
theorem dX4_markNumber_1 : decode cX4_markNumber 1 = .ok (.iconst 3, 1) := by decide +kernel
theorem dX4_markNumber_2 : decode cX4_markNumber 2 = .ok (.idiv, 1) := by decide +kernel
theorem dX4_markNumber_3 : decode cX4_markNumber 3 = .ok (.istore_n 3, 1) := by decide +kernel
theorem dX4_markNumber_4 : decode cX4_markNumber 4 = .ok (.iconst 0, 1) := by decide +kernel
theorem dX4_markNumber_5 : decode cX4_markNumber 5 = .ok (.istore 4, 2) := by decide +kernel
theorem dX4_markNumber_7 : decode cX4_markNumber 7 = .ok (.iload 4, 2) := by decide +kernel
theorem dX4_markNumber_9 : decode cX4_markNumber 9 = .ok (.sipush 1440, 3) := by decide +kernel
theorem dX4_markNumber_12 : decode cX4_markNumber 12 = .ok (.if_icmp .ge 37, 3) := by decide +kernel
theorem dX4_markNumber_15 : decode cX4_markNumber 15 = .ok (.aload_n 0, 1) := by decide +kernel
theorem dX4_markNumber_16 : decode cX4_markNumber 16 = .ok (.iload_n 1, 1) := by decide +kernel
theorem dX4_markNumber_17 : decode cX4_markNumber 17 = .ok (.iload 4, 2) := by decide +kernel
theorem dX4_markNumber_19 : decode cX4_markNumber 19 = .ok (.invokevirtual 74, 3) := by decide +kernel
theorem dX4_markNumber_22 : decode cX4_markNumber 22 = .ok (.ifCond .eq 21, 3) := by decide +kernel
theorem dX4_markNumber_25 : decode cX4_markNumber 25 = .ok (.iload_n 3, 1) := by decide +kernel
theorem dX4_markNumber_26 : decode cX4_markNumber 26 = .ok (.ifCond .ne 14, 3) := by decide +kernel
theorem dX4_markNumber_29 : decode cX4_markNumber 29 = .ok (.aload_n 0, 1) := by decide +kernel
theorem dX4_markNumber_30 : decode cX4_markNumber 30 = .ok (.iload_n 1, 1) := by decide +kernel
theorem dX4_markNumber_31 : decode cX4_markNumber 31 = .ok (.iload 4, 2) := by decide +kernel
theorem dX4_markNumber_33 : decode cX4_markNumber 33 = .ok (.iload_n 2, 1) := by decide +kernel
theorem dX4_markNumber_34 : decode cX4_markNumber 34 = .ok (.iconst 3, 1) := by decide +kernel
theorem dX4_markNumber_35 : decode cX4_markNumber 35 = .ok (.irem, 1) := by decide +kernel
theorem dX4_markNumber_40 : decode cX4_markNumber 40 = .ok (.iinc 3 (-1), 3) := by decide +kernel
theorem dX4_markNumber_43 : decode cX4_markNumber 43 = .ok (.iinc 4 1, 3) := by decide +kernel
theorem dX4_markNumber_46 : decode cX4_markNumber 46 = .ok (.goto (-39), 3) := by decide +kernel
theorem dX4_markNumber_49 : decode cX4_markNumber 49 = .ok (.iconst (-1), 1) := by decide +kernel
theorem dX4_markNumber_50 : decode cX4_markNumber 50 = .ok (.ireturn, 1) := by decide +kernel
theorem dX4_beginsPassed_0 : decode cX4_beginsPassed 0 = .ok (.aload_n 0, 1) := by decide +kernel
theorem dX4_beginsPassed_1 : decode cX4_beginsPassed 1 = .ok (.iload_n 2, 1) := by decide +kernel
theorem dX4_beginsPassed_2 : decode cX4_beginsPassed 2 = .ok (.iload_n 3, 1) := by decide +kernel
theorem dX4_beginsPassed_3 : decode cX4_beginsPassed 3 = .ok (.invokevirtual 74, 3) := by decide +kernel
theorem dX4_beginsPassed_6 : decode cX4_beginsPassed 6 = .ok (.ifCond .ne 5, 3) := by decide +kernel
theorem dX4_beginsPassed_9 : decode cX4_beginsPassed 9 = .ok (.iconst 0, 1) := by decide +kernel
theorem dX4_beginsPassed_10 : decode cX4_beginsPassed 10 = .ok (.ireturn, 1) := by decide +kernel
theorem dX4_beginsPassed_11 : decode cX4_beginsPassed 11 = .ok (.iload_n 3, 1) := by decide +kernel
theorem dX4_beginsPassed_12 : decode cX4_beginsPassed 12 = .ok (.istore 4, 2) := by decide +kernel
theorem dX4_beginsPassed_14 : decode cX4_beginsPassed 14 = .ok (.iload 4, 2) := by decide +kernel
theorem dX4_beginsPassed_16 : decode cX4_beginsPassed 16 = .ok (.sipush 1440, 3) := by decide +kernel
theorem dX4_beginsPassed_19 : decode cX4_beginsPassed 19 = .ok (.if_icmp .ge 31, 3) := by decide +kernel
theorem dX4_beginsPassed_22 : decode cX4_beginsPassed 22 = .ok (.aload_n 0, 1) := by decide +kernel
theorem dX4_beginsPassed_23 : decode cX4_beginsPassed 23 = .ok (.iload_n 2, 1) := by decide +kernel
theorem dX4_beginsPassed_24 : decode cX4_beginsPassed 24 = .ok (.iload 4, 2) := by decide +kernel
theorem dX4_beginsPassed_26 : decode cX4_beginsPassed 26 = .ok (.invokevirtual 54, 3) := by decide +kernel
theorem dX4_beginsPassed_29 : decode cX4_beginsPassed 29 = .ok (.ifCond .eq 21, 3) := by decide +kernel
theorem dX4_beginsPassed_32 : decode cX4_beginsPassed 32 = .ok (.aload_n 0, 1) := by decide +kernel
theorem dX4_beginsPassed_33 : decode cX4_beginsPassed 33 = .ok (.iload_n 1, 1) := by decide +kernel
theorem dX4_beginsPassed_34 : decode cX4_beginsPassed 34 = .ok (.iload 4, 2) := by decide +kernel
theorem dX4_beginsPassed_36 : decode cX4_beginsPassed 36 = .ok (.invokevirtual 54, 3) := by decide +kernel
theorem dX4_beginsPassed_39 : decode cX4_beginsPassed 39 = .ok (.ifCond .eq 5, 3) := by decide +kernel
theorem dX4_beginsPassed_42 : decode cX4_beginsPassed 42 = .ok (.iconst 0, 1) := by decide +kernel
theorem dX4_beginsPassed_43 : decode cX4_beginsPassed 43 = .ok (.ireturn, 1) := by decide +kernel
theorem dX4_beginsPassed_44 : decode cX4_beginsPassed 44 = .ok (.iinc 4 1, 3) := by decide +kernel
theorem dX4_beginsPassed_47 : decode cX4_beginsPassed 47 = .ok (.goto (-33), 3) := by decide +kernel
theorem dX4_beginsPassed_50 : decode cX4_beginsPassed 50 = .ok (.iconst 1, 1) := by decide +kernel
theorem dX4_beginsPassed_51 : decode cX4_beginsPassed 51 = .ok (.ireturn, 1) := by decide +kernel
theorem dX4_passedMarks_0 : decode cX4_passedMarks 0 = .ok (.iconst 0, 1) := by decide +kernel
theorem dX4_passedMarks_1 : decode cX4_passedMarks 1 = .ok (.istore_n 3, 1) := by decide +kernel
theorem dX4_passedMarks_2 : decode cX4_passedMarks 2 = .ok (.iconst 0, 1) := by decide +kernel
theorem dX4_passedMarks_3 : decode cX4_passedMarks 3 = .ok (.istore 4, 2) := by decide +kernel
theorem dX4_passedMarks_5 : decode cX4_passedMarks 5 = .ok (.iload 4, 2) := by decide +kernel
theorem dX4_passedMarks_7 : decode cX4_passedMarks 7 = .ok (.sipush 1440, 3) := by decide +kernel
theorem dX4_passedMarks_10 : decode cX4_passedMarks 10 = .ok (.if_icmp .ge 28, 3) := by decide +kernel
theorem dX4_passedMarks_13 : decode cX4_passedMarks 13 = .ok (.iload_n 3, 1) := by decide +kernel
theorem dX4_passedMarks_14 : decode cX4_passedMarks 14 = .ok (.aload_n 0, 1) := by decide +kernel
theorem dX4_passedMarks_15 : decode cX4_passedMarks 15 = .ok (.iload_n 1, 1) := by decide +kernel
theorem dX4_passedMarks_16 : decode cX4_passedMarks 16 = .ok (.iload_n 2, 1) := by decide +kernel
theorem dX4_passedMarks_17 : decode cX4_passedMarks 17 = .ok (.iload 4, 2) := by decide +kernel
theorem dX4_passedMarks_19 : decode cX4_passedMarks 19 = .ok (.invokevirtual 84, 3) := by decide +kernel
theorem dX4_passedMarks_22 : decode cX4_passedMarks 22 = .ok (.ifCond .eq 7, 3) := by decide +kernel
theorem dX4_passedMarks_25 : decode cX4_passedMarks 25 = .ok (.iconst 1, 1) := by decide +kernel
theorem dX4_passedMarks_26 : decode cX4_passedMarks 26 = .ok (.goto 4, 3) := by decide +kernel
theorem dX4_passedMarks_29 : decode cX4_passedMarks 29 = .ok (.iconst 0, 1) := by decide +kernel
theorem dX4_passedMarks_30 : decode cX4_passedMarks 30 = .ok (.iadd, 1) := by decide +kernel
theorem dX4_passedMarks_31 : decode cX4_passedMarks 31 = .ok (.istore_n 3, 1) := by decide +kernel
theorem dX4_passedMarks_32 : decode cX4_passedMarks 32 = .ok (.iinc 4 1, 3) := by decide +kernel
theorem dX4_passedMarks_35 : decode cX4_passedMarks 35 = .ok (.goto (-30), 3) := by decide +kernel
theorem dX4_passedMarks_38 : decode cX4_passedMarks 38 = .ok (.iload_n 3, 1) := by decide +kernel
theorem dX4_passedMarks_39 : decode cX4_passedMarks 39 = .ok (.ireturn, 1) := by decide +kernel
theorem dX4_firstWrong_0 : decode cX4_firstWrong 0 = .ok (.iconst 0, 1) := by decide +kernel
theorem dX4_firstWrong_1 : decode cX4_firstWrong 1 = .ok (.istore 4, 2) := by decide +kernel
theorem dX4_firstWrong_3 : decode cX4_firstWrong 3 = .ok (.iconst 0, 1) := by decide +kernel
theorem dX4_firstWrong_4 : decode cX4_firstWrong 4 = .ok (.istore 5, 2) := by decide +kernel
theorem dX4_firstWrong_6 : decode cX4_firstWrong 6 = .ok (.iload 5, 2) := by decide +kernel
theorem dX4_firstWrong_8 : decode cX4_firstWrong 8 = .ok (.sipush 1440, 3) := by decide +kernel
theorem dX4_firstWrong_11 : decode cX4_firstWrong 11 = .ok (.if_icmp .ge 69, 3) := by decide +kernel
theorem dX4_firstWrong_14 : decode cX4_firstWrong 14 = .ok (.aload_n 0, 1) := by decide +kernel
theorem dX4_firstWrong_15 : decode cX4_firstWrong 15 = .ok (.iload_n 1, 1) := by decide +kernel
theorem dX4_firstWrong_16 : decode cX4_firstWrong 16 = .ok (.iload 5, 2) := by decide +kernel
theorem dX4_firstWrong_18 : decode cX4_firstWrong 18 = .ok (.invokevirtual 74, 3) := by decide +kernel
theorem dX4_firstWrong_21 : decode cX4_firstWrong 21 = .ok (.ifCond .eq 53, 3) := by decide +kernel
theorem dX4_firstWrong_24 : decode cX4_firstWrong 24 = .ok (.iload 4, 2) := by decide +kernel
theorem dX4_firstWrong_26 : decode cX4_firstWrong 26 = .ok (.iconst 3, 1) := by decide +kernel
theorem dX4_firstWrong_27 : decode cX4_firstWrong 27 = .ok (.iload_n 3, 1) := by decide +kernel
theorem dX4_firstWrong_28 : decode cX4_firstWrong 28 = .ok (.imul, 1) := by decide +kernel
theorem dX4_firstWrong_29 : decode cX4_firstWrong 29 = .ok (.if_icmp .lt 6, 3) := by decide +kernel
theorem dX4_firstWrong_32 : decode cX4_firstWrong 32 = .ok (.iload 4, 2) := by decide +kernel
theorem dX4_firstWrong_34 : decode cX4_firstWrong 34 = .ok (.ireturn, 1) := by decide +kernel
theorem dX4_firstWrong_35 : decode cX4_firstWrong 35 = .ok (.iconst 0, 1) := by decide +kernel
theorem dX4_firstWrong_36 : decode cX4_firstWrong 36 = .ok (.istore 6, 2) := by decide +kernel
theorem dX4_firstWrong_38 : decode cX4_firstWrong 38 = .ok (.iload 6, 2) := by decide +kernel
theorem dX4_firstWrong_40 : decode cX4_firstWrong 40 = .ok (.iconst 3, 1) := by decide +kernel
theorem dX4_firstWrong_41 : decode cX4_firstWrong 41 = .ok (.if_icmp .ge 33, 3) := by decide +kernel
theorem dX4_firstWrong_44 : decode cX4_firstWrong 44 = .ok (.aload_n 2, 1) := by decide +kernel
theorem dX4_firstWrong_45 : decode cX4_firstWrong 45 = .ok (.iload 4, 2) := by decide +kernel
theorem dX4_firstWrong_74 : decode cX4_firstWrong 74 = .ok (.iinc 5 1, 3) := by decide +kernel
theorem dX4_firstWrong_77 : decode cX4_firstWrong 77 = .ok (.goto (-71), 3) := by decide +kernel
theorem dX4_firstWrong_80 : decode cX4_firstWrong 80 = .ok (.iload 4, 2) := by decide +kernel
theorem dX4_firstWrong_82 : decode cX4_firstWrong 82 = .ok (.iconst 3, 1) := by decide +kernel
theorem dX4_firstWrong_83 : decode cX4_firstWrong 83 = .ok (.iload_n 3, 1) := by decide +kernel
theorem dX4_firstWrong_84 : decode cX4_firstWrong 84 = .ok (.imul, 1) := by decide +kernel
theorem dX4_firstWrong_85 : decode cX4_firstWrong 85 = .ok (.if_icmp .ge 8, 3) := by decide +kernel
theorem dX4_firstWrong_88 : decode cX4_firstWrong 88 = .ok (.iload 4, 2) := by decide +kernel
theorem dX4_firstWrong_90 : decode cX4_firstWrong 90 = .ok (.goto 4, 3) := by decide +kernel
theorem dX4_firstWrong_93 : decode cX4_firstWrong 93 = .ok (.iconst (-1), 1) := by decide +kernel
theorem dX4_firstWrong_94 : decode cX4_firstWrong 94 = .ok (.ireturn, 1) := by decide +kernel
theorem dX5_init_0 : decode cX5_init 0 = .ok (.aload_n 0, 1) := by decide +kernel
theorem dX5_init_1 : decode cX5_init 1 = .ok (.invokespecial 3, 3) := by decide +kernel
theorem dX5_init_4 : decode cX5_init 4 = .ok (.aload_n 0, 1) := by decide +kernel
theorem dX5_init_5 : decode cX5_init 5 = .ok (.sipush 128, 3) := by decide +kernel
theorem dX5_init_8 : decode cX5_init 8 = .ok (.newarray .int, 2) := by decide +kernel
theorem dX5_init_10 : decode cX5_init 10 = .ok (.putfield 9, 3) := by decide +kernel
theorem dX5_init_13 : decode cX5_init 13 = .ok (.aload_n 0, 1) := by decide +kernel
theorem dX5_init_14 : decode cX5_init 14 = .ok (.bipush 32, 2) := by decide +kernel
theorem dX5_init_16 : decode cX5_init 16 = .ok (.newarray .int, 2) := by decide +kernel
theorem dX5_init_18 : decode cX5_init 18 = .ok (.putfield 15, 3) := by decide +kernel
theorem dX5_init_21 : decode cX5_init 21 = .ok (.return_, 1) := by decide +kernel
theorem dX6_init_0 : decode cX6_init 0 = .ok (.aload_n 0, 1) := by decide +kernel
theorem dX6_init_1 : decode cX6_init 1 = .ok (.invokespecial 3, 3) := by decide +kernel
theorem dX6_init_4 : decode cX6_init 4 = .ok (.aload_n 0, 1) := by decide +kernel
theorem dX6_init_5 : decode cX6_init 5 = .ok (.bipush 120, 2) := by decide +kernel
theorem dX6_init_7 : decode cX6_init 7 = .ok (.newarray .int, 2) := by decide +kernel
theorem dX6_init_9 : decode cX6_init 9 = .ok (.putfield 9, 3) := by decide +kernel
theorem dX6_init_12 : decode cX6_init 12 = .ok (.aload_n 0, 1) := by decide +kernel
theorem dX6_init_13 : decode cX6_init 13 = .ok (.bipush 13, 2) := by decide +kernel
theorem dX6_init_15 : decode cX6_init 15 = .ok (.newarray .int, 2) := by decide +kernel
theorem dX6_init_17 : decode cX6_init 17 = .ok (.putfield 15, 3) := by decide +kernel
theorem dX6_init_20 : decode cX6_init 20 = .ok (.aload_n 0, 1) := by decide +kernel
theorem dX6_init_21 : decode cX6_init 21 = .ok (.bipush 12, 2) := by decide +kernel
theorem dX6_init_23 : decode cX6_init 23 = .ok (.newarray .int, 2) := by decide +kernel
theorem dX6_init_25 : decode cX6_init 25 = .ok (.putfield 18, 3) := by decide +kernel
theorem dX6_init_28 : decode cX6_init 28 = .ok (.aload_n 0, 1) := by decide +kernel
theorem dX6_init_29 : decode cX6_init 29 = .ok (.iconst 0, 1) := by decide +kernel
theorem dX6_init_30 : decode cX6_init 30 = .ok (.newarray .int, 2) := by decide +kernel
theorem dX6_init_32 : decode cX6_init 32 = .ok (.putfield 21, 3) := by decide +kernel
theorem dX6_init_35 : decode cX6_init 35 = .ok (.aload_n 0, 1) := by decide +kernel
theorem dX6_init_36 : decode cX6_init 36 = .ok (.iconst 0, 1) := by decide +kernel
theorem dX6_init_37 : decode cX6_init 37 = .ok (.putfield 24, 3) := by decide +kernel
theorem dX6_init_40 : decode cX6_init 40 = .ok (.aload_n 0, 1) := by decide +kernel
theorem dX6_init_41 : decode cX6_init 41 = .ok (.iconst 0, 1) := by decide +kernel
theorem dX6_init_42 : decode cX6_init 42 = .ok (.putfield 28, 3) := by decide +kernel
theorem dX6_init_45 : decode cX6_init 45 = .ok (.aload_n 0, 1) := by decide +kernel
theorem dX6_init_46 : decode cX6_init 46 = .ok (.iconst 0, 1) := by decide +kernel
theorem dX6_init_47 : decode cX6_init 47 = .ok (.putfield 31, 3) := by decide +kernel
theorem dX6_init_50 : decode cX6_init 50 = .ok (.aload_n 0, 1) := by decide +kernel
theorem dX6_init_51 : decode cX6_init 51 = .ok (.iconst 0, 1) := by decide +kernel
theorem dX6_init_52 : decode cX6_init 52 = .ok (.putfield 34, 3) := by decide +kernel
theorem dX6_init_55 : decode cX6_init 55 = .ok (.return_, 1) := by decide +kernel
theorem dX7_init_0 : decode cX7_init 0 = .ok (.aload_n 0, 1) := by decide +kernel
theorem dX7_init_1 : decode cX7_init 1 = .ok (.invokespecial 3, 3) := by decide +kernel
theorem dX7_init_4 : decode cX7_init 4 = .ok (.aload_n 0, 1) := by decide +kernel
theorem dX7_init_5 : decode cX7_init 5 = .ok (.bipush 10, 2) := by decide +kernel
theorem dX7_init_7 : decode cX7_init 7 = .ok (.anewarray 9, 3) := by decide +kernel
theorem dX7_init_10 : decode cX7_init 10 = .ok (.putfield 11, 3) := by decide +kernel
theorem dX7_init_13 : decode cX7_init 13 = .ok (.aload_n 0, 1) := by decide +kernel
theorem dX7_init_14 : decode cX7_init 14 = .ok (.new 17, 3) := by decide +kernel
theorem dX7_init_17 : decode cX7_init 17 = .ok (.dup, 1) := by decide +kernel
theorem dX7_init_18 : decode cX7_init 18 = .ok (.invokespecial 19, 3) := by decide +kernel
theorem dX7_init_21 : decode cX7_init 21 = .ok (.putfield 20, 3) := by decide +kernel
theorem dX7_init_24 : decode cX7_init 24 = .ok (.aload_n 0, 1) := by decide +kernel
theorem dX7_init_25 : decode cX7_init 25 = .ok (.iconst 0, 1) := by decide +kernel
theorem dX7_init_26 : decode cX7_init 26 = .ok (.putfield 24, 3) := by decide +kernel
theorem dX7_init_29 : decode cX7_init 29 = .ok (.aload_n 0, 1) := by decide +kernel
theorem dX7_init_30 : decode cX7_init 30 = .ok (.iconst 0, 1) := by decide +kernel
theorem dX7_init_31 : decode cX7_init 31 = .ok (.putfield 28, 3) := by decide +kernel
theorem dX7_init_34 : decode cX7_init 34 = .ok (.return_, 1) := by decide +kernel
theorem dX7_add_0 : decode cX7_add 0 = .ok (.aload_n 0, 1) := by decide +kernel
theorem dX7_add_1 : decode cX7_add 1 = .ok (.getfield 24, 3) := by decide +kernel
theorem dX7_add_4 : decode cX7_add 4 = .ok (.bipush 10, 2) := by decide +kernel
theorem dX7_add_6 : decode cX7_add 6 = .ok (.if_icmp .lt 5, 3) := by decide +kernel
theorem dX7_add_9 : decode cX7_add 9 = .ok (.iconst (-1), 1) := by decide +kernel
theorem dX7_add_10 : decode cX7_add 10 = .ok (.ireturn, 1) := by decide +kernel
theorem dX7_add_11 : decode cX7_add 11 = .ok (.aload_n 0, 1) := by decide +kernel
theorem dX7_add_12 : decode cX7_add 12 = .ok (.getfield 11, 3) := by decide +kernel
theorem dX7_add_15 : decode cX7_add 15 = .ok (.aload_n 0, 1) := by decide +kernel
theorem dX7_add_16 : decode cX7_add 16 = .ok (.getfield 24, 3) := by decide +kernel
theorem dX7_add_19 : decode cX7_add 19 = .ok (.aload_n 1, 1) := by decide +kernel
theorem dX7_add_20 : decode cX7_add 20 = .ok (.aastore, 1) := by decide +kernel
theorem dX7_add_21 : decode cX7_add 21 = .ok (.aload_n 0, 1) := by decide +kernel
theorem dX7_add_22 : decode cX7_add 22 = .ok (.dup, 1) := by decide +kernel
theorem dX7_add_23 : decode cX7_add 23 = .ok (.getfield 24, 3) := by decide +kernel
theorem dX7_add_26 : decode cX7_add 26 = .ok (.iconst 1, 1) := by decide +kernel
theorem dX7_add_27 : decode cX7_add 27 = .ok (.iadd, 1) := by decide +kernel
theorem dX7_add_28 : decode cX7_add 28 = .ok (.putfield 24, 3) := by decide +kernel
theorem dX7_add_31 : decode cX7_add 31 = .ok (.aload_n 0, 1) := by decide +kernel
theorem dX7_add_32 : decode cX7_add 32 = .ok (.getfield 24, 3) := by decide +kernel
theorem dX7_add_35 : decode cX7_add 35 = .ok (.iconst 1, 1) := by decide +kernel
theorem dX7_add_36 : decode cX7_add 36 = .ok (.isub, 1) := by decide +kernel
theorem dX7_add_37 : decode cX7_add 37 = .ok (.ireturn, 1) := by decide +kernel
theorem dX7_sourceAt_0 : decode cX7_sourceAt 0 = .ok (.iload_n 1, 1) := by decide +kernel
theorem dX7_sourceAt_1 : decode cX7_sourceAt 1 = .ok (.iconst 0, 1) := by decide +kernel
theorem dX7_sourceAt_2 : decode cX7_sourceAt 2 = .ok (.aload_n 0, 1) := by decide +kernel
theorem dX7_sourceAt_3 : decode cX7_sourceAt 3 = .ok (.getfield 24, 3) := by decide +kernel
theorem dX7_sourceAt_6 : decode cX7_sourceAt 6 = .ok (.iconst 1, 1) := by decide +kernel
theorem dX7_sourceAt_7 : decode cX7_sourceAt 7 = .ok (.isub, 1) := by decide +kernel
theorem dX7_sourceAt_8 : decode cX7_sourceAt 8 = .ok (.invokestatic 31, 3) := by decide +kernel
theorem dX7_sourceAt_11 : decode cX7_sourceAt 11 = .ok (.ifCond .eq 12, 3) := by decide +kernel
theorem dX7_sourceAt_14 : decode cX7_sourceAt 14 = .ok (.aload_n 0, 1) := by decide +kernel
theorem dX7_sourceAt_15 : decode cX7_sourceAt 15 = .ok (.getfield 11, 3) := by decide +kernel
theorem dX7_sourceAt_18 : decode cX7_sourceAt 18 = .ok (.iload_n 1, 1) := by decide +kernel
theorem dX7_sourceAt_19 : decode cX7_sourceAt 19 = .ok (.aaload, 1) := by decide +kernel
theorem dX7_sourceAt_20 : decode cX7_sourceAt 20 = .ok (.goto 4, 3) := by decide +kernel
theorem dX7_sourceAt_23 : decode cX7_sourceAt 23 = .ok (.aconst_null, 1) := by decide +kernel
theorem dX7_sourceAt_24 : decode cX7_sourceAt 24 = .ok (.areturn, 1) := by decide +kernel
theorem dX7_lay_0 : decode cX7_lay 0 = .ok (.aload_n 1, 1) := by decide +kernel
theorem dX7_lay_1 : decode cX7_lay 1 = .ok (.getfield 87, 3) := by decide +kernel
theorem dX7_lay_4 : decode cX7_lay 4 = .ok (.iload_n 2, 1) := by decide +kernel
theorem dX7_lay_5 : decode cX7_lay 5 = .ok (.if_icmp .ne 4, 3) := by decide +kernel
theorem dX7_lay_8 : decode cX7_lay 8 = .ok (.return_, 1) := by decide +kernel
theorem dX7_lay_9 : decode cX7_lay 9 = .ok (.aload_n 1, 1) := by decide +kernel
theorem dX7_lay_10 : decode cX7_lay 10 = .ok (.iload_n 2, 1) := by decide +kernel
theorem dX7_lay_11 : decode cX7_lay 11 = .ok (.invokevirtual 92, 3) := by decide +kernel
theorem dX7_lay_14 : decode cX7_lay 14 = .ok (.iconst 0, 1) := by decide +kernel
theorem dX7_lay_15 : decode cX7_lay 15 = .ok (.istore_n 3, 1) := by decide +kernel
theorem dX7_lay_16 : decode cX7_lay 16 = .ok (.iload_n 3, 1) := by decide +kernel
theorem dX7_lay_17 : decode cX7_lay 17 = .ok (.aload_n 0, 1) := by decide +kernel
theorem dX7_lay_18 : decode cX7_lay 18 = .ok (.getfield 24, 3) := by decide +kernel
theorem dX7_lay_21 : decode cX7_lay 21 = .ok (.if_icmp .ge 46, 3) := by decide +kernel
theorem dX7_lay_24 : decode cX7_lay 24 = .ok (.aload_n 0, 1) := by decide +kernel
theorem dX7_lay_25 : decode cX7_lay 25 = .ok (.getfield 11, 3) := by decide +kernel
theorem dX7_lay_28 : decode cX7_lay 28 = .ok (.iload_n 3, 1) := by decide +kernel
theorem dX7_lay_29 : decode cX7_lay 29 = .ok (.aaload, 1) := by decide +kernel
theorem dX7_lay_30 : decode cX7_lay 30 = .ok (.astore 4, 2) := by decide +kernel
theorem dX7_lay_32 : decode cX7_lay 32 = .ok (.aload 4, 2) := by decide +kernel
theorem dX7_lay_34 : decode cX7_lay 34 = .ok (.ifnull 27, 3) := by decide +kernel
theorem dX7_lay_61 : decode cX7_lay 61 = .ok (.iinc 3 1, 3) := by decide +kernel
theorem dX7_lay_64 : decode cX7_lay 64 = .ok (.goto (-48), 3) := by decide +kernel
theorem dX7_lay_67 : decode cX7_lay 67 = .ok (.return_, 1) := by decide +kernel
theorem dX8_init_0 : decode cX8_init 0 = .ok (.aload_n 0, 1) := by decide +kernel
theorem dX8_init_1 : decode cX8_init 1 = .ok (.invokespecial 3, 3) := by decide +kernel
theorem dX8_init_4 : decode cX8_init 4 = .ok (.aload_n 0, 1) := by decide +kernel
theorem dX8_init_5 : decode cX8_init 5 = .ok (.aconst_null, 1) := by decide +kernel
theorem dX8_init_6 : decode cX8_init 6 = .ok (.putfield 9, 3) := by decide +kernel
theorem dX8_init_9 : decode cX8_init 9 = .ok (.aload_n 0, 1) := by decide +kernel
theorem dX8_init_10 : decode cX8_init 10 = .ok (.iload_n 1, 1) := by decide +kernel
theorem dX8_init_11 : decode cX8_init 11 = .ok (.putfield 15, 3) := by decide +kernel
theorem dX8_init_14 : decode cX8_init 14 = .ok (.aload_n 0, 1) := by decide +kernel
theorem dX8_init_15 : decode cX8_init 15 = .ok (.iload_n 2, 1) := by decide +kernel
theorem dX8_init_16 : decode cX8_init 16 = .ok (.putfield 19, 3) := by decide +kernel
theorem dX8_init_19 : decode cX8_init 19 = .ok (.aload_n 0, 1) := by decide +kernel
theorem dX8_init_20 : decode cX8_init 20 = .ok (.iload_n 3, 1) := by decide +kernel
theorem dX8_init_21 : decode cX8_init 21 = .ok (.putfield 23, 3) := by decide +kernel
theorem dX8_init_24 : decode cX8_init 24 = .ok (.aload_n 0, 1) := by decide +kernel
theorem dX8_init_25 : decode cX8_init 25 = .ok (.iload 4, 2) := by decide +kernel
theorem dX8_init_27 : decode cX8_init 27 = .ok (.putfield 26, 3) := by decide +kernel
theorem dX8_init_30 : decode cX8_init 30 = .ok (.aload_n 0, 1) := by decide +kernel
theorem dX8_init_31 : decode cX8_init 31 = .ok (.iload 5, 2) := by decide +kernel
theorem dX8_init_33 : decode cX8_init 33 = .ok (.putfield 29, 3) := by decide +kernel
theorem dX8_init_36 : decode cX8_init 36 = .ok (.aload_n 0, 1) := by decide +kernel
theorem dX8_init_37 : decode cX8_init 37 = .ok (.iload 6, 2) := by decide +kernel
theorem dX8_init_39 : decode cX8_init 39 = .ok (.putfield 32, 3) := by decide +kernel
theorem dX8_init_42 : decode cX8_init 42 = .ok (.return_, 1) := by decide +kernel
theorem dX9_init_0 : decode cX9_init 0 = .ok (.aload_n 0, 1) := by decide +kernel
theorem dX9_init_1 : decode cX9_init 1 = .ok (.invokespecial 3, 3) := by decide +kernel
theorem dX9_init_4 : decode cX9_init 4 = .ok (.aload_n 0, 1) := by decide +kernel
theorem dX9_init_5 : decode cX9_init 5 = .ok (.sipush 200, 3) := by decide +kernel
theorem dX9_init_8 : decode cX9_init 8 = .ok (.newarray .int, 2) := by decide +kernel
theorem dX9_init_10 : decode cX9_init 10 = .ok (.putfield 9, 3) := by decide +kernel
theorem dX9_init_13 : decode cX9_init 13 = .ok (.aload_n 0, 1) := by decide +kernel
theorem dX9_init_14 : decode cX9_init 14 = .ok (.iconst 0, 1) := by decide +kernel
theorem dX9_init_15 : decode cX9_init 15 = .ok (.putfield 15, 3) := by decide +kernel
theorem dX9_init_18 : decode cX9_init 18 = .ok (.return_, 1) := by decide +kernel
theorem dX9_put_0 : decode cX9_put 0 = .ok (.bipush 24, 2) := by decide +kernel
theorem dX9_put_2 : decode cX9_put 2 = .ok (.istore_n 2, 1) := by decide +kernel
theorem dX9_put_3 : decode cX9_put 3 = .ok (.iload_n 2, 1) := by decide +kernel
theorem dX9_put_4 : decode cX9_put 4 = .ok (.ifCond .lt 47, 3) := by decide +kernel
theorem dX9_put_7 : decode cX9_put 7 = .ok (.aload_n 0, 1) := by decide +kernel
theorem dX9_put_8 : decode cX9_put 8 = .ok (.getfield 15, 3) := by decide +kernel
theorem dX9_put_11 : decode cX9_put 11 = .ok (.aload_n 0, 1) := by decide +kernel
theorem dX9_put_12 : decode cX9_put 12 = .ok (.getfield 9, 3) := by decide +kernel
theorem dX9_put_15 : decode cX9_put 15 = .ok (.arraylength, 1) := by decide +kernel
theorem dX9_put_16 : decode cX9_put 16 = .ok (.if_icmp .ge 35, 3) := by decide +kernel
theorem dX9_put_19 : decode cX9_put 19 = .ok (.aload_n 0, 1) := by decide +kernel
theorem dX9_put_20 : decode cX9_put 20 = .ok (.getfield 9, 3) := by decide +kernel
theorem dX9_put_23 : decode cX9_put 23 = .ok (.aload_n 0, 1) := by decide +kernel
theorem dX9_put_24 : decode cX9_put 24 = .ok (.getfield 15, 3) := by decide +kernel
theorem dX9_put_27 : decode cX9_put 27 = .ok (.iload_n 1, 1) := by decide +kernel
theorem dX9_put_28 : decode cX9_put 28 = .ok (.iload_n 2, 1) := by decide +kernel
theorem dX9_put_29 : decode cX9_put 29 = .ok (.iushr, 1) := by decide +kernel
theorem dX9_put_30 : decode cX9_put 30 = .ok (.sipush 255, 3) := by decide +kernel
theorem dX9_put_33 : decode cX9_put 33 = .ok (.iand, 1) := by decide +kernel
theorem dX9_put_34 : decode cX9_put 34 = .ok (.iastore, 1) := by decide +kernel
theorem dX9_put_35 : decode cX9_put 35 = .ok (.aload_n 0, 1) := by decide +kernel
theorem dX9_put_36 : decode cX9_put 36 = .ok (.dup, 1) := by decide +kernel
theorem dX9_put_37 : decode cX9_put 37 = .ok (.getfield 15, 3) := by decide +kernel
theorem dX9_put_40 : decode cX9_put 40 = .ok (.iconst 1, 1) := by decide +kernel
theorem dX9_put_41 : decode cX9_put 41 = .ok (.iadd, 1) := by decide +kernel
theorem dX9_put_42 : decode cX9_put 42 = .ok (.putfield 15, 3) := by decide +kernel
theorem dX9_put_45 : decode cX9_put 45 = .ok (.iinc 2 (-8), 3) := by decide +kernel
theorem dX9_put_48 : decode cX9_put 48 = .ok (.goto (-45), 3) := by decide +kernel
theorem dX9_put_51 : decode cX9_put 51 = .ok (.return_, 1) := by decide +kernel
theorem dX9_clear_0 : decode cX9_clear 0 = .ok (.aload_n 0, 1) := by decide +kernel
theorem dX9_clear_1 : decode cX9_clear 1 = .ok (.iconst 0, 1) := by decide +kernel
theorem dX9_clear_2 : decode cX9_clear 2 = .ok (.putfield 15, 3) := by decide +kernel
theorem dX9_clear_5 : decode cX9_clear 5 = .ok (.return_, 1) := by decide +kernel
theorem dX11_init_0 : decode cX11_init 0 = .ok (.aload_n 0, 1) := by decide +kernel
theorem dX11_init_1 : decode cX11_init 1 = .ok (.invokespecial 1, 3) := by decide +kernel
theorem dX11_init_4 : decode cX11_init 4 = .ok (.aload_n 0, 1) := by decide +kernel
theorem dX11_init_5 : decode cX11_init 5 = .ok (.new 7, 3) := by decide +kernel
theorem dX11_init_8 : decode cX11_init 8 = .ok (.dup, 1) := by decide +kernel
theorem dX11_init_9 : decode cX11_init 9 = .ok (.invokespecial 9, 3) := by decide +kernel
theorem dX11_init_12 : decode cX11_init 12 = .ok (.putfield 10, 3) := by decide +kernel
theorem dX11_init_15 : decode cX11_init 15 = .ok (.aload_n 0, 1) := by decide +kernel
theorem dX11_init_16 : decode cX11_init 16 = .ok (.new 16, 3) := by decide +kernel
theorem dX11_init_19 : decode cX11_init 19 = .ok (.dup, 1) := by decide +kernel
theorem dX11_init_20 : decode cX11_init 20 = .ok (.invokespecial 18, 3) := by decide +kernel
theorem dX11_init_23 : decode cX11_init 23 = .ok (.putfield 19, 3) := by decide +kernel
theorem dX11_init_26 : decode cX11_init 26 = .ok (.aload_n 0, 1) := by decide +kernel
theorem dX11_init_27 : decode cX11_init 27 = .ok (.new 23, 3) := by decide +kernel
theorem dX11_init_30 : decode cX11_init 30 = .ok (.dup, 1) := by decide +kernel
theorem dX11_init_31 : decode cX11_init 31 = .ok (.invokespecial 25, 3) := by decide +kernel
theorem dX11_init_34 : decode cX11_init 34 = .ok (.putfield 26, 3) := by decide +kernel
theorem dX11_init_37 : decode cX11_init 37 = .ok (.aload_n 0, 1) := by decide +kernel
theorem dX11_init_38 : decode cX11_init 38 = .ok (.new 30, 3) := by decide +kernel
theorem dX11_init_41 : decode cX11_init 41 = .ok (.dup, 1) := by decide +kernel
theorem dX11_init_42 : decode cX11_init 42 = .ok (.invokespecial 32, 3) := by decide +kernel
theorem dX11_init_45 : decode cX11_init 45 = .ok (.putfield 33, 3) := by decide +kernel
theorem dX11_init_48 : decode cX11_init 48 = .ok (.aload_n 0, 1) := by decide +kernel
theorem dX11_init_49 : decode cX11_init 49 = .ok (.iconst 4, 1) := by decide +kernel
theorem dX11_init_50 : decode cX11_init 50 = .ok (.anewarray 37, 3) := by decide +kernel
theorem dX11_init_53 : decode cX11_init 53 = .ok (.putfield 39, 3) := by decide +kernel
theorem dX11_init_56 : decode cX11_init 56 = .ok (.aload_n 0, 1) := by decide +kernel
theorem dX11_init_57 : decode cX11_init 57 = .ok (.new 43, 3) := by decide +kernel
theorem dX11_init_60 : decode cX11_init 60 = .ok (.dup, 1) := by decide +kernel
theorem dX11_init_61 : decode cX11_init 61 = .ok (.invokespecial 45, 3) := by decide +kernel
theorem dX11_init_64 : decode cX11_init 64 = .ok (.putfield 46, 3) := by decide +kernel
theorem dX11_init_67 : decode cX11_init 67 = .ok (.aload_n 0, 1) := by decide +kernel
theorem dX11_init_68 : decode cX11_init 68 = .ok (.new 50, 3) := by decide +kernel
theorem dX11_init_71 : decode cX11_init 71 = .ok (.dup, 1) := by decide +kernel
theorem dX11_init_72 : decode cX11_init 72 = .ok (.invokespecial 52, 3) := by decide +kernel
theorem dX11_init_75 : decode cX11_init 75 = .ok (.putfield 53, 3) := by decide +kernel
theorem dX11_init_78 : decode cX11_init 78 = .ok (.aload_n 0, 1) := by decide +kernel
theorem dX11_init_79 : decode cX11_init 79 = .ok (.new 57, 3) := by decide +kernel
theorem dX11_init_82 : decode cX11_init 82 = .ok (.dup, 1) := by decide +kernel
theorem dX11_init_83 : decode cX11_init 83 = .ok (.invokespecial 59, 3) := by decide +kernel
theorem dX11_init_86 : decode cX11_init 86 = .ok (.putfield 60, 3) := by decide +kernel
theorem dX11_init_89 : decode cX11_init 89 = .ok (.aload_n 0, 1) := by decide +kernel
theorem dX11_init_90 : decode cX11_init 90 = .ok (.new 64, 3) := by decide +kernel
theorem dX11_init_93 : decode cX11_init 93 = .ok (.dup, 1) := by decide +kernel
theorem dX11_init_94 : decode cX11_init 94 = .ok (.invokespecial 66, 3) := by decide +kernel
theorem dX11_init_97 : decode cX11_init 97 = .ok (.putfield 67, 3) := by decide +kernel
theorem dX11_init_100 : decode cX11_init 100 = .ok (.return_, 1) := by decide +kernel
theorem dX11_source_0 : decode cX11_source 0 = .ok (.iload_n 2, 1) := by decide +kernel
theorem dX11_source_1 : decode cX11_source 1 = .ok (.invokestatic 71, 3) := by decide +kernel
theorem dX11_source_4 : decode cX11_source 4 = .ok (.ifCond .eq 36, 3) := by decide +kernel
theorem dX11_source_7 : decode cX11_source 7 = .ok (.iload_n 3, 1) := by decide +kernel
theorem dX11_source_8 : decode cX11_source 8 = .ok (.iconst 0, 1) := by decide +kernel
theorem dX11_source_9 : decode cX11_source 9 = .ok (.bipush 30, 2) := by decide +kernel
theorem dX11_source_11 : decode cX11_source 11 = .ok (.invokestatic 75, 3) := by decide +kernel
theorem dX11_source_14 : decode cX11_source 14 = .ok (.ifCond .eq 26, 3) := by decide +kernel
theorem dX11_source_17 : decode cX11_source 17 = .ok (.iload 4, 2) := by decide +kernel
theorem dX11_source_19 : decode cX11_source 19 = .ok (.invokestatic 79, 3) := by decide +kernel
theorem dX11_source_22 : decode cX11_source 22 = .ok (.ifCond .eq 18, 3) := by decide +kernel
theorem dX11_source_25 : decode cX11_source 25 = .ok (.iload 5, 2) := by decide +kernel
theorem dX11_source_27 : decode cX11_source 27 = .ok (.iconst 0, 1) := by decide +kernel
theorem dX11_source_28 : decode cX11_source 28 = .ok (.bipush 127, 2) := by decide +kernel
theorem dX11_source_30 : decode cX11_source 30 = .ok (.invokestatic 75, 3) := by decide +kernel
theorem dX11_source_33 : decode cX11_source 33 = .ok (.ifCond .eq 7, 3) := by decide +kernel
theorem dX11_source_36 : decode cX11_source 36 = .ok (.iconst 1, 1) := by decide +kernel
theorem dX11_source_37 : decode cX11_source 37 = .ok (.goto 4, 3) := by decide +kernel
theorem dX11_source_40 : decode cX11_source 40 = .ok (.iconst 0, 1) := by decide +kernel
theorem dX11_source_41 : decode cX11_source 41 = .ok (.istore 6, 2) := by decide +kernel
theorem dX11_source_43 : decode cX11_source 43 = .ok (.iload 6, 2) := by decide +kernel
theorem dX11_source_45 : decode cX11_source 45 = .ok (.ifCond .eq 15, 3) := by decide +kernel
theorem dX11_source_48 : decode cX11_source 48 = .ok (.aload_n 0, 1) := by decide +kernel
theorem dX11_source_49 : decode cX11_source 49 = .ok (.getfield 26, 3) := by decide +kernel
theorem dX11_source_52 : decode cX11_source 52 = .ok (.getfield 82, 3) := by decide +kernel
theorem dX11_source_55 : decode cX11_source 55 = .ok (.bipush 10, 2) := by decide +kernel
theorem dX11_source_57 : decode cX11_source 57 = .ok (.if_icmp .lt 5, 3) := by decide +kernel
theorem dX11_source_60 : decode cX11_source 60 = .ok (.iconst (-1), 1) := by decide +kernel
theorem dX11_source_61 : decode cX11_source 61 = .ok (.ireturn, 1) := by decide +kernel
theorem dX11_source_62 : decode cX11_source 62 = .ok (.aload_n 0, 1) := by decide +kernel
theorem dX11_source_63 : decode cX11_source 63 = .ok (.getfield 33, 3) := by decide +kernel
theorem dX11_source_66 : decode cX11_source 66 = .ok (.invokevirtual 86, 3) := by decide +kernel
theorem dX11_source_69 : decode cX11_source 69 = .ok (.aload_n 0, 1) := by decide +kernel
theorem dX11_source_70 : decode cX11_source 70 = .ok (.getfield 26, 3) := by decide +kernel
theorem dX11_source_73 : decode cX11_source 73 = .ok (.new 89, 3) := by decide +kernel
theorem dX11_source_76 : decode cX11_source 76 = .ok (.dup, 1) := by decide +kernel
theorem dX11_source_77 : decode cX11_source 77 = .ok (.aload_n 0, 1) := by decide +kernel
theorem dX11_source_78 : decode cX11_source 78 = .ok (.getfield 26, 3) := by decide +kernel
theorem dX11_source_81 : decode cX11_source 81 = .ok (.getfield 82, 3) := by decide +kernel
theorem dX11_source_84 : decode cX11_source 84 = .ok (.iload_n 1, 1) := by decide +kernel
theorem dX11_source_85 : decode cX11_source 85 = .ok (.iload_n 2, 1) := by decide +kernel
theorem dX11_source_86 : decode cX11_source 86 = .ok (.iload_n 3, 1) := by decide +kernel
theorem dX11_source_87 : decode cX11_source 87 = .ok (.iload 4, 2) := by decide +kernel
theorem dX11_source_89 : decode cX11_source 89 = .ok (.iload 5, 2) := by decide +kernel
theorem dX11_source_91 : decode cX11_source 91 = .ok (.invokespecial 91, 3) := by decide +kernel
theorem dX11_source_94 : decode cX11_source 94 = .ok (.invokevirtual 94, 3) := by decide +kernel
theorem dX11_source_97 : decode cX11_source 97 = .ok (.ireturn, 1) := by decide +kernel
theorem dX11_seed_0 : decode cX11_seed 0 = .ok (.iload_n 1, 1) := by decide +kernel
theorem dX11_seed_1 : decode cX11_seed 1 = .ok (.iconst 0, 1) := by decide +kernel
theorem dX11_seed_2 : decode cX11_seed 2 = .ok (.sipush 999, 3) := by decide +kernel
theorem dX11_seed_5 : decode cX11_seed 5 = .ok (.invokestatic 75, 3) := by decide +kernel
theorem dX11_seed_8 : decode cX11_seed 8 = .ok (.ifCond .ne 5, 3) := by decide +kernel
theorem dX11_seed_11 : decode cX11_seed 11 = .ok (.iconst 0, 1) := by decide +kernel
theorem dX11_seed_12 : decode cX11_seed 12 = .ok (.ireturn, 1) := by decide +kernel
theorem dX11_seed_13 : decode cX11_seed 13 = .ok (.aload_n 0, 1) := by decide +kernel
theorem dX11_seed_14 : decode cX11_seed 14 = .ok (.getfield 33, 3) := by decide +kernel
theorem dX11_seed_17 : decode cX11_seed 17 = .ok (.invokevirtual 86, 3) := by decide +kernel
theorem dX11_seed_20 : decode cX11_seed 20 = .ok (.aload_n 0, 1) := by decide +kernel
theorem dX11_seed_21 : decode cX11_seed 21 = .ok (.getfield 26, 3) := by decide +kernel
theorem dX11_seed_24 : decode cX11_seed 24 = .ok (.iload_n 1, 1) := by decide +kernel
theorem dX11_seed_25 : decode cX11_seed 25 = .ok (.putfield 98, 3) := by decide +kernel
theorem dX11_seed_28 : decode cX11_seed 28 = .ok (.iconst 1, 1) := by decide +kernel
theorem dX11_seed_29 : decode cX11_seed 29 = .ok (.ireturn, 1) := by decide +kernel
theorem dX11_feed_0 : decode cX11_feed 0 = .ok (.aload_n 0, 1) := by decide +kernel
theorem dX11_feed_1 : decode cX11_feed 1 = .ok (.getfield 10, 3) := by decide +kernel
theorem dX11_feed_4 : decode cX11_feed 4 = .ok (.getfield 101, 3) := by decide +kernel
theorem dX11_feed_7 : decode cX11_feed 7 = .ok (.sipush 180, 3) := by decide +kernel
theorem dX11_feed_10 : decode cX11_feed 10 = .ok (.if_icmp .le 5, 3) := by decide +kernel
theorem dX11_feed_13 : decode cX11_feed 13 = .ok (.iconst (-1), 1) := by decide +kernel
theorem dX11_feed_14 : decode cX11_feed 14 = .ok (.ireturn, 1) := by decide +kernel
theorem dX11_feed_15 : decode cX11_feed 15 = .ok (.aload_n 0, 1) := by decide +kernel
theorem dX11_feed_16 : decode cX11_feed 16 = .ok (.getfield 10, 3) := by decide +kernel
theorem dX11_feed_19 : decode cX11_feed 19 = .ok (.iload_n 1, 1) := by decide +kernel
theorem dX11_feed_20 : decode cX11_feed 20 = .ok (.invokevirtual 104, 3) := by decide +kernel
theorem dX11_feed_23 : decode cX11_feed 23 = .ok (.aload_n 0, 1) := by decide +kernel
theorem dX11_feed_24 : decode cX11_feed 24 = .ok (.getfield 10, 3) := by decide +kernel
theorem dX11_feed_27 : decode cX11_feed 27 = .ok (.iload_n 2, 1) := by decide +kernel
theorem dX11_feed_28 : decode cX11_feed 28 = .ok (.invokevirtual 104, 3) := by decide +kernel
theorem dX11_feed_31 : decode cX11_feed 31 = .ok (.aload_n 0, 1) := by decide +kernel
theorem dX11_feed_32 : decode cX11_feed 32 = .ok (.getfield 10, 3) := by decide +kernel
theorem dX11_feed_35 : decode cX11_feed 35 = .ok (.iload_n 3, 1) := by decide +kernel
theorem dX11_feed_36 : decode cX11_feed 36 = .ok (.invokevirtual 104, 3) := by decide +kernel
theorem dX11_feed_39 : decode cX11_feed 39 = .ok (.aload_n 0, 1) := by decide +kernel
theorem dX11_feed_40 : decode cX11_feed 40 = .ok (.getfield 10, 3) := by decide +kernel
theorem dX11_feed_43 : decode cX11_feed 43 = .ok (.iload 4, 2) := by decide +kernel
theorem dX11_feed_45 : decode cX11_feed 45 = .ok (.invokevirtual 104, 3) := by decide +kernel
theorem dX11_feed_48 : decode cX11_feed 48 = .ok (.aload_n 0, 1) := by decide +kernel
theorem dX11_feed_49 : decode cX11_feed 49 = .ok (.getfield 10, 3) := by decide +kernel
theorem dX11_feed_52 : decode cX11_feed 52 = .ok (.iload 5, 2) := by decide +kernel
theorem dX11_feed_54 : decode cX11_feed 54 = .ok (.invokevirtual 104, 3) := by decide +kernel
theorem dX11_feed_57 : decode cX11_feed 57 = .ok (.aload_n 0, 1) := by decide +kernel
theorem dX11_feed_58 : decode cX11_feed 58 = .ok (.getfield 10, 3) := by decide +kernel
theorem dX11_feed_61 : decode cX11_feed 61 = .ok (.getfield 101, 3) := by decide +kernel
theorem dX11_feed_64 : decode cX11_feed 64 = .ok (.ireturn, 1) := by decide +kernel
theorem dX11_law_0 : decode cX11_law 0 = .ok (.aload_n 0, 1) := by decide +kernel
theorem dX11_law_1 : decode cX11_law 1 = .ok (.getfield 26, 3) := by decide +kernel
theorem dX11_law_4 : decode cX11_law 4 = .ok (.iload_n 1, 1) := by decide +kernel
theorem dX11_law_5 : decode cX11_law 5 = .ok (.invokevirtual 108, 3) := by decide +kernel
theorem dX11_law_8 : decode cX11_law 8 = .ok (.astore_n 3, 1) := by decide +kernel
theorem dX11_law_9 : decode cX11_law 9 = .ok (.aload_n 3, 1) := by decide +kernel
theorem dX11_law_10 : decode cX11_law 10 = .ok (.ifnull 13, 3) := by decide +kernel
theorem dX11_law_23 : decode cX11_law 23 = .ok (.iconst (-1), 1) := by decide +kernel
theorem dX11_law_24 : decode cX11_law 24 = .ok (.ireturn, 1) := by decide +kernel
theorem dX11_way_0 : decode cX11_way 0 = .ok (.iload_n 1, 1) := by decide +kernel
theorem dX11_way_1 : decode cX11_way 1 = .ok (.invokestatic 138, 3) := by decide +kernel
theorem dX11_way_4 : decode cX11_way 4 = .ok (.ifCond .eq 13, 3) := by decide +kernel
theorem dX11_way_7 : decode cX11_way 7 = .ok (.aload_n 0, 1) := by decide +kernel
theorem dX11_way_8 : decode cX11_way 8 = .ok (.iload_n 2, 1) := by decide +kernel
theorem dX11_way_9 : decode cX11_way 9 = .ok (.bipush 120, 2) := by decide +kernel
theorem dX11_way_11 : decode cX11_way 11 = .ok (.invokevirtual 112, 3) := by decide +kernel
theorem dX11_way_14 : decode cX11_way 14 = .ok (.ifCond .ne 5, 3) := by decide +kernel
theorem dX11_way_17 : decode cX11_way 17 = .ok (.iconst (-1), 1) := by decide +kernel
theorem dX11_way_18 : decode cX11_way 18 = .ok (.ireturn, 1) := by decide +kernel
theorem dX11_story_0 : decode cX11_story 0 = .ok (.iload_n 1, 1) := by decide +kernel
theorem dX11_story_1 : decode cX11_story 1 = .ok (.invokestatic 144, 3) := by decide +kernel
theorem dX11_story_4 : decode cX11_story 4 = .ok (.ifCond .eq 13, 3) := by decide +kernel
theorem dX11_story_7 : decode cX11_story 7 = .ok (.aload_n 0, 1) := by decide +kernel
theorem dX11_story_8 : decode cX11_story 8 = .ok (.iload_n 2, 1) := by decide +kernel
theorem dX11_story_9 : decode cX11_story 9 = .ok (.bipush 60, 2) := by decide +kernel
theorem dX11_story_11 : decode cX11_story 11 = .ok (.invokevirtual 112, 3) := by decide +kernel
theorem dX11_story_14 : decode cX11_story 14 = .ok (.ifCond .ne 5, 3) := by decide +kernel
theorem dX11_story_17 : decode cX11_story 17 = .ok (.iconst (-1), 1) := by decide +kernel
theorem dX11_story_18 : decode cX11_story 18 = .ok (.ireturn, 1) := by decide +kernel
theorem dX11_star_0 : decode cX11_star 0 = .ok (.iload_n 1, 1) := by decide +kernel
theorem dX11_star_1 : decode cX11_star 1 = .ok (.invokestatic 154, 3) := by decide +kernel
theorem dX11_star_4 : decode cX11_star 4 = .ok (.ifCond .eq 18, 3) := by decide +kernel
theorem dX11_star_7 : decode cX11_star 7 = .ok (.iload_n 2, 1) := by decide +kernel
theorem dX11_star_8 : decode cX11_star 8 = .ok (.invokestatic 71, 3) := by decide +kernel
theorem dX11_star_11 : decode cX11_star 11 = .ok (.ifCond .eq 11, 3) := by decide +kernel
theorem dX11_star_14 : decode cX11_star 14 = .ok (.iload_n 1, 1) := by decide +kernel
theorem dX11_star_15 : decode cX11_star 15 = .ok (.iload_n 2, 1) := by decide +kernel
theorem dX11_star_16 : decode cX11_star 16 = .ok (.invokestatic 157, 3) := by decide +kernel
theorem dX11_star_19 : decode cX11_star 19 = .ok (.goto 4, 3) := by decide +kernel
theorem dX11_star_22 : decode cX11_star 22 = .ok (.iconst (-1), 1) := by decide +kernel
theorem dX11_star_23 : decode cX11_star 23 = .ok (.ireturn, 1) := by decide +kernel
theorem dX11_height_0 : decode cX11_height 0 = .ok (.aload_n 0, 1) := by decide +kernel
theorem dX11_height_1 : decode cX11_height 1 = .ok (.getfield 26, 3) := by decide +kernel
theorem dX11_height_4 : decode cX11_height 4 = .ok (.iload_n 1, 1) := by decide +kernel
theorem dX11_height_5 : decode cX11_height 5 = .ok (.invokevirtual 108, 3) := by decide +kernel
theorem dX11_height_8 : decode cX11_height 8 = .ok (.astore 4, 2) := by decide +kernel
theorem dX11_height_10 : decode cX11_height 10 = .ok (.aload 4, 2) := by decide +kernel
theorem dX11_height_12 : decode cX11_height 12 = .ok (.ifnull 17, 3) := by decide +kernel
theorem dX11_height_29 : decode cX11_height 29 = .ok (.iconst (-1), 1) := by decide +kernel
theorem dX11_height_30 : decode cX11_height 30 = .ok (.ireturn, 1) := by decide +kernel
theorem dX11_paper_0 : decode cX11_paper 0 = .ok (.iload_n 1, 1) := by decide +kernel
theorem dX11_paper_1 : decode cX11_paper 1 = .ok (.invokestatic 154, 3) := by decide +kernel
theorem dX11_paper_4 : decode cX11_paper 4 = .ok (.ifCond .eq 19, 3) := by decide +kernel
