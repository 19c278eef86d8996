theorem dX12_seed_13 : decode cX12_seed 13 = .ok (.ireturn, 1) := by decide +kernel
theorem dX12_seed_14 : decode cX12_seed 14 = .ok (.aload_n 0, 1) := by decide +kernel
theorem dX12_seed_15 : decode cX12_seed 15 = .ok (.iload_n 1, 1) := by decide +kernel
theorem dX12_seed_16 : decode cX12_seed 16 = .ok (.putfield 328, 3) := by decide +kernel
theorem dX12_seed_19 : decode cX12_seed 19 = .ok (.iconst 1, 1) := by decide +kernel
theorem dX12_seed_20 : decode cX12_seed 20 = .ok (.ireturn, 1) := by decide +kernel
theorem dX12_starAt_0 : decode cX12_starAt 0 = .ok (.iload_n 1, 1) := by decide +kernel
theorem dX12_starAt_1 : decode cX12_starAt 1 = .ok (.iconst 4, 1) := by decide +kernel
theorem dX12_starAt_2 : decode cX12_starAt 2 = .ok (.iload_n 0, 1) := by decide +kernel
theorem dX12_starAt_3 : decode cX12_starAt 3 = .ok (.imul, 1) := by decide +kernel
theorem dX12_starAt_4 : decode cX12_starAt 4 = .ok (.iadd, 1) := by decide +kernel
theorem dX12_starAt_5 : decode cX12_starAt 5 = .ok (.sipush 1440, 3) := by decide +kernel
theorem dX12_starAt_8 : decode cX12_starAt 8 = .ok (.irem, 1) := by decide +kernel
theorem dX12_starAt_9 : decode cX12_starAt 9 = .ok (.ireturn, 1) := by decide +kernel
theorem dX12_farOf_0 : decode cX12_farOf 0 = .ok (.iload_n 0, 1) := by decide +kernel
theorem dX12_farOf_1 : decode cX12_farOf 1 = .ok (.iload_n 1, 1) := by decide +kernel
theorem dX12_farOf_2 : decode cX12_farOf 2 = .ok (.if_icmp .ge 9, 3) := by decide +kernel
theorem dX12_farOf_5 : decode cX12_farOf 5 = .ok (.iload_n 1, 1) := by decide +kernel
theorem dX12_farOf_6 : decode cX12_farOf 6 = .ok (.iload_n 0, 1) := by decide +kernel
theorem dX12_farOf_7 : decode cX12_farOf 7 = .ok (.isub, 1) := by decide +kernel
theorem dX12_farOf_8 : decode cX12_farOf 8 = .ok (.goto 6, 3) := by decide +kernel
theorem dX12_farOf_11 : decode cX12_farOf 11 = .ok (.iload_n 0, 1) := by decide +kernel
theorem dX12_farOf_12 : decode cX12_farOf 12 = .ok (.iload_n 1, 1) := by decide +kernel
theorem dX12_farOf_13 : decode cX12_farOf 13 = .ok (.isub, 1) := by decide +kernel
theorem dX12_farOf_14 : decode cX12_farOf 14 = .ok (.istore_n 2, 1) := by decide +kernel
theorem dX12_farOf_15 : decode cX12_farOf 15 = .ok (.iload_n 2, 1) := by decide +kernel
theorem dX12_farOf_16 : decode cX12_farOf 16 = .ok (.sipush 1440, 3) := by decide +kernel
theorem dX12_farOf_19 : decode cX12_farOf 19 = .ok (.iload_n 2, 1) := by decide +kernel
theorem dX12_farOf_20 : decode cX12_farOf 20 = .ok (.isub, 1) := by decide +kernel
theorem dX12_farOf_21 : decode cX12_farOf 21 = .ok (.if_icmp .ge 7, 3) := by decide +kernel
theorem dX12_farOf_24 : decode cX12_farOf 24 = .ok (.iload_n 2, 1) := by decide +kernel
theorem dX12_farOf_25 : decode cX12_farOf 25 = .ok (.goto 8, 3) := by decide +kernel
theorem dX12_farOf_28 : decode cX12_farOf 28 = .ok (.sipush 1440, 3) := by decide +kernel
theorem dX12_farOf_31 : decode cX12_farOf 31 = .ok (.iload_n 2, 1) := by decide +kernel
theorem dX12_farOf_32 : decode cX12_farOf 32 = .ok (.isub, 1) := by decide +kernel
theorem dX12_farOf_33 : decode cX12_farOf 33 = .ok (.ireturn, 1) := by decide +kernel
theorem dX12_star_0 : decode cX12_star 0 = .ok (.iload_n 1, 1) := by decide +kernel
theorem dX12_star_1 : decode cX12_star 1 = .ok (.invokestatic 331, 3) := by decide +kernel
theorem dX12_star_4 : decode cX12_star 4 = .ok (.ifCond .eq 18, 3) := by decide +kernel
theorem dX12_star_7 : decode cX12_star 7 = .ok (.iload_n 2, 1) := by decide +kernel
theorem dX12_star_8 : decode cX12_star 8 = .ok (.invokestatic 319, 3) := by decide +kernel
theorem dX12_star_11 : decode cX12_star 11 = .ok (.ifCond .eq 11, 3) := by decide +kernel
theorem dX12_star_14 : decode cX12_star 14 = .ok (.iload_n 1, 1) := by decide +kernel
theorem dX12_star_15 : decode cX12_star 15 = .ok (.iload_n 2, 1) := by decide +kernel
theorem dX12_star_16 : decode cX12_star 16 = .ok (.invokestatic 334, 3) := by decide +kernel
theorem dX12_star_19 : decode cX12_star 19 = .ok (.goto 4, 3) := by decide +kernel
theorem dX12_star_22 : decode cX12_star 22 = .ok (.iconst (-1), 1) := by decide +kernel
theorem dX12_star_23 : decode cX12_star 23 = .ok (.ireturn, 1) := by decide +kernel
theorem dX12_awayOf_0 : decode cX12_awayOf 0 = .ok (.aload_n 0, 1) := by decide +kernel
theorem dX12_awayOf_1 : decode cX12_awayOf 1 = .ok (.getfield 57, 3) := by decide +kernel
theorem dX12_awayOf_4 : decode cX12_awayOf 4 = .ok (.iload_n 1, 1) := by decide +kernel
theorem dX12_awayOf_5 : decode cX12_awayOf 5 = .ok (.baload, 1) := by decide +kernel
theorem dX12_awayOf_6 : decode cX12_awayOf 6 = .ok (.ifCond .eq 11, 3) := by decide +kernel
theorem dX12_awayOf_9 : decode cX12_awayOf 9 = .ok (.iload_n 2, 1) := by decide +kernel
theorem dX12_awayOf_10 : decode cX12_awayOf 10 = .ok (.iload_n 3, 1) := by decide +kernel
theorem dX12_awayOf_11 : decode cX12_awayOf 11 = .ok (.invokestatic 334, 3) := by decide +kernel
theorem dX12_awayOf_14 : decode cX12_awayOf 14 = .ok (.goto 4, 3) := by decide +kernel
theorem dX12_awayOf_17 : decode cX12_awayOf 17 = .ok (.iload_n 3, 1) := by decide +kernel
theorem dX12_awayOf_18 : decode cX12_awayOf 18 = .ok (.aload_n 0, 1) := by decide +kernel
theorem dX12_awayOf_19 : decode cX12_awayOf 19 = .ok (.getfield 60, 3) := by decide +kernel
theorem dX12_awayOf_22 : decode cX12_awayOf 22 = .ok (.iload_n 1, 1) := by decide +kernel
theorem dX12_awayOf_23 : decode cX12_awayOf 23 = .ok (.iaload, 1) := by decide +kernel
theorem dX12_awayOf_24 : decode cX12_awayOf 24 = .ok (.invokestatic 338, 3) := by decide +kernel
theorem dX12_awayOf_27 : decode cX12_awayOf 27 = .ok (.ireturn, 1) := by decide +kernel
theorem dX12_isThere_0 : decode cX12_isThere 0 = .ok (.aload_n 0, 1) := by decide +kernel
theorem dX12_isThere_1 : decode cX12_isThere 1 = .ok (.getfield 69, 3) := by decide +kernel
theorem dX12_isThere_4 : decode cX12_isThere 4 = .ok (.iload_n 1, 1) := by decide +kernel
theorem dX12_isThere_5 : decode cX12_isThere 5 = .ok (.iaload, 1) := by decide +kernel
theorem dX12_isThere_6 : decode cX12_isThere 6 = .ok (.iload_n 2, 1) := by decide +kernel
theorem dX12_isThere_7 : decode cX12_isThere 7 = .ok (.bipush 7, 2) := by decide +kernel
theorem dX12_isThere_9 : decode cX12_isThere 9 = .ok (.irem, 1) := by decide +kernel
theorem dX12_isThere_10 : decode cX12_isThere 10 = .ok (.invokestatic 341, 3) := by decide +kernel
theorem dX12_isThere_13 : decode cX12_isThere 13 = .ok (.ifCond .eq 23, 3) := by decide +kernel
theorem dX12_isThere_16 : decode cX12_isThere 16 = .ok (.aload_n 0, 1) := by decide +kernel
theorem dX12_isThere_17 : decode cX12_isThere 17 = .ok (.iload_n 1, 1) := by decide +kernel
theorem dX12_isThere_18 : decode cX12_isThere 18 = .ok (.iload_n 2, 1) := by decide +kernel
theorem dX12_isThere_19 : decode cX12_isThere 19 = .ok (.iload_n 3, 1) := by decide +kernel
theorem dX12_isThere_20 : decode cX12_isThere 20 = .ok (.invokevirtual 344, 3) := by decide +kernel
theorem dX12_isThere_23 : decode cX12_isThere 23 = .ok (.aload_n 0, 1) := by decide +kernel
theorem dX12_isThere_24 : decode cX12_isThere 24 = .ok (.getfield 63, 3) := by decide +kernel
theorem dX12_isThere_27 : decode cX12_isThere 27 = .ok (.iload_n 1, 1) := by decide +kernel
theorem dX12_isThere_28 : decode cX12_isThere 28 = .ok (.iaload, 1) := by decide +kernel
theorem dX12_isThere_29 : decode cX12_isThere 29 = .ok (.if_icmp .gt 7, 3) := by decide +kernel
theorem dX12_isThere_32 : decode cX12_isThere 32 = .ok (.iconst 1, 1) := by decide +kernel
theorem dX12_isThere_33 : decode cX12_isThere 33 = .ok (.goto 4, 3) := by decide +kernel
theorem dX12_isThere_36 : decode cX12_isThere 36 = .ok (.iconst 0, 1) := by decide +kernel
theorem dX12_isThere_37 : decode cX12_isThere 37 = .ok (.ireturn, 1) := by decide +kernel
theorem dX12_luckOf_0 : decode cX12_luckOf 0 = .ok (.ldc2_w 347, 3) := by decide +kernel
theorem dX12_luckOf_3 : decode cX12_luckOf 3 = .ok (.aload_n 0, 1) := by decide +kernel
theorem dX12_luckOf_4 : decode cX12_luckOf 4 = .ok (.getfield 328, 3) := by decide +kernel
theorem dX12_luckOf_7 : decode cX12_luckOf 7 = .ok (.sipush 1009, 3) := by decide +kernel
theorem dX12_luckOf_10 : decode cX12_luckOf 10 = .ok (.iload_n 2, 1) := by decide +kernel
theorem dX12_luckOf_11 : decode cX12_luckOf 11 = .ok (.imul, 1) := by decide +kernel
theorem dX12_luckOf_12 : decode cX12_luckOf 12 = .ok (.iadd, 1) := by decide +kernel
theorem dX12_luckOf_13 : decode cX12_luckOf 13 = .ok (.sipush 9176, 3) := by decide +kernel
theorem dX12_luckOf_16 : decode cX12_luckOf 16 = .ok (.iload_n 3, 1) := by decide +kernel
theorem dX12_luckOf_17 : decode cX12_luckOf 17 = .ok (.imul, 1) := by decide +kernel
theorem dX12_luckOf_18 : decode cX12_luckOf 18 = .ok (.iadd, 1) := by decide +kernel
theorem dX12_luckOf_19 : decode cX12_luckOf 19 = .ok (.bipush 31, 2) := by decide +kernel
theorem dX12_luckOf_21 : decode cX12_luckOf 21 = .ok (.iload_n 1, 1) := by decide +kernel
theorem dX12_luckOf_22 : decode cX12_luckOf 22 = .ok (.imul, 1) := by decide +kernel
theorem dX12_luckOf_23 : decode cX12_luckOf 23 = .ok (.iadd, 1) := by decide +kernel
theorem dX12_luckOf_24 : decode cX12_luckOf 24 = .ok (.i2l, 1) := by decide +kernel
theorem dX12_luckOf_25 : decode cX12_luckOf 25 = .ok (.lmul, 1) := by decide +kernel
theorem dX12_luckOf_26 : decode cX12_luckOf 26 = .ok (.ldc2_w 349, 3) := by decide +kernel
theorem dX12_luckOf_29 : decode cX12_luckOf 29 = .ok (.ladd, 1) := by decide +kernel
theorem dX12_luckOf_30 : decode cX12_luckOf 30 = .ok (.ldc2_w 351, 3) := by decide +kernel
theorem dX12_luckOf_33 : decode cX12_luckOf 33 = .ok (.lrem, 1) := by decide +kernel
theorem dX12_luckOf_34 : decode cX12_luckOf 34 = .ok (.l2i, 1) := by decide +kernel
theorem dX12_luckOf_35 : decode cX12_luckOf 35 = .ok (.bipush 100, 2) := by decide +kernel
theorem dX12_luckOf_37 : decode cX12_luckOf 37 = .ok (.irem, 1) := by decide +kernel
theorem dX12_luckOf_38 : decode cX12_luckOf 38 = .ok (.ireturn, 1) := by decide +kernel
theorem dX12_heightOf_0 : decode cX12_heightOf 0 = .ok (.aload_n 0, 1) := by decide +kernel
theorem dX12_heightOf_1 : decode cX12_heightOf 1 = .ok (.iload_n 1, 1) := by decide +kernel
theorem dX12_heightOf_2 : decode cX12_heightOf 2 = .ok (.iload_n 2, 1) := by decide +kernel
theorem dX12_heightOf_3 : decode cX12_heightOf 3 = .ok (.iload_n 3, 1) := by decide +kernel
theorem dX12_heightOf_4 : decode cX12_heightOf 4 = .ok (.invokevirtual 353, 3) := by decide +kernel
theorem dX12_heightOf_7 : decode cX12_heightOf 7 = .ok (.ifCond .ne 5, 3) := by decide +kernel
theorem dX12_heightOf_10 : decode cX12_heightOf 10 = .ok (.iconst 0, 1) := by decide +kernel
theorem dX12_heightOf_11 : decode cX12_heightOf 11 = .ok (.ireturn, 1) := by decide +kernel
theorem dX12_heightOf_12 : decode cX12_heightOf 12 = .ok (.aload_n 0, 1) := by decide +kernel
theorem dX12_heightOf_13 : decode cX12_heightOf 13 = .ok (.invokevirtual 357, 3) := by decide +kernel
theorem dX12_heightOf_16 : decode cX12_heightOf 16 = .ok (.aload_n 0, 1) := by decide +kernel
theorem dX12_heightOf_17 : decode cX12_heightOf 17 = .ok (.aload_n 0, 1) := by decide +kernel
theorem dX12_heightOf_18 : decode cX12_heightOf 18 = .ok (.iload_n 1, 1) := by decide +kernel
theorem dX12_heightOf_19 : decode cX12_heightOf 19 = .ok (.iload_n 2, 1) := by decide +kernel
theorem dX12_heightOf_20 : decode cX12_heightOf 20 = .ok (.iload_n 3, 1) := by decide +kernel
theorem dX12_heightOf_21 : decode cX12_heightOf 21 = .ok (.invokevirtual 344, 3) := by decide +kernel
theorem dX12_heightOf_24 : decode cX12_heightOf 24 = .ok (.putfield 262, 3) := by decide +kernel
theorem dX12_heightOf_27 : decode cX12_heightOf 27 = .ok (.aload_n 0, 1) := by decide +kernel
theorem dX12_heightOf_28 : decode cX12_heightOf 28 = .ok (.iload_n 2, 1) := by decide +kernel
theorem dX12_heightOf_29 : decode cX12_heightOf 29 = .ok (.putfield 268, 3) := by decide +kernel
theorem dX12_heightOf_32 : decode cX12_heightOf 32 = .ok (.aload_n 0, 1) := by decide +kernel
theorem dX12_heightOf_33 : decode cX12_heightOf 33 = .ok (.iload_n 2, 1) := by decide +kernel
theorem dX12_heightOf_34 : decode cX12_heightOf 34 = .ok (.bipush 7, 2) := by decide +kernel
theorem dX12_heightOf_36 : decode cX12_heightOf 36 = .ok (.irem, 1) := by decide +kernel
theorem dX12_heightOf_37 : decode cX12_heightOf 37 = .ok (.putfield 271, 3) := by decide +kernel
theorem dX12_heightOf_40 : decode cX12_heightOf 40 = .ok (.aload_n 0, 1) := by decide +kernel
theorem dX12_heightOf_41 : decode cX12_heightOf 41 = .ok (.iload_n 3, 1) := by decide +kernel
theorem dX12_heightOf_42 : decode cX12_heightOf 42 = .ok (.putfield 283, 3) := by decide +kernel
theorem dX12_heightOf_45 : decode cX12_heightOf 45 = .ok (.aload_n 0, 1) := by decide +kernel
theorem dX12_heightOf_46 : decode cX12_heightOf 46 = .ok (.iload_n 2, 1) := by decide +kernel
theorem dX12_heightOf_47 : decode cX12_heightOf 47 = .ok (.iload_n 3, 1) := by decide +kernel
theorem dX12_heightOf_48 : decode cX12_heightOf 48 = .ok (.invokestatic 334, 3) := by decide +kernel
theorem dX12_heightOf_51 : decode cX12_heightOf 51 = .ok (.putfield 289, 3) := by decide +kernel
theorem dX12_heightOf_54 : decode cX12_heightOf 54 = .ok (.aload_n 0, 1) := by decide +kernel
theorem dX12_heightOf_55 : decode cX12_heightOf 55 = .ok (.aload_n 0, 1) := by decide +kernel
theorem dX12_heightOf_56 : decode cX12_heightOf 56 = .ok (.getfield 289, 3) := by decide +kernel
theorem dX12_heightOf_59 : decode cX12_heightOf 59 = .ok (.sipush 720, 3) := by decide +kernel
theorem dX12_heightOf_62 : decode cX12_heightOf 62 = .ok (.iconst 4, 1) := by decide +kernel
theorem dX12_heightOf_63 : decode cX12_heightOf 63 = .ok (.iload_n 2, 1) := by decide +kernel
theorem dX12_heightOf_64 : decode cX12_heightOf 64 = .ok (.imul, 1) := by decide +kernel
theorem dX12_heightOf_65 : decode cX12_heightOf 65 = .ok (.iadd, 1) := by decide +kernel
theorem dX12_heightOf_66 : decode cX12_heightOf 66 = .ok (.sipush 1440, 3) := by decide +kernel
theorem dX12_heightOf_69 : decode cX12_heightOf 69 = .ok (.irem, 1) := by decide +kernel
theorem dX12_heightOf_70 : decode cX12_heightOf 70 = .ok (.invokestatic 338, 3) := by decide +kernel
theorem dX12_heightOf_73 : decode cX12_heightOf 73 = .ok (.putfield 295, 3) := by decide +kernel
theorem dX12_heightOf_76 : decode cX12_heightOf 76 = .ok (.aload_n 0, 1) := by decide +kernel
theorem dX12_heightOf_77 : decode cX12_heightOf 77 = .ok (.aload_n 0, 1) := by decide +kernel
theorem dX12_heightOf_78 : decode cX12_heightOf 78 = .ok (.iload_n 1, 1) := by decide +kernel
theorem dX12_heightOf_79 : decode cX12_heightOf 79 = .ok (.iload_n 2, 1) := by decide +kernel
theorem dX12_heightOf_80 : decode cX12_heightOf 80 = .ok (.iload_n 3, 1) := by decide +kernel
theorem dX12_heightOf_81 : decode cX12_heightOf 81 = .ok (.invokevirtual 360, 3) := by decide +kernel
theorem dX12_heightOf_84 : decode cX12_heightOf 84 = .ok (.putfield 298, 3) := by decide +kernel
theorem dX12_heightOf_87 : decode cX12_heightOf 87 = .ok (.bipush 12, 2) := by decide +kernel
theorem dX12_heightOf_89 : decode cX12_heightOf 89 = .ok (.iconst 0, 1) := by decide +kernel
theorem dX12_heightOf_90 : decode cX12_heightOf 90 = .ok (.iload_n 1, 1) := by decide +kernel
theorem dX12_heightOf_91 : decode cX12_heightOf 91 = .ok (.iadd, 1) := by decide +kernel
theorem dX12_heightOf_92 : decode cX12_heightOf 92 = .ok (.imul, 1) := by decide +kernel
theorem dX12_heightOf_93 : decode cX12_heightOf 93 = .ok (.istore 4, 2) := by decide +kernel
theorem dX12_heightOf_95 : decode cX12_heightOf 95 = .ok (.iload 4, 2) := by decide +kernel
theorem dX12_heightOf_97 : decode cX12_heightOf 97 = .ok (.bipush 12, 2) := by decide +kernel
theorem dX12_heightOf_99 : decode cX12_heightOf 99 = .ok (.iconst 0, 1) := by decide +kernel
theorem dX12_heightOf_100 : decode cX12_heightOf 100 = .ok (.iload_n 1, 1) := by decide +kernel
theorem dX12_heightOf_101 : decode cX12_heightOf 101 = .ok (.iadd, 1) := by decide +kernel
theorem dX12_heightOf_102 : decode cX12_heightOf 102 = .ok (.imul, 1) := by decide +kernel
theorem dX12_heightOf_103 : decode cX12_heightOf 103 = .ok (.aload_n 0, 1) := by decide +kernel
theorem dX12_heightOf_104 : decode cX12_heightOf 104 = .ok (.getfield 13, 3) := by decide +kernel
theorem dX12_heightOf_107 : decode cX12_heightOf 107 = .ok (.iconst 0, 1) := by decide +kernel
theorem dX12_heightOf_108 : decode cX12_heightOf 108 = .ok (.iload_n 1, 1) := by decide +kernel
theorem dX12_heightOf_109 : decode cX12_heightOf 109 = .ok (.iadd, 1) := by decide +kernel
theorem dX12_heightOf_110 : decode cX12_heightOf 110 = .ok (.iaload, 1) := by decide +kernel
theorem dX12_heightOf_111 : decode cX12_heightOf 111 = .ok (.iadd, 1) := by decide +kernel
theorem dX12_heightOf_112 : decode cX12_heightOf 112 = .ok (.if_icmp .ge 55, 3) := by decide +kernel
theorem dX12_heightOf_115 : decode cX12_heightOf 115 = .ok (.aload_n 0, 1) := by decide +kernel
theorem dX12_heightOf_116 : decode cX12_heightOf 116 = .ok (.iload 4, 2) := by decide +kernel
theorem dX12_heightOf_118 : decode cX12_heightOf 118 = .ok (.invokevirtual 363, 3) := by decide +kernel
theorem dX12_heightOf_121 : decode cX12_heightOf 121 = .ok (.ifCond .ne 6, 3) := by decide +kernel
theorem dX12_heightOf_124 : decode cX12_heightOf 124 = .ok (.goto 37, 3) := by decide +kernel
theorem dX12_heightOf_127 : decode cX12_heightOf 127 = .ok (.aload_n 0, 1) := by decide +kernel
theorem dX12_heightOf_128 : decode cX12_heightOf 128 = .ok (.iload 4, 2) := by decide +kernel
theorem dX12_heightOf_130 : decode cX12_heightOf 130 = .ok (.invokevirtual 366, 3) := by decide +kernel
theorem dX12_heightOf_133 : decode cX12_heightOf 133 = .ok (.istore 5, 2) := by decide +kernel
theorem dX12_heightOf_135 : decode cX12_heightOf 135 = .ok (.iload 5, 2) := by decide +kernel
theorem dX12_heightOf_137 : decode cX12_heightOf 137 = .ok (.ifCond .ge 7, 3) := by decide +kernel
theorem dX12_heightOf_140 : decode cX12_heightOf 140 = .ok (.iconst 0, 1) := by decide +kernel
theorem dX12_heightOf_141 : decode cX12_heightOf 141 = .ok (.goto 19, 3) := by decide +kernel
theorem dX12_heightOf_144 : decode cX12_heightOf 144 = .ok (.iload 5, 2) := by decide +kernel
theorem dX12_heightOf_146 : decode cX12_heightOf 146 = .ok (.sipush 1000, 3) := by decide +kernel
theorem dX12_heightOf_149 : decode cX12_heightOf 149 = .ok (.if_icmp .le 9, 3) := by decide +kernel
theorem dX12_heightOf_152 : decode cX12_heightOf 152 = .ok (.sipush 1000, 3) := by decide +kernel
theorem dX12_heightOf_155 : decode cX12_heightOf 155 = .ok (.goto 5, 3) := by decide +kernel
theorem dX12_heightOf_158 : decode cX12_heightOf 158 = .ok (.iload 5, 2) := by decide +kernel
theorem dX12_heightOf_160 : decode cX12_heightOf 160 = .ok (.ireturn, 1) := by decide +kernel
theorem dX12_heightOf_161 : decode cX12_heightOf 161 = .ok (.iinc 4 1, 3) := by decide +kernel
theorem dX12_heightOf_164 : decode cX12_heightOf 164 = .ok (.goto (-69), 3) := by decide +kernel
theorem dX12_heightOf_167 : decode cX12_heightOf 167 = .ok (.iconst 0, 1) := by decide +kernel
theorem dX12_heightOf_168 : decode cX12_heightOf 168 = .ok (.ireturn, 1) := by decide +kernel
theorem dX12_height_0 : decode cX12_height 0 = .ok (.aload_n 0, 1) := by decide +kernel
theorem dX12_height_1 : decode cX12_height 1 = .ok (.iload_n 1, 1) := by decide +kernel
theorem dX12_height_2 : decode cX12_height 2 = .ok (.invokevirtual 243, 3) := by decide +kernel
theorem dX12_height_5 : decode cX12_height 5 = .ok (.ifCond .eq 27, 3) := by decide +kernel
theorem dX12_height_8 : decode cX12_height 8 = .ok (.iload_n 2, 1) := by decide +kernel
theorem dX12_height_9 : decode cX12_height 9 = .ok (.invokestatic 331, 3) := by decide +kernel
theorem dX12_height_12 : decode cX12_height 12 = .ok (.ifCond .eq 20, 3) := by decide +kernel
theorem dX12_height_15 : decode cX12_height 15 = .ok (.iload_n 3, 1) := by decide +kernel
theorem dX12_height_16 : decode cX12_height 16 = .ok (.invokestatic 319, 3) := by decide +kernel
theorem dX12_height_19 : decode cX12_height 19 = .ok (.ifCond .eq 13, 3) := by decide +kernel
theorem dX12_height_22 : decode cX12_height 22 = .ok (.aload_n 0, 1) := by decide +kernel
theorem dX12_height_23 : decode cX12_height 23 = .ok (.iload_n 1, 1) := by decide +kernel
theorem dX12_height_24 : decode cX12_height 24 = .ok (.iload_n 2, 1) := by decide +kernel
theorem dX12_height_25 : decode cX12_height 25 = .ok (.iload_n 3, 1) := by decide +kernel
theorem dX12_height_26 : decode cX12_height 26 = .ok (.invokevirtual 369, 3) := by decide +kernel
theorem dX12_height_29 : decode cX12_height 29 = .ok (.goto 4, 3) := by decide +kernel
theorem dX12_height_32 : decode cX12_height 32 = .ok (.iconst (-1), 1) := by decide +kernel
theorem dX12_height_33 : decode cX12_height 33 = .ok (.ireturn, 1) := by decide +kernel
theorem dX12_looks_0 : decode cX12_looks 0 = .ok (.aload_n 0, 1) := by decide +kernel
theorem dX12_looks_1 : decode cX12_looks 1 = .ok (.iconst 0, 1) := by decide +kernel
theorem dX12_looks_2 : decode cX12_looks 2 = .ok (.putfield 372, 3) := by decide +kernel
theorem dX12_looks_5 : decode cX12_looks 5 = .ok (.aload_n 0, 1) := by decide +kernel
theorem dX12_looks_6 : decode cX12_looks 6 = .ok (.iconst 4, 1) := by decide +kernel
theorem dX12_looks_7 : decode cX12_looks 7 = .ok (.putfield 375, 3) := by decide +kernel
theorem dX12_looks_10 : decode cX12_looks 10 = .ok (.iconst 0, 1) := by decide +kernel
theorem dX12_looks_11 : decode cX12_looks 11 = .ok (.istore_n 3, 1) := by decide +kernel
theorem dX12_looks_12 : decode cX12_looks 12 = .ok (.iconst 0, 1) := by decide +kernel
theorem dX12_looks_13 : decode cX12_looks 13 = .ok (.istore 4, 2) := by decide +kernel
theorem dX12_looks_15 : decode cX12_looks 15 = .ok (.iload 4, 2) := by decide +kernel
theorem dX12_looks_17 : decode cX12_looks 17 = .ok (.aload_n 0, 1) := by decide +kernel
theorem dX12_looks_18 : decode cX12_looks 18 = .ok (.getfield 238, 3) := by decide +kernel
theorem dX12_looks_21 : decode cX12_looks 21 = .ok (.if_icmp .ge 53, 3) := by decide +kernel
theorem dX12_looks_24 : decode cX12_looks 24 = .ok (.aload_n 0, 1) := by decide +kernel
theorem dX12_looks_25 : decode cX12_looks 25 = .ok (.iload 4, 2) := by decide +kernel
theorem dX12_looks_27 : decode cX12_looks 27 = .ok (.iload_n 1, 1) := by decide +kernel
theorem dX12_looks_28 : decode cX12_looks 28 = .ok (.iload_n 2, 1) := by decide +kernel
theorem dX12_looks_29 : decode cX12_looks 29 = .ok (.invokevirtual 369, 3) := by decide +kernel
theorem dX12_looks_32 : decode cX12_looks 32 = .ok (.istore 5, 2) := by decide +kernel
theorem dX12_looks_34 : decode cX12_looks 34 = .ok (.aload_n 0, 1) := by decide +kernel
theorem dX12_looks_35 : decode cX12_looks 35 = .ok (.dup, 1) := by decide +kernel
theorem dX12_looks_36 : decode cX12_looks 36 = .ok (.getfield 372, 3) := by decide +kernel
theorem dX12_looks_39 : decode cX12_looks 39 = .ok (.iload 5, 2) := by decide +kernel
theorem dX12_looks_41 : decode cX12_looks 41 = .ok (.iadd, 1) := by decide +kernel
theorem dX12_looks_42 : decode cX12_looks 42 = .ok (.putfield 372, 3) := by decide +kernel
theorem dX12_looks_45 : decode cX12_looks 45 = .ok (.iload 5, 2) := by decide +kernel
theorem dX12_looks_47 : decode cX12_looks 47 = .ok (.iload_n 3, 1) := by decide +kernel
theorem dX12_looks_48 : decode cX12_looks 48 = .ok (.if_icmp .gt 6, 3) := by decide +kernel
theorem dX12_looks_51 : decode cX12_looks 51 = .ok (.goto 17, 3) := by decide +kernel
theorem dX12_looks_54 : decode cX12_looks 54 = .ok (.iload 5, 2) := by decide +kernel
theorem dX12_looks_56 : decode cX12_looks 56 = .ok (.istore_n 3, 1) := by decide +kernel
theorem dX12_looks_57 : decode cX12_looks 57 = .ok (.aload_n 0, 1) := by decide +kernel
theorem dX12_looks_58 : decode cX12_looks 58 = .ok (.aload_n 0, 1) := by decide +kernel
theorem dX12_looks_59 : decode cX12_looks 59 = .ok (.getfield 66, 3) := by decide +kernel
theorem dX12_looks_62 : decode cX12_looks 62 = .ok (.iload 4, 2) := by decide +kernel
theorem dX12_looks_64 : decode cX12_looks 64 = .ok (.iaload, 1) := by decide +kernel
theorem dX12_looks_65 : decode cX12_looks 65 = .ok (.putfield 375, 3) := by decide +kernel
theorem dX12_looks_68 : decode cX12_looks 68 = .ok (.iinc 4 1, 3) := by decide +kernel
theorem dX12_looks_71 : decode cX12_looks 71 = .ok (.goto (-56), 3) := by decide +kernel
theorem dX12_looks_74 : decode cX12_looks 74 = .ok (.return_, 1) := by decide +kernel
theorem dX12_paper_0 : decode cX12_paper 0 = .ok (.iload_n 1, 1) := by decide +kernel
theorem dX12_paper_1 : decode cX12_paper 1 = .ok (.invokestatic 331, 3) := by decide +kernel
theorem dX12_paper_4 : decode cX12_paper 4 = .ok (.ifCond .eq 20, 3) := by decide +kernel
theorem dX12_paper_7 : decode cX12_paper 7 = .ok (.iload_n 2, 1) := by decide +kernel
theorem dX12_paper_8 : decode cX12_paper 8 = .ok (.invokestatic 319, 3) := by decide +kernel
theorem dX12_paper_11 : decode cX12_paper 11 = .ok (.ifCond .eq 13, 3) := by decide +kernel
theorem dX12_paper_14 : decode cX12_paper 14 = .ok (.iload_n 3, 1) := by decide +kernel
theorem dX12_paper_15 : decode cX12_paper 15 = .ok (.i2l, 1) := by decide +kernel
theorem dX12_paper_16 : decode cX12_paper 16 = .ok (.lconst 0, 1) := by decide +kernel
theorem dX12_paper_17 : decode cX12_paper 17 = .ok (.lconst 1, 1) := by decide +kernel
theorem dX12_paper_18 : decode cX12_paper 18 = .ok (.invokestatic 159, 3) := by decide +kernel
theorem dX12_paper_21 : decode cX12_paper 21 = .ok (.ifCond .ne 5, 3) := by decide +kernel
theorem dX12_paper_24 : decode cX12_paper 24 = .ok (.iconst (-1), 1) := by decide +kernel
theorem dX12_paper_25 : decode cX12_paper 25 = .ok (.ireturn, 1) := by decide +kernel
theorem dX12_paper_26 : decode cX12_paper 26 = .ok (.aload_n 0, 1) := by decide +kernel
theorem dX12_paper_27 : decode cX12_paper 27 = .ok (.iload_n 1, 1) := by decide +kernel
theorem dX12_paper_28 : decode cX12_paper 28 = .ok (.iload_n 2, 1) := by decide +kernel
theorem dX12_paper_29 : decode cX12_paper 29 = .ok (.invokevirtual 378, 3) := by decide +kernel
theorem dX12_paper_32 : decode cX12_paper 32 = .ok (.iload_n 3, 1) := by decide +kernel
theorem dX12_paper_33 : decode cX12_paper 33 = .ok (.ifCond .ne 10, 3) := by decide +kernel
theorem dX12_paper_36 : decode cX12_paper 36 = .ok (.aload_n 0, 1) := by decide +kernel
theorem dX12_paper_37 : decode cX12_paper 37 = .ok (.getfield 372, 3) := by decide +kernel
theorem dX12_paper_40 : decode cX12_paper 40 = .ok (.goto 7, 3) := by decide +kernel
theorem dX12_paper_43 : decode cX12_paper 43 = .ok (.aload_n 0, 1) := by decide +kernel
theorem dX12_paper_44 : decode cX12_paper 44 = .ok (.getfield 375, 3) := by decide +kernel
theorem dX12_paper_47 : decode cX12_paper 47 = .ok (.ireturn, 1) := by decide +kernel
theorem dX12_lays_0 : decode cX12_lays 0 = .ok (.iconst 0, 1) := by decide +kernel
theorem dX12_lays_1 : decode cX12_lays 1 = .ok (.istore_n 2, 1) := by decide +kernel
theorem dX12_lays_2 : decode cX12_lays 2 = .ok (.iload_n 2, 1) := by decide +kernel
theorem dX12_lays_3 : decode cX12_lays 3 = .ok (.sipush 1440, 3) := by decide +kernel
theorem dX12_lays_6 : decode cX12_lays 6 = .ok (.if_icmp .ge 35, 3) := by decide +kernel
theorem dX12_lays_9 : decode cX12_lays 9 = .ok (.aload_n 0, 1) := by decide +kernel
theorem dX12_lays_10 : decode cX12_lays 10 = .ok (.iload_n 1, 1) := by decide +kernel
theorem dX12_lays_11 : decode cX12_lays 11 = .ok (.iload_n 2, 1) := by decide +kernel
theorem dX12_lays_12 : decode cX12_lays 12 = .ok (.invokevirtual 378, 3) := by decide +kernel
theorem dX12_lays_15 : decode cX12_lays 15 = .ok (.aload_n 0, 1) := by decide +kernel
theorem dX12_lays_16 : decode cX12_lays 16 = .ok (.getfield 72, 3) := by decide +kernel
theorem dX12_lays_19 : decode cX12_lays 19 = .ok (.iload_n 2, 1) := by decide +kernel
theorem dX12_lays_20 : decode cX12_lays 20 = .ok (.aload_n 0, 1) := by decide +kernel
theorem dX12_lays_21 : decode cX12_lays 21 = .ok (.getfield 372, 3) := by decide +kernel
theorem dX12_lays_24 : decode cX12_lays 24 = .ok (.iastore, 1) := by decide +kernel
theorem dX12_lays_25 : decode cX12_lays 25 = .ok (.aload_n 0, 1) := by decide +kernel
theorem dX12_lays_26 : decode cX12_lays 26 = .ok (.getfield 75, 3) := by decide +kernel
theorem dX12_lays_29 : decode cX12_lays 29 = .ok (.iload_n 2, 1) := by decide +kernel
theorem dX12_lays_30 : decode cX12_lays 30 = .ok (.aload_n 0, 1) := by decide +kernel
theorem dX12_lays_31 : decode cX12_lays 31 = .ok (.getfield 375, 3) := by decide +kernel
theorem dX12_lays_34 : decode cX12_lays 34 = .ok (.iastore, 1) := by decide +kernel
theorem dX12_lays_35 : decode cX12_lays 35 = .ok (.iinc 2 1, 3) := by decide +kernel
theorem dX12_lays_38 : decode cX12_lays 38 = .ok (.goto (-36), 3) := by decide +kernel
theorem dX12_lays_41 : decode cX12_lays 41 = .ok (.return_, 1) := by decide +kernel
theorem dX12_isMarked_0 : decode cX12_isMarked 0 = .ok (.aload_n 0, 1) := by decide +kernel
theorem dX12_isMarked_1 : decode cX12_isMarked 1 = .ok (.invokevirtual 357, 3) := by decide +kernel
theorem dX12_isMarked_4 : decode cX12_isMarked 4 = .ok (.aload_n 0, 1) := by decide +kernel
theorem dX12_isMarked_5 : decode cX12_isMarked 5 = .ok (.aload_n 0, 1) := by decide +kernel
theorem dX12_isMarked_6 : decode cX12_isMarked 6 = .ok (.getfield 72, 3) := by decide +kernel
theorem dX12_isMarked_9 : decode cX12_isMarked 9 = .ok (.iload_n 3, 1) := by decide +kernel
theorem dX12_isMarked_10 : decode cX12_isMarked 10 = .ok (.iaload, 1) := by decide +kernel
theorem dX12_isMarked_11 : decode cX12_isMarked 11 = .ok (.putfield 277, 3) := by decide +kernel
theorem dX12_isMarked_14 : decode cX12_isMarked 14 = .ok (.aload_n 0, 1) := by decide +kernel
theorem dX12_isMarked_15 : decode cX12_isMarked 15 = .ok (.iload_n 3, 1) := by decide +kernel
theorem dX12_isMarked_16 : decode cX12_isMarked 16 = .ok (.ifCond .ne 7, 3) := by decide +kernel
theorem dX12_isMarked_19 : decode cX12_isMarked 19 = .ok (.iconst 0, 1) := by decide +kernel
theorem dX12_isMarked_20 : decode cX12_isMarked 20 = .ok (.goto 11, 3) := by decide +kernel
theorem dX12_isMarked_23 : decode cX12_isMarked 23 = .ok (.aload_n 0, 1) := by decide +kernel
theorem dX12_isMarked_24 : decode cX12_isMarked 24 = .ok (.getfield 72, 3) := by decide +kernel
theorem dX12_isMarked_27 : decode cX12_isMarked 27 = .ok (.iload_n 3, 1) := by decide +kernel
theorem dX12_isMarked_28 : decode cX12_isMarked 28 = .ok (.iconst 1, 1) := by decide +kernel
theorem dX12_isMarked_29 : decode cX12_isMarked 29 = .ok (.isub, 1) := by decide +kernel
theorem dX12_isMarked_30 : decode cX12_isMarked 30 = .ok (.iaload, 1) := by decide +kernel
theorem dX12_isMarked_31 : decode cX12_isMarked 31 = .ok (.putfield 265, 3) := by decide +kernel
theorem dX12_isMarked_34 : decode cX12_isMarked 34 = .ok (.iload_n 3, 1) := by decide +kernel
theorem dX12_isMarked_35 : decode cX12_isMarked 35 = .ok (.bipush 10, 2) := by decide +kernel
theorem dX12_isMarked_37 : decode cX12_isMarked 37 = .ok (.if_icmp .ge 7, 3) := by decide +kernel
theorem dX12_isMarked_40 : decode cX12_isMarked 40 = .ok (.iconst 0, 1) := by decide +kernel
theorem dX12_isMarked_41 : decode cX12_isMarked 41 = .ok (.goto 7, 3) := by decide +kernel
theorem dX12_isMarked_44 : decode cX12_isMarked 44 = .ok (.iload_n 3, 1) := by decide +kernel
theorem dX12_isMarked_45 : decode cX12_isMarked 45 = .ok (.bipush 10, 2) := by decide +kernel
theorem dX12_isMarked_47 : decode cX12_isMarked 47 = .ok (.isub, 1) := by decide +kernel
theorem dX12_isMarked_48 : decode cX12_isMarked 48 = .ok (.istore 5, 2) := by decide +kernel
theorem dX12_isMarked_50 : decode cX12_isMarked 50 = .ok (.iload 5, 2) := by decide +kernel
theorem dX12_isMarked_52 : decode cX12_isMarked 52 = .ok (.iload_n 3, 1) := by decide +kernel
theorem dX12_isMarked_53 : decode cX12_isMarked 53 = .ok (.if_icmp .ge 41, 3) := by decide +kernel
theorem dX12_isMarked_56 : decode cX12_isMarked 56 = .ok (.aload_n 0, 1) := by decide +kernel
theorem dX12_isMarked_57 : decode cX12_isMarked 57 = .ok (.aload_n 0, 1) := by decide +kernel
theorem dX12_isMarked_58 : decode cX12_isMarked 58 = .ok (.getfield 72, 3) := by decide +kernel
theorem dX12_isMarked_61 : decode cX12_isMarked 61 = .ok (.iload 5, 2) := by decide +kernel
theorem dX12_isMarked_63 : decode cX12_isMarked 63 = .ok (.iaload, 1) := by decide +kernel
theorem dX12_isMarked_64 : decode cX12_isMarked 64 = .ok (.aload_n 0, 1) := by decide +kernel
theorem dX12_isMarked_65 : decode cX12_isMarked 65 = .ok (.getfield 274, 3) := by decide +kernel
theorem dX12_isMarked_68 : decode cX12_isMarked 68 = .ok (.if_icmp .le 13, 3) := by decide +kernel
theorem dX12_isMarked_71 : decode cX12_isMarked 71 = .ok (.aload_n 0, 1) := by decide +kernel
theorem dX12_isMarked_72 : decode cX12_isMarked 72 = .ok (.getfield 72, 3) := by decide +kernel
theorem dX12_isMarked_75 : decode cX12_isMarked 75 = .ok (.iload 5, 2) := by decide +kernel
theorem dX12_isMarked_77 : decode cX12_isMarked 77 = .ok (.iaload, 1) := by decide +kernel
theorem dX12_isMarked_78 : decode cX12_isMarked 78 = .ok (.goto 7, 3) := by decide +kernel
theorem dX12_isMarked_81 : decode cX12_isMarked 81 = .ok (.aload_n 0, 1) := by decide +kernel
theorem dX12_isMarked_82 : decode cX12_isMarked 82 = .ok (.getfield 274, 3) := by decide +kernel
theorem dX12_isMarked_85 : decode cX12_isMarked 85 = .ok (.putfield 274, 3) := by decide +kernel
theorem dX12_isMarked_88 : decode cX12_isMarked 88 = .ok (.iinc 5 1, 3) := by decide +kernel
theorem dX12_isMarked_91 : decode cX12_isMarked 91 = .ok (.goto (-41), 3) := by decide +kernel
theorem dX12_isMarked_94 : decode cX12_isMarked 94 = .ok (.aload_n 0, 1) := by decide +kernel
theorem dX12_isMarked_95 : decode cX12_isMarked 95 = .ok (.aload_n 0, 1) := by decide +kernel
theorem dX12_isMarked_96 : decode cX12_isMarked 96 = .ok (.getfield 75, 3) := by decide +kernel
theorem dX12_isMarked_99 : decode cX12_isMarked 99 = .ok (.iload_n 3, 1) := by decide +kernel
theorem dX12_isMarked_100 : decode cX12_isMarked 100 = .ok (.iaload, 1) := by decide +kernel
theorem dX12_isMarked_101 : decode cX12_isMarked 101 = .ok (.putfield 280, 3) := by decide +kernel
theorem dX12_isMarked_104 : decode cX12_isMarked 104 = .ok (.aload_n 0, 1) := by decide +kernel
theorem dX12_isMarked_105 : decode cX12_isMarked 105 = .ok (.iload_n 3, 1) := by decide +kernel
theorem dX12_isMarked_106 : decode cX12_isMarked 106 = .ok (.putfield 283, 3) := by decide +kernel
theorem dX12_isMarked_109 : decode cX12_isMarked 109 = .ok (.aload_n 0, 1) := by decide +kernel
theorem dX12_isMarked_110 : decode cX12_isMarked 110 = .ok (.iload_n 2, 1) := by decide +kernel
theorem dX12_isMarked_111 : decode cX12_isMarked 111 = .ok (.iload_n 3, 1) := by decide +kernel
theorem dX12_isMarked_112 : decode cX12_isMarked 112 = .ok (.invokestatic 334, 3) := by decide +kernel
theorem dX12_isMarked_115 : decode cX12_isMarked 115 = .ok (.putfield 289, 3) := by decide +kernel
theorem dX12_isMarked_118 : decode cX12_isMarked 118 = .ok (.aload_n 0, 1) := by decide +kernel
theorem dX12_isMarked_119 : decode cX12_isMarked 119 = .ok (.iload_n 2, 1) := by decide +kernel
theorem dX12_isMarked_120 : decode cX12_isMarked 120 = .ok (.putfield 268, 3) := by decide +kernel
theorem dX12_isMarked_123 : decode cX12_isMarked 123 = .ok (.aload_n 0, 1) := by decide +kernel
theorem dX12_isMarked_124 : decode cX12_isMarked 124 = .ok (.iload_n 2, 1) := by decide +kernel
theorem dX12_isMarked_125 : decode cX12_isMarked 125 = .ok (.bipush 7, 2) := by decide +kernel
theorem dX12_isMarked_127 : decode cX12_isMarked 127 = .ok (.irem, 1) := by decide +kernel
theorem dX12_isMarked_128 : decode cX12_isMarked 128 = .ok (.putfield 271, 3) := by decide +kernel
theorem dX12_isMarked_131 : decode cX12_isMarked 131 = .ok (.aload_n 0, 1) := by decide +kernel
theorem dX12_isMarked_132 : decode cX12_isMarked 132 = .ok (.iload 4, 2) := by decide +kernel
theorem dX12_isMarked_134 : decode cX12_isMarked 134 = .ok (.putfield 292, 3) := by decide +kernel
theorem dX12_isMarked_137 : decode cX12_isMarked 137 = .ok (.bipush 12, 2) := by decide +kernel
theorem dX12_isMarked_139 : decode cX12_isMarked 139 = .ok (.bipush 10, 2) := by decide +kernel
theorem dX12_isMarked_141 : decode cX12_isMarked 141 = .ok (.iload_n 1, 1) := by decide +kernel
theorem dX12_isMarked_142 : decode cX12_isMarked 142 = .ok (.iadd, 1) := by decide +kernel
theorem dX12_isMarked_143 : decode cX12_isMarked 143 = .ok (.imul, 1) := by decide +kernel
theorem dX12_isMarked_144 : decode cX12_isMarked 144 = .ok (.istore 5, 2) := by decide +kernel
theorem dX12_isMarked_146 : decode cX12_isMarked 146 = .ok (.iload 5, 2) := by decide +kernel
theorem dX12_isMarked_148 : decode cX12_isMarked 148 = .ok (.bipush 12, 2) := by decide +kernel
theorem dX12_isMarked_150 : decode cX12_isMarked 150 = .ok (.bipush 10, 2) := by decide +kernel
theorem dX12_isMarked_152 : decode cX12_isMarked 152 = .ok (.iload_n 1, 1) := by decide +kernel
theorem dX12_isMarked_153 : decode cX12_isMarked 153 = .ok (.iadd, 1) := by decide +kernel
theorem dX12_isMarked_154 : decode cX12_isMarked 154 = .ok (.imul, 1) := by decide +kernel
theorem dX12_isMarked_155 : decode cX12_isMarked 155 = .ok (.aload_n 0, 1) := by decide +kernel
theorem dX12_isMarked_156 : decode cX12_isMarked 156 = .ok (.getfield 13, 3) := by decide +kernel
theorem dX12_isMarked_159 : decode cX12_isMarked 159 = .ok (.bipush 10, 2) := by decide +kernel
theorem dX12_isMarked_161 : decode cX12_isMarked 161 = .ok (.iload_n 1, 1) := by decide +kernel
theorem dX12_isMarked_162 : decode cX12_isMarked 162 = .ok (.iadd, 1) := by decide +kernel
theorem dX12_isMarked_163 : decode cX12_isMarked 163 = .ok (.iaload, 1) := by decide +kernel
theorem dX12_isMarked_164 : decode cX12_isMarked 164 = .ok (.iadd, 1) := by decide +kernel
theorem dX12_isMarked_165 : decode cX12_isMarked 165 = .ok (.if_icmp .ge 20, 3) := by decide +kernel
theorem dX12_isMarked_168 : decode cX12_isMarked 168 = .ok (.aload_n 0, 1) := by decide +kernel
theorem dX12_isMarked_169 : decode cX12_isMarked 169 = .ok (.iload 5, 2) := by decide +kernel
theorem dX12_isMarked_171 : decode cX12_isMarked 171 = .ok (.invokevirtual 363, 3) := by decide +kernel
theorem dX12_isMarked_174 : decode cX12_isMarked 174 = .ok (.ifCond .eq 5, 3) := by decide +kernel
theorem dX12_isMarked_177 : decode cX12_isMarked 177 = .ok (.iconst 1, 1) := by decide +kernel
theorem dX12_isMarked_178 : decode cX12_isMarked 178 = .ok (.ireturn, 1) := by decide +kernel
theorem dX12_isMarked_179 : decode cX12_isMarked 179 = .ok (.iinc 5 1, 3) := by decide +kernel
theorem dX12_isMarked_182 : decode cX12_isMarked 182 = .ok (.goto (-36), 3) := by decide +kernel
theorem dX12_isMarked_185 : decode cX12_isMarked 185 = .ok (.iconst 0, 1) := by decide +kernel
theorem dX12_isMarked_186 : decode cX12_isMarked 186 = .ok (.ireturn, 1) := by decide +kernel
theorem dX12_goesOver_0 : decode cX12_goesOver 0 = .ok (.iconst 0, 1) := by decide +kernel
theorem dX12_goesOver_1 : decode cX12_goesOver 1 = .ok (.istore 4, 2) := by decide +kernel
theorem dX12_goesOver_3 : decode cX12_goesOver 3 = .ok (.iconst 0, 1) := by decide +kernel
theorem dX12_goesOver_4 : decode cX12_goesOver 4 = .ok (.istore 5, 2) := by decide +kernel
theorem dX12_goesOver_6 : decode cX12_goesOver 6 = .ok (.iconst 0, 1) := by decide +kernel
theorem dX12_goesOver_7 : decode cX12_goesOver 7 = .ok (.istore 6, 2) := by decide +kernel
theorem dX12_goesOver_9 : decode cX12_goesOver 9 = .ok (.iload 6, 2) := by decide +kernel
theorem dX12_goesOver_11 : decode cX12_goesOver 11 = .ok (.sipush 1440, 3) := by decide +kernel
theorem dX12_goesOver_14 : decode cX12_goesOver 14 = .ok (.if_icmp .ge 146, 3) := by decide +kernel
theorem dX12_goesOver_17 : decode cX12_goesOver 17 = .ok (.aload_n 0, 1) := by decide +kernel
theorem dX12_goesOver_18 : decode cX12_goesOver 18 = .ok (.iload_n 1, 1) := by decide +kernel
theorem dX12_goesOver_19 : decode cX12_goesOver 19 = .ok (.iload_n 2, 1) := by decide +kernel
theorem dX12_goesOver_20 : decode cX12_goesOver 20 = .ok (.iload 6, 2) := by decide +kernel
theorem dX12_goesOver_22 : decode cX12_goesOver 22 = .ok (.iload 5, 2) := by decide +kernel
theorem dX12_goesOver_24 : decode cX12_goesOver 24 = .ok (.ifCond .eq 10, 3) := by decide +kernel
theorem dX12_goesOver_27 : decode cX12_goesOver 27 = .ok (.iload 4, 2) := by decide +kernel
theorem dX12_goesOver_29 : decode cX12_goesOver 29 = .ok (.iconst 1, 1) := by decide +kernel
theorem dX12_goesOver_30 : decode cX12_goesOver 30 = .ok (.isub, 1) := by decide +kernel
theorem dX12_goesOver_31 : decode cX12_goesOver 31 = .ok (.goto 5, 3) := by decide +kernel
theorem dX12_goesOver_34 : decode cX12_goesOver 34 = .ok (.iload 4, 2) := by decide +kernel
theorem dX12_goesOver_36 : decode cX12_goesOver 36 = .ok (.invokevirtual 381, 3) := by decide +kernel
theorem dX12_goesOver_39 : decode cX12_goesOver 39 = .ok (.istore 7, 2) := by decide +kernel
theorem dX12_goesOver_41 : decode cX12_goesOver 41 = .ok (.iload 7, 2) := by decide +kernel
theorem dX12_goesOver_43 : decode cX12_goesOver 43 = .ok (.ifCond .eq 40, 3) := by decide +kernel
theorem dX12_goesOver_46 : decode cX12_goesOver 46 = .ok (.iload 5, 2) := by decide +kernel
theorem dX12_goesOver_48 : decode cX12_goesOver 48 = .ok (.ifCond .ne 35, 3) := by decide +kernel
theorem dX12_goesOver_51 : decode cX12_goesOver 51 = .ok (.aload_n 0, 1) := by decide +kernel
theorem dX12_goesOver_52 : decode cX12_goesOver 52 = .ok (.getfield 78, 3) := by decide +kernel
theorem dX12_goesOver_55 : decode cX12_goesOver 55 = .ok (.sipush 720, 3) := by decide +kernel
theorem dX12_goesOver_58 : decode cX12_goesOver 58 = .ok (.iload_n 3, 1) := by decide +kernel
theorem dX12_goesOver_59 : decode cX12_goesOver 59 = .ok (.imul, 1) := by decide +kernel
theorem dX12_goesOver_60 : decode cX12_goesOver 60 = .ok (.iload 4, 2) := by decide +kernel
theorem dX12_goesOver_62 : decode cX12_goesOver 62 = .ok (.iadd, 1) := by decide +kernel
theorem dX12_goesOver_63 : decode cX12_goesOver 63 = .ok (.iload 6, 2) := by decide +kernel
theorem dX12_goesOver_65 : decode cX12_goesOver 65 = .ok (.iastore, 1) := by decide +kernel
theorem dX12_goesOver_66 : decode cX12_goesOver 66 = .ok (.aload_n 0, 1) := by decide +kernel
theorem dX12_goesOver_67 : decode cX12_goesOver 67 = .ok (.getfield 84, 3) := by decide +kernel
theorem dX12_goesOver_70 : decode cX12_goesOver 70 = .ok (.sipush 720, 3) := by decide +kernel
theorem dX12_goesOver_73 : decode cX12_goesOver 73 = .ok (.iload_n 3, 1) := by decide +kernel
theorem dX12_goesOver_74 : decode cX12_goesOver 74 = .ok (.imul, 1) := by decide +kernel
theorem dX12_goesOver_75 : decode cX12_goesOver 75 = .ok (.iload 4, 2) := by decide +kernel
theorem dX12_goesOver_77 : decode cX12_goesOver 77 = .ok (.iadd, 1) := by decide +kernel
theorem dX12_goesOver_78 : decode cX12_goesOver 78 = .ok (.iconst 0, 1) := by decide +kernel
theorem dX12_goesOver_79 : decode cX12_goesOver 79 = .ok (.iastore, 1) := by decide +kernel
theorem dX12_goesOver_80 : decode cX12_goesOver 80 = .ok (.iinc 4 1, 3) := by decide +kernel
theorem dX12_goesOver_83 : decode cX12_goesOver 83 = .ok (.iload 7, 2) := by decide +kernel
theorem dX12_goesOver_85 : decode cX12_goesOver 85 = .ok (.ifCond .eq 65, 3) := by decide +kernel
theorem dX12_goesOver_88 : decode cX12_goesOver 88 = .ok (.sipush 720, 3) := by decide +kernel
theorem dX12_goesOver_91 : decode cX12_goesOver 91 = .ok (.iload_n 3, 1) := by decide +kernel
theorem dX12_goesOver_92 : decode cX12_goesOver 92 = .ok (.imul, 1) := by decide +kernel
theorem dX12_goesOver_93 : decode cX12_goesOver 93 = .ok (.iload 4, 2) := by decide +kernel
theorem dX12_goesOver_95 : decode cX12_goesOver 95 = .ok (.iadd, 1) := by decide +kernel
theorem dX12_goesOver_96 : decode cX12_goesOver 96 = .ok (.iconst 1, 1) := by decide +kernel
theorem dX12_goesOver_97 : decode cX12_goesOver 97 = .ok (.isub, 1) := by decide +kernel
theorem dX12_goesOver_98 : decode cX12_goesOver 98 = .ok (.istore 8, 2) := by decide +kernel
theorem dX12_goesOver_100 : decode cX12_goesOver 100 = .ok (.aload_n 0, 1) := by decide +kernel
theorem dX12_goesOver_101 : decode cX12_goesOver 101 = .ok (.getfield 81, 3) := by decide +kernel
theorem dX12_goesOver_104 : decode cX12_goesOver 104 = .ok (.iload 8, 2) := by decide +kernel
theorem dX12_goesOver_106 : decode cX12_goesOver 106 = .ok (.iload 6, 2) := by decide +kernel
theorem dX12_goesOver_108 : decode cX12_goesOver 108 = .ok (.iastore, 1) := by decide +kernel
theorem dX12_goesOver_109 : decode cX12_goesOver 109 = .ok (.aload_n 0, 1) := by decide +kernel
theorem dX12_goesOver_110 : decode cX12_goesOver 110 = .ok (.getfield 84, 3) := by decide +kernel
theorem dX12_goesOver_113 : decode cX12_goesOver 113 = .ok (.iload 8, 2) := by decide +kernel
theorem dX12_goesOver_115 : decode cX12_goesOver 115 = .ok (.aload_n 0, 1) := by decide +kernel
theorem dX12_goesOver_116 : decode cX12_goesOver 116 = .ok (.getfield 72, 3) := by decide +kernel
theorem dX12_goesOver_119 : decode cX12_goesOver 119 = .ok (.iload 6, 2) := by decide +kernel
theorem dX12_goesOver_121 : decode cX12_goesOver 121 = .ok (.iaload, 1) := by decide +kernel
theorem dX12_goesOver_122 : decode cX12_goesOver 122 = .ok (.aload_n 0, 1) := by decide +kernel
theorem dX12_goesOver_123 : decode cX12_goesOver 123 = .ok (.getfield 84, 3) := by decide +kernel
theorem dX12_goesOver_126 : decode cX12_goesOver 126 = .ok (.iload 8, 2) := by decide +kernel
theorem dX12_goesOver_128 : decode cX12_goesOver 128 = .ok (.iaload, 1) := by decide +kernel
theorem dX12_goesOver_129 : decode cX12_goesOver 129 = .ok (.if_icmp .le 13, 3) := by decide +kernel
theorem dX12_goesOver_132 : decode cX12_goesOver 132 = .ok (.aload_n 0, 1) := by decide +kernel
theorem dX12_goesOver_133 : decode cX12_goesOver 133 = .ok (.getfield 72, 3) := by decide +kernel
theorem dX12_goesOver_136 : decode cX12_goesOver 136 = .ok (.iload 6, 2) := by decide +kernel
theorem dX12_goesOver_138 : decode cX12_goesOver 138 = .ok (.iaload, 1) := by decide +kernel
theorem dX12_goesOver_139 : decode cX12_goesOver 139 = .ok (.goto 10, 3) := by decide +kernel
theorem dX12_goesOver_142 : decode cX12_goesOver 142 = .ok (.aload_n 0, 1) := by decide +kernel
theorem dX12_goesOver_143 : decode cX12_goesOver 143 = .ok (.getfield 84, 3) := by decide +kernel
theorem dX12_goesOver_146 : decode cX12_goesOver 146 = .ok (.iload 8, 2) := by decide +kernel
theorem dX12_goesOver_148 : decode cX12_goesOver 148 = .ok (.iaload, 1) := by decide +kernel
theorem dX12_goesOver_149 : decode cX12_goesOver 149 = .ok (.iastore, 1) := by decide +kernel
theorem dX12_goesOver_150 : decode cX12_goesOver 150 = .ok (.iload 7, 2) := by decide +kernel
theorem dX12_goesOver_152 : decode cX12_goesOver 152 = .ok (.istore 5, 2) := by decide +kernel
theorem dX12_goesOver_154 : decode cX12_goesOver 154 = .ok (.iinc 6 1, 3) := by decide +kernel
theorem dX12_goesOver_157 : decode cX12_goesOver 157 = .ok (.goto (-148), 3) := by decide +kernel
theorem dX12_goesOver_160 : decode cX12_goesOver 160 = .ok (.aload_n 0, 1) := by decide +kernel
theorem dX12_goesOver_161 : decode cX12_goesOver 161 = .ok (.getfield 87, 3) := by decide +kernel
theorem dX12_goesOver_164 : decode cX12_goesOver 164 = .ok (.iload_n 3, 1) := by decide +kernel
theorem dX12_goesOver_165 : decode cX12_goesOver 165 = .ok (.iload 4, 2) := by decide +kernel
theorem dX12_goesOver_167 : decode cX12_goesOver 167 = .ok (.iastore, 1) := by decide +kernel
theorem dX12_goesOver_168 : decode cX12_goesOver 168 = .ok (.return_, 1) := by decide +kernel
theorem dX12_marks_0 : decode cX12_marks 0 = .ok (.iload_n 1, 1) := by decide +kernel
theorem dX12_marks_1 : decode cX12_marks 1 = .ok (.invokestatic 254, 3) := by decide +kernel
theorem dX12_marks_4 : decode cX12_marks 4 = .ok (.ifCond .eq 15, 3) := by decide +kernel
theorem dX12_marks_7 : decode cX12_marks 7 = .ok (.iload_n 2, 1) := by decide +kernel
theorem dX12_marks_8 : decode cX12_marks 8 = .ok (.invokestatic 331, 3) := by decide +kernel
theorem dX12_marks_11 : decode cX12_marks 11 = .ok (.ifCond .eq 8, 3) := by decide +kernel
theorem dX12_marks_14 : decode cX12_marks 14 = .ok (.iload_n 3, 1) := by decide +kernel
theorem dX12_marks_15 : decode cX12_marks 15 = .ok (.iconst (-1), 1) := by decide +kernel
theorem dX12_marks_16 : decode cX12_marks 16 = .ok (.if_icmp .ge 5, 3) := by decide +kernel
theorem dX12_marks_19 : decode cX12_marks 19 = .ok (.iconst (-1), 1) := by decide +kernel
theorem dX12_marks_20 : decode cX12_marks 20 = .ok (.ireturn, 1) := by decide +kernel
theorem dX12_marks_21 : decode cX12_marks 21 = .ok (.aload_n 0, 1) := by decide +kernel
theorem dX12_marks_22 : decode cX12_marks 22 = .ok (.iload_n 2, 1) := by decide +kernel
theorem dX12_marks_23 : decode cX12_marks 23 = .ok (.invokevirtual 385, 3) := by decide +kernel
theorem dX12_marks_26 : decode cX12_marks 26 = .ok (.aload_n 0, 1) := by decide +kernel
theorem dX12_marks_27 : decode cX12_marks 27 = .ok (.iload_n 1, 1) := by decide +kernel
theorem dX12_marks_28 : decode cX12_marks 28 = .ok (.iload_n 2, 1) := by decide +kernel
theorem dX12_marks_29 : decode cX12_marks 29 = .ok (.iconst 0, 1) := by decide +kernel
theorem dX12_marks_30 : decode cX12_marks 30 = .ok (.invokevirtual 388, 3) := by decide +kernel
theorem dX12_marks_33 : decode cX12_marks 33 = .ok (.iload_n 3, 1) := by decide +kernel
theorem dX12_marks_34 : decode cX12_marks 34 = .ok (.iconst (-1), 1) := by decide +kernel
theorem dX12_marks_35 : decode cX12_marks 35 = .ok (.if_icmp .ne 10, 3) := by decide +kernel
theorem dX12_marks_38 : decode cX12_marks 38 = .ok (.aload_n 0, 1) := by decide +kernel
theorem dX12_marks_39 : decode cX12_marks 39 = .ok (.getfield 87, 3) := by decide +kernel
theorem dX12_marks_42 : decode cX12_marks 42 = .ok (.iconst 0, 1) := by decide +kernel
theorem dX12_marks_43 : decode cX12_marks 43 = .ok (.iaload, 1) := by decide +kernel
theorem dX12_marks_44 : decode cX12_marks 44 = .ok (.ireturn, 1) := by decide +kernel
theorem dX12_marks_45 : decode cX12_marks 45 = .ok (.iload_n 3, 1) := by decide +kernel
theorem dX12_marks_46 : decode cX12_marks 46 = .ok (.iconst 3, 1) := by decide +kernel
theorem dX12_marks_47 : decode cX12_marks 47 = .ok (.idiv, 1) := by decide +kernel
theorem dX12_marks_48 : decode cX12_marks 48 = .ok (.aload_n 0, 1) := by decide +kernel
theorem dX12_marks_49 : decode cX12_marks 49 = .ok (.getfield 87, 3) := by decide +kernel
theorem dX12_marks_52 : decode cX12_marks 52 = .ok (.iconst 0, 1) := by decide +kernel
theorem dX12_marks_53 : decode cX12_marks 53 = .ok (.iaload, 1) := by decide +kernel
theorem dX12_marks_54 : decode cX12_marks 54 = .ok (.if_icmp .lt 5, 3) := by decide +kernel
theorem dX12_marks_57 : decode cX12_marks 57 = .ok (.iconst (-1), 1) := by decide +kernel
theorem dX12_marks_58 : decode cX12_marks 58 = .ok (.ireturn, 1) := by decide +kernel
theorem dX12_marks_59 : decode cX12_marks 59 = .ok (.iload_n 3, 1) := by decide +kernel
theorem dX12_marks_60 : decode cX12_marks 60 = .ok (.iconst 3, 1) := by decide +kernel
theorem dX12_marks_61 : decode cX12_marks 61 = .ok (.irem, 1) := by decide +kernel
theorem dX12_marks_62 : decode cX12_marks 62 = .ok (.ifCond .ne 14, 3) := by decide +kernel
theorem dX12_marks_65 : decode cX12_marks 65 = .ok (.aload_n 0, 1) := by decide +kernel
theorem dX12_marks_66 : decode cX12_marks 66 = .ok (.getfield 78, 3) := by decide +kernel
theorem dX12_marks_69 : decode cX12_marks 69 = .ok (.iload_n 3, 1) := by decide +kernel
theorem dX12_marks_70 : decode cX12_marks 70 = .ok (.iconst 3, 1) := by decide +kernel
theorem dX12_marks_71 : decode cX12_marks 71 = .ok (.idiv, 1) := by decide +kernel
theorem dX12_marks_72 : decode cX12_marks 72 = .ok (.iaload, 1) := by decide +kernel
theorem dX12_marks_73 : decode cX12_marks 73 = .ok (.goto 29, 3) := by decide +kernel
theorem dX12_marks_76 : decode cX12_marks 76 = .ok (.iload_n 3, 1) := by decide +kernel
theorem dX12_marks_77 : decode cX12_marks 77 = .ok (.iconst 3, 1) := by decide +kernel
theorem dX12_marks_78 : decode cX12_marks 78 = .ok (.irem, 1) := by decide +kernel
theorem dX12_marks_79 : decode cX12_marks 79 = .ok (.iconst 1, 1) := by decide +kernel
theorem dX12_marks_80 : decode cX12_marks 80 = .ok (.if_icmp .ne 14, 3) := by decide +kernel
theorem dX12_marks_83 : decode cX12_marks 83 = .ok (.aload_n 0, 1) := by decide +kernel
theorem dX12_marks_84 : decode cX12_marks 84 = .ok (.getfield 81, 3) := by decide +kernel
theorem dX12_marks_87 : decode cX12_marks 87 = .ok (.iload_n 3, 1) := by decide +kernel
theorem dX12_marks_88 : decode cX12_marks 88 = .ok (.iconst 3, 1) := by decide +kernel
theorem dX12_marks_89 : decode cX12_marks 89 = .ok (.idiv, 1) := by decide +kernel
theorem dX12_marks_90 : decode cX12_marks 90 = .ok (.iaload, 1) := by decide +kernel
theorem dX12_marks_91 : decode cX12_marks 91 = .ok (.goto 11, 3) := by decide +kernel
theorem dX12_marks_94 : decode cX12_marks 94 = .ok (.aload_n 0, 1) := by decide +kernel
theorem dX12_marks_95 : decode cX12_marks 95 = .ok (.getfield 84, 3) := by decide +kernel
theorem dX12_marks_98 : decode cX12_marks 98 = .ok (.iload_n 3, 1) := by decide +kernel
theorem dX12_marks_99 : decode cX12_marks 99 = .ok (.iconst 3, 1) := by decide +kernel
theorem dX12_marks_100 : decode cX12_marks 100 = .ok (.idiv, 1) := by decide +kernel
theorem dX12_marks_101 : decode cX12_marks 101 = .ok (.iaload, 1) := by decide +kernel
theorem dX12_marks_102 : decode cX12_marks 102 = .ok (.ireturn, 1) := by decide +kernel
theorem dX12_isAlone_0 : decode cX12_isAlone 0 = .ok (.iconst 0, 1) := by decide +kernel
theorem dX12_isAlone_1 : decode cX12_isAlone 1 = .ok (.istore_n 2, 1) := by decide +kernel
theorem dX12_isAlone_2 : decode cX12_isAlone 2 = .ok (.iload_n 2, 1) := by decide +kernel
theorem dX12_isAlone_3 : decode cX12_isAlone 3 = .ok (.aload_n 0, 1) := by decide +kernel
theorem dX12_isAlone_4 : decode cX12_isAlone 4 = .ok (.getfield 87, 3) := by decide +kernel
theorem dX12_isAlone_7 : decode cX12_isAlone 7 = .ok (.iconst 0, 1) := by decide +kernel
theorem dX12_isAlone_8 : decode cX12_isAlone 8 = .ok (.iaload, 1) := by decide +kernel
theorem dX12_isAlone_9 : decode cX12_isAlone 9 = .ok (.if_icmp .ge 49, 3) := by decide +kernel
theorem dX12_isAlone_12 : decode cX12_isAlone 12 = .ok (.aload_n 0, 1) := by decide +kernel
theorem dX12_isAlone_13 : decode cX12_isAlone 13 = .ok (.getfield 78, 3) := by decide +kernel
theorem dX12_isAlone_16 : decode cX12_isAlone 16 = .ok (.iload_n 2, 1) := by decide +kernel
theorem dX12_isAlone_17 : decode cX12_isAlone 17 = .ok (.iaload, 1) := by decide +kernel
theorem dX12_isAlone_18 : decode cX12_isAlone 18 = .ok (.aload_n 0, 1) := by decide +kernel
theorem dX12_isAlone_19 : decode cX12_isAlone 19 = .ok (.getfield 81, 3) := by decide +kernel
theorem dX12_isAlone_22 : decode cX12_isAlone 22 = .ok (.sipush 720, 3) := by decide +kernel
theorem dX12_isAlone_25 : decode cX12_isAlone 25 = .ok (.iload_n 1, 1) := by decide +kernel
theorem dX12_isAlone_26 : decode cX12_isAlone 26 = .ok (.iadd, 1) := by decide +kernel
theorem dX12_isAlone_27 : decode cX12_isAlone 27 = .ok (.iaload, 1) := by decide +kernel
theorem dX12_isAlone_28 : decode cX12_isAlone 28 = .ok (.if_icmp .gt 24, 3) := by decide +kernel
theorem dX12_isAlone_31 : decode cX12_isAlone 31 = .ok (.aload_n 0, 1) := by decide +kernel
theorem dX12_isAlone_32 : decode cX12_isAlone 32 = .ok (.getfield 81, 3) := by decide +kernel
theorem dX12_isAlone_35 : decode cX12_isAlone 35 = .ok (.iload_n 2, 1) := by decide +kernel
theorem dX12_isAlone_36 : decode cX12_isAlone 36 = .ok (.iaload, 1) := by decide +kernel
theorem dX12_isAlone_37 : decode cX12_isAlone 37 = .ok (.aload_n 0, 1) := by decide +kernel
theorem dX12_isAlone_38 : decode cX12_isAlone 38 = .ok (.getfield 78, 3) := by decide +kernel
theorem dX12_isAlone_41 : decode cX12_isAlone 41 = .ok (.sipush 720, 3) := by decide +kernel
theorem dX12_isAlone_44 : decode cX12_isAlone 44 = .ok (.iload_n 1, 1) := by decide +kernel
theorem dX12_isAlone_45 : decode cX12_isAlone 45 = .ok (.iadd, 1) := by decide +kernel
theorem dX12_isAlone_46 : decode cX12_isAlone 46 = .ok (.iaload, 1) := by decide +kernel
theorem dX12_isAlone_47 : decode cX12_isAlone 47 = .ok (.if_icmp .lt 5, 3) := by decide +kernel
theorem dX12_isAlone_50 : decode cX12_isAlone 50 = .ok (.iconst 0, 1) := by decide +kernel
theorem dX12_isAlone_51 : decode cX12_isAlone 51 = .ok (.ireturn, 1) := by decide +kernel
theorem dX12_isAlone_52 : decode cX12_isAlone 52 = .ok (.iinc 2 1, 3) := by decide +kernel
theorem dX12_isAlone_55 : decode cX12_isAlone 55 = .ok (.goto (-53), 3) := by decide +kernel
theorem dX12_isAlone_58 : decode cX12_isAlone 58 = .ok (.iconst 1, 1) := by decide +kernel
theorem dX12_isAlone_59 : decode cX12_isAlone 59 = .ok (.ireturn, 1) := by decide +kernel
theorem dX12_passed_0 : decode cX12_passed 0 = .ok (.iload_n 1, 1) := by decide +kernel
theorem dX12_passed_1 : decode cX12_passed 1 = .ok (.invokestatic 254, 3) := by decide +kernel
theorem dX12_passed_4 : decode cX12_passed 4 = .ok (.ifCond .eq 54, 3) := by decide +kernel
theorem dX12_passed_7 : decode cX12_passed 7 = .ok (.iload_n 2, 1) := by decide +kernel
theorem dX12_passed_8 : decode cX12_passed 8 = .ok (.invokestatic 254, 3) := by decide +kernel
theorem dX12_passed_11 : decode cX12_passed 11 = .ok (.ifCond .eq 47, 3) := by decide +kernel
theorem dX12_passed_14 : decode cX12_passed 14 = .ok (.iload_n 3, 1) := by decide +kernel
theorem dX12_passed_15 : decode cX12_passed 15 = .ok (.invokestatic 331, 3) := by decide +kernel
theorem dX12_passed_18 : decode cX12_passed 18 = .ok (.ifCond .eq 40, 3) := by decide +kernel
theorem dX12_passed_21 : decode cX12_passed 21 = .ok (.iload 4, 2) := by decide +kernel
theorem dX12_passed_23 : decode cX12_passed 23 = .ok (.invokestatic 331, 3) := by decide +kernel
theorem dX12_passed_26 : decode cX12_passed 26 = .ok (.ifCond .eq 32, 3) := by decide +kernel
theorem dX12_passed_29 : decode cX12_passed 29 = .ok (.iload 4, 2) := by decide +kernel
theorem dX12_passed_31 : decode cX12_passed 31 = .ok (.i2l, 1) := by decide +kernel
theorem dX12_passed_32 : decode cX12_passed 32 = .ok (.iload_n 3, 1) := by decide +kernel
theorem dX12_passed_33 : decode cX12_passed 33 = .ok (.i2l, 1) := by decide +kernel
theorem dX12_passed_34 : decode cX12_passed 34 = .ok (.iload_n 3, 1) := by decide +kernel
theorem dX12_passed_35 : decode cX12_passed 35 = .ok (.bipush 29, 2) := by decide +kernel
theorem dX12_passed_37 : decode cX12_passed 37 = .ok (.iadd, 1) := by decide +kernel
theorem dX12_passed_38 : decode cX12_passed 38 = .ok (.i2l, 1) := by decide +kernel
theorem dX12_passed_39 : decode cX12_passed 39 = .ok (.invokestatic 159, 3) := by decide +kernel
theorem dX12_passed_42 : decode cX12_passed 42 = .ok (.ifCond .eq 16, 3) := by decide +kernel
theorem dX12_passed_45 : decode cX12_passed 45 = .ok (.iload 5, 2) := by decide +kernel
theorem dX12_passed_47 : decode cX12_passed 47 = .ok (.i2l, 1) := by decide +kernel
theorem dX12_passed_48 : decode cX12_passed 48 = .ok (.lconst 0, 1) := by decide +kernel
theorem dX12_passed_49 : decode cX12_passed 49 = .ok (.ldc2_w 392, 3) := by decide +kernel
theorem dX12_passed_52 : decode cX12_passed 52 = .ok (.invokestatic 159, 3) := by decide +kernel
theorem dX12_passed_55 : decode cX12_passed 55 = .ok (.ifCond .ne 5, 3) := by decide +kernel
theorem dX12_passed_58 : decode cX12_passed 58 = .ok (.iconst (-1), 1) := by decide +kernel
theorem dX12_passed_59 : decode cX12_passed 59 = .ok (.ireturn, 1) := by decide +kernel
theorem dX12_passed_60 : decode cX12_passed 60 = .ok (.iconst 0, 1) := by decide +kernel
theorem dX12_passed_61 : decode cX12_passed 61 = .ok (.istore 6, 2) := by decide +kernel
theorem dX12_passed_63 : decode cX12_passed 63 = .ok (.iconst (-1), 1) := by decide +kernel
theorem dX12_passed_64 : decode cX12_passed 64 = .ok (.istore 7, 2) := by decide +kernel
theorem dX12_passed_66 : decode cX12_passed 66 = .ok (.iconst (-1), 1) := by decide +kernel
theorem dX12_passed_67 : decode cX12_passed 67 = .ok (.istore 8, 2) := by decide +kernel
theorem dX12_passed_69 : decode cX12_passed 69 = .ok (.iload_n 3, 1) := by decide +kernel
theorem dX12_passed_70 : decode cX12_passed 70 = .ok (.istore 9, 2) := by decide +kernel
theorem dX12_passed_72 : decode cX12_passed 72 = .ok (.iload 9, 2) := by decide +kernel
theorem dX12_passed_74 : decode cX12_passed 74 = .ok (.iload 4, 2) := by decide +kernel
theorem dX12_passed_76 : decode cX12_passed 76 = .ok (.if_icmp .gt 88, 3) := by decide +kernel
theorem dX12_passed_79 : decode cX12_passed 79 = .ok (.aload_n 0, 1) := by decide +kernel
theorem dX12_passed_80 : decode cX12_passed 80 = .ok (.iload 9, 2) := by decide +kernel
theorem dX12_passed_82 : decode cX12_passed 82 = .ok (.invokevirtual 385, 3) := by decide +kernel
theorem dX12_passed_85 : decode cX12_passed 85 = .ok (.aload_n 0, 1) := by decide +kernel
theorem dX12_passed_86 : decode cX12_passed 86 = .ok (.iload_n 1, 1) := by decide +kernel
theorem dX12_passed_87 : decode cX12_passed 87 = .ok (.iload 9, 2) := by decide +kernel
theorem dX12_passed_89 : decode cX12_passed 89 = .ok (.iconst 0, 1) := by decide +kernel
theorem dX12_passed_90 : decode cX12_passed 90 = .ok (.invokevirtual 388, 3) := by decide +kernel
theorem dX12_passed_93 : decode cX12_passed 93 = .ok (.aload_n 0, 1) := by decide +kernel
theorem dX12_passed_94 : decode cX12_passed 94 = .ok (.iload_n 2, 1) := by decide +kernel
theorem dX12_passed_95 : decode cX12_passed 95 = .ok (.iload 9, 2) := by decide +kernel
theorem dX12_passed_97 : decode cX12_passed 97 = .ok (.iconst 1, 1) := by decide +kernel
theorem dX12_passed_98 : decode cX12_passed 98 = .ok (.invokevirtual 388, 3) := by decide +kernel
theorem dX12_passed_101 : decode cX12_passed 101 = .ok (.iconst 0, 1) := by decide +kernel
theorem dX12_passed_102 : decode cX12_passed 102 = .ok (.istore 10, 2) := by decide +kernel
theorem dX12_passed_104 : decode cX12_passed 104 = .ok (.iload 10, 2) := by decide +kernel
theorem dX12_passed_106 : decode cX12_passed 106 = .ok (.aload_n 0, 1) := by decide +kernel
theorem dX12_passed_107 : decode cX12_passed 107 = .ok (.getfield 87, 3) := by decide +kernel
theorem dX12_passed_110 : decode cX12_passed 110 = .ok (.iconst 1, 1) := by decide +kernel
theorem dX12_passed_111 : decode cX12_passed 111 = .ok (.iaload, 1) := by decide +kernel
theorem dX12_passed_112 : decode cX12_passed 112 = .ok (.if_icmp .ge 46, 3) := by decide +kernel
theorem dX12_passed_115 : decode cX12_passed 115 = .ok (.aload_n 0, 1) := by decide +kernel
theorem dX12_passed_116 : decode cX12_passed 116 = .ok (.iload 10, 2) := by decide +kernel
theorem dX12_passed_118 : decode cX12_passed 118 = .ok (.invokevirtual 394, 3) := by decide +kernel
theorem dX12_passed_121 : decode cX12_passed 121 = .ok (.ifCond .ne 6, 3) := by decide +kernel
theorem dX12_passed_124 : decode cX12_passed 124 = .ok (.goto 28, 3) := by decide +kernel
theorem dX12_passed_127 : decode cX12_passed 127 = .ok (.iload 6, 2) := by decide +kernel
theorem dX12_passed_129 : decode cX12_passed 129 = .ok (.ifCond .ne 20, 3) := by decide +kernel
theorem dX12_passed_132 : decode cX12_passed 132 = .ok (.iload 9, 2) := by decide +kernel
theorem dX12_passed_134 : decode cX12_passed 134 = .ok (.istore 7, 2) := by decide +kernel
theorem dX12_passed_136 : decode cX12_passed 136 = .ok (.aload_n 0, 1) := by decide +kernel
theorem dX12_passed_137 : decode cX12_passed 137 = .ok (.getfield 78, 3) := by decide +kernel
theorem dX12_passed_140 : decode cX12_passed 140 = .ok (.sipush 720, 3) := by decide +kernel
theorem dX12_passed_143 : decode cX12_passed 143 = .ok (.iload 10, 2) := by decide +kernel
theorem dX12_passed_145 : decode cX12_passed 145 = .ok (.iadd, 1) := by decide +kernel
theorem dX12_passed_146 : decode cX12_passed 146 = .ok (.iaload, 1) := by decide +kernel
theorem dX12_passed_147 : decode cX12_passed 147 = .ok (.istore 8, 2) := by decide +kernel
theorem dX12_passed_149 : decode cX12_passed 149 = .ok (.iinc 6 1, 3) := by decide +kernel
theorem dX12_passed_152 : decode cX12_passed 152 = .ok (.iinc 10 1, 3) := by decide +kernel
theorem dX12_passed_155 : decode cX12_passed 155 = .ok (.goto (-51), 3) := by decide +kernel
theorem dX12_passed_158 : decode cX12_passed 158 = .ok (.iinc 9 1, 3) := by decide +kernel
theorem dX12_passed_161 : decode cX12_passed 161 = .ok (.goto (-89), 3) := by decide +kernel
theorem dX12_passed_164 : decode cX12_passed 164 = .ok (.iload 5, 2) := by decide +kernel
theorem dX12_passed_166 : decode cX12_passed 166 = .ok (.ifCond .ne 8, 3) := by decide +kernel
theorem dX12_passed_169 : decode cX12_passed 169 = .ok (.iload 6, 2) := by decide +kernel
theorem dX12_passed_171 : decode cX12_passed 171 = .ok (.goto 16, 3) := by decide +kernel
theorem dX12_passed_174 : decode cX12_passed 174 = .ok (.iload 5, 2) := by decide +kernel
theorem dX12_passed_176 : decode cX12_passed 176 = .ok (.iconst 1, 1) := by decide +kernel
theorem dX12_passed_177 : decode cX12_passed 177 = .ok (.if_icmp .ne 8, 3) := by decide +kernel
theorem dX12_passed_180 : decode cX12_passed 180 = .ok (.iload 7, 2) := by decide +kernel
theorem dX12_passed_182 : decode cX12_passed 182 = .ok (.goto 5, 3) := by decide +kernel
theorem dX12_passed_185 : decode cX12_passed 185 = .ok (.iload 8, 2) := by decide +kernel
theorem dX12_passed_187 : decode cX12_passed 187 = .ok (.ireturn, 1) := by decide +kernel
theorem dX12_note_0 : decode cX12_note 0 = .ok (.aload_n 0, 1) := by decide +kernel
theorem dX12_note_1 : decode cX12_note 1 = .ok (.getfield 397, 3) := by decide +kernel
theorem dX12_note_4 : decode cX12_note 4 = .ok (.bipush 40, 2) := by decide +kernel
theorem dX12_note_6 : decode cX12_note 6 = .ok (.if_icmp .eq 51, 3) := by decide +kernel
theorem dX12_note_9 : decode cX12_note 9 = .ok (.iload_n 1, 1) := by decide +kernel
theorem dX12_note_10 : decode cX12_note 10 = .ok (.invokestatic 331, 3) := by decide +kernel
theorem dX12_note_13 : decode cX12_note 13 = .ok (.ifCond .eq 44, 3) := by decide +kernel
theorem dX12_note_16 : decode cX12_note 16 = .ok (.iload_n 2, 1) := by decide +kernel
theorem dX12_note_17 : decode cX12_note 17 = .ok (.invokestatic 319, 3) := by decide +kernel
theorem dX12_note_20 : decode cX12_note 20 = .ok (.ifCond .eq 37, 3) := by decide +kernel
theorem dX12_note_23 : decode cX12_note 23 = .ok (.iload_n 3, 1) := by decide +kernel
theorem dX12_note_24 : decode cX12_note 24 = .ok (.i2l, 1) := by decide +kernel
theorem dX12_note_25 : decode cX12_note 25 = .ok (.lconst 0, 1) := by decide +kernel
theorem dX12_note_26 : decode cX12_note 26 = .ok (.ldc2_w 241, 3) := by decide +kernel
theorem dX12_note_29 : decode cX12_note 29 = .ok (.invokestatic 159, 3) := by decide +kernel
theorem dX12_note_32 : decode cX12_note 32 = .ok (.ifCond .eq 25, 3) := by decide +kernel
theorem dX12_note_35 : decode cX12_note 35 = .ok (.aload_n 0, 1) := by decide +kernel
theorem dX12_note_36 : decode cX12_note 36 = .ok (.getfield 397, 3) := by decide +kernel
theorem dX12_note_39 : decode cX12_note 39 = .ok (.ifCond .le 20, 3) := by decide +kernel
theorem dX12_note_42 : decode cX12_note 42 = .ok (.iload_n 1, 1) := by decide +kernel
theorem dX12_note_43 : decode cX12_note 43 = .ok (.aload_n 0, 1) := by decide +kernel
theorem dX12_note_44 : decode cX12_note 44 = .ok (.getfield 90, 3) := by decide +kernel
theorem dX12_note_47 : decode cX12_note 47 = .ok (.aload_n 0, 1) := by decide +kernel
theorem dX12_note_48 : decode cX12_note 48 = .ok (.getfield 397, 3) := by decide +kernel
theorem dX12_note_51 : decode cX12_note 51 = .ok (.iconst 1, 1) := by decide +kernel
theorem dX12_note_52 : decode cX12_note 52 = .ok (.isub, 1) := by decide +kernel
theorem dX12_note_53 : decode cX12_note 53 = .ok (.iaload, 1) := by decide +kernel
theorem dX12_note_54 : decode cX12_note 54 = .ok (.if_icmp .ge 5, 3) := by decide +kernel
theorem dX12_note_57 : decode cX12_note 57 = .ok (.iconst (-1), 1) := by decide +kernel
theorem dX12_note_58 : decode cX12_note 58 = .ok (.ireturn, 1) := by decide +kernel
theorem dX12_note_59 : decode cX12_note 59 = .ok (.aload_n 0, 1) := by decide +kernel
theorem dX12_note_60 : decode cX12_note 60 = .ok (.getfield 90, 3) := by decide +kernel
theorem dX12_note_63 : decode cX12_note 63 = .ok (.aload_n 0, 1) := by decide +kernel
theorem dX12_note_64 : decode cX12_note 64 = .ok (.getfield 397, 3) := by decide +kernel
theorem dX12_note_67 : decode cX12_note 67 = .ok (.iload_n 1, 1) := by decide +kernel
theorem dX12_note_68 : decode cX12_note 68 = .ok (.iastore, 1) := by decide +kernel
theorem dX12_note_69 : decode cX12_note 69 = .ok (.aload_n 0, 1) := by decide +kernel
theorem dX12_note_70 : decode cX12_note 70 = .ok (.getfield 93, 3) := by decide +kernel
theorem dX12_note_73 : decode cX12_note 73 = .ok (.aload_n 0, 1) := by decide +kernel
theorem dX12_note_74 : decode cX12_note 74 = .ok (.getfield 397, 3) := by decide +kernel
theorem dX12_note_77 : decode cX12_note 77 = .ok (.iload_n 2, 1) := by decide +kernel
theorem dX12_note_78 : decode cX12_note 78 = .ok (.iastore, 1) := by decide +kernel
theorem dX12_note_79 : decode cX12_note 79 = .ok (.aload_n 0, 1) := by decide +kernel
theorem dX12_note_80 : decode cX12_note 80 = .ok (.getfield 96, 3) := by decide +kernel
theorem dX12_note_83 : decode cX12_note 83 = .ok (.aload_n 0, 1) := by decide +kernel
theorem dX12_note_84 : decode cX12_note 84 = .ok (.getfield 397, 3) := by decide +kernel
theorem dX12_note_87 : decode cX12_note 87 = .ok (.iload_n 3, 1) := by decide +kernel
theorem dX12_note_88 : decode cX12_note 88 = .ok (.iastore, 1) := by decide +kernel
theorem dX12_note_89 : decode cX12_note 89 = .ok (.aload_n 0, 1) := by decide +kernel
theorem dX12_note_90 : decode cX12_note 90 = .ok (.dup, 1) := by decide +kernel
theorem dX12_note_91 : decode cX12_note 91 = .ok (.getfield 397, 3) := by decide +kernel
theorem dX12_note_94 : decode cX12_note 94 = .ok (.iconst 1, 1) := by decide +kernel
theorem dX12_note_95 : decode cX12_note 95 = .ok (.iadd, 1) := by decide +kernel
theorem dX12_note_96 : decode cX12_note 96 = .ok (.putfield 397, 3) := by decide +kernel
theorem dX12_note_99 : decode cX12_note 99 = .ok (.aload_n 0, 1) := by decide +kernel
theorem dX12_note_100 : decode cX12_note 100 = .ok (.getfield 397, 3) := by decide +kernel
theorem dX12_note_103 : decode cX12_note 103 = .ok (.iconst 1, 1) := by decide +kernel
theorem dX12_note_104 : decode cX12_note 104 = .ok (.isub, 1) := by decide +kernel
theorem dX12_note_105 : decode cX12_note 105 = .ok (.ireturn, 1) := by decide +kernel
theorem dX12_isWithin_0 : decode cX12_isWithin 0 = .ok (.iload_n 0, 1) := by decide +kernel
theorem dX12_isWithin_1 : decode cX12_isWithin 1 = .ok (.i2l, 1) := by decide +kernel
theorem dX12_isWithin_2 : decode cX12_isWithin 2 = .ok (.lconst 0, 1) := by decide +kernel
theorem dX12_isWithin_3 : decode cX12_isWithin 3 = .ok (.ldc2_w 400, 3) := by decide +kernel
theorem dX12_isWithin_6 : decode cX12_isWithin 6 = .ok (.invokestatic 159, 3) := by decide +kernel
theorem dX12_isWithin_9 : decode cX12_isWithin 9 = .ok (.ireturn, 1) := by decide +kernel
theorem dX12_isShape_0 : decode cX12_isShape 0 = .ok (.iload_n 0, 1) := by decide +kernel
theorem dX12_isShape_1 : decode cX12_isShape 1 = .ok (.i2l, 1) := by decide +kernel
theorem dX12_isShape_2 : decode cX12_isShape 2 = .ok (.lconst 0, 1) := by decide +kernel
theorem dX12_isShape_3 : decode cX12_isShape 3 = .ok (.ldc2_w 241, 3) := by decide +kernel
theorem dX12_isShape_6 : decode cX12_isShape 6 = .ok (.invokestatic 159, 3) := by decide +kernel
theorem dX12_isShape_9 : decode cX12_isShape 9 = .ok (.ireturn, 1) := by decide +kernel
theorem dX12_minuteBy_0 : decode cX12_minuteBy 0 = .ok (.iload_n 2, 1) := by decide +kernel
theorem dX12_minuteBy_1 : decode cX12_minuteBy 1 = .ok (.ifCond .eq 21, 3) := by decide +kernel
theorem dX12_minuteBy_4 : decode cX12_minuteBy 4 = .ok (.aload_n 0, 1) := by decide +kernel
theorem dX12_minuteBy_5 : decode cX12_minuteBy 5 = .ok (.getfield 90, 3) := by decide +kernel
theorem dX12_minuteBy_8 : decode cX12_minuteBy 8 = .ok (.iload_n 1, 1) := by decide +kernel
theorem dX12_minuteBy_9 : decode cX12_minuteBy 9 = .ok (.iaload, 1) := by decide +kernel
theorem dX12_minuteBy_10 : decode cX12_minuteBy 10 = .ok (.aload_n 0, 1) := by decide +kernel
theorem dX12_minuteBy_11 : decode cX12_minuteBy 11 = .ok (.getfield 93, 3) := by decide +kernel
theorem dX12_minuteBy_14 : decode cX12_minuteBy 14 = .ok (.iload_n 1, 1) := by decide +kernel
theorem dX12_minuteBy_15 : decode cX12_minuteBy 15 = .ok (.iaload, 1) := by decide +kernel
theorem dX12_minuteBy_16 : decode cX12_minuteBy 16 = .ok (.invokestatic 334, 3) := by decide +kernel
theorem dX12_minuteBy_19 : decode cX12_minuteBy 19 = .ok (.goto 9, 3) := by decide +kernel
theorem dX12_minuteBy_22 : decode cX12_minuteBy 22 = .ok (.aload_n 0, 1) := by decide +kernel
theorem dX12_minuteBy_23 : decode cX12_minuteBy 23 = .ok (.getfield 93, 3) := by decide +kernel
theorem dX12_minuteBy_26 : decode cX12_minuteBy 26 = .ok (.iload_n 1, 1) := by decide +kernel
theorem dX12_minuteBy_27 : decode cX12_minuteBy 27 = .ok (.iaload, 1) := by decide +kernel
theorem dX12_minuteBy_28 : decode cX12_minuteBy 28 = .ok (.ireturn, 1) := by decide +kernel
theorem dX12_onArc_0 : decode cX12_onArc 0 = .ok (.iconst 0, 1) := by decide +kernel
theorem dX12_onArc_1 : decode cX12_onArc 1 = .ok (.istore 6, 2) := by decide +kernel
theorem dX12_onArc_3 : decode cX12_onArc 3 = .ok (.iconst 0, 1) := by decide +kernel
theorem dX12_onArc_4 : decode cX12_onArc 4 = .ok (.istore 7, 2) := by decide +kernel
theorem dX12_onArc_6 : decode cX12_onArc 6 = .ok (.iload 7, 2) := by decide +kernel
theorem dX12_onArc_8 : decode cX12_onArc 8 = .ok (.aload_n 0, 1) := by decide +kernel
theorem dX12_onArc_9 : decode cX12_onArc 9 = .ok (.getfield 397, 3) := by decide +kernel
theorem dX12_onArc_12 : decode cX12_onArc 12 = .ok (.if_icmp .ge 64, 3) := by decide +kernel
theorem dX12_onArc_15 : decode cX12_onArc 15 = .ok (.aload_n 0, 1) := by decide +kernel
theorem dX12_onArc_16 : decode cX12_onArc 16 = .ok (.getfield 96, 3) := by decide +kernel
theorem dX12_onArc_19 : decode cX12_onArc 19 = .ok (.iload 7, 2) := by decide +kernel
theorem dX12_onArc_21 : decode cX12_onArc 21 = .ok (.iaload, 1) := by decide +kernel
theorem dX12_onArc_22 : decode cX12_onArc 22 = .ok (.iload_n 1, 1) := by decide +kernel
theorem dX12_onArc_23 : decode cX12_onArc 23 = .ok (.if_icmp .ne 47, 3) := by decide +kernel
theorem dX12_onArc_26 : decode cX12_onArc 26 = .ok (.aload_n 0, 1) := by decide +kernel
theorem dX12_onArc_27 : decode cX12_onArc 27 = .ok (.getfield 90, 3) := by decide +kernel
theorem dX12_onArc_30 : decode cX12_onArc 30 = .ok (.iload 7, 2) := by decide +kernel
theorem dX12_onArc_32 : decode cX12_onArc 32 = .ok (.iaload, 1) := by decide +kernel
theorem dX12_onArc_33 : decode cX12_onArc 33 = .ok (.iload_n 2, 1) := by decide +kernel
theorem dX12_onArc_34 : decode cX12_onArc 34 = .ok (.if_icmp .gt 36, 3) := by decide +kernel
theorem dX12_onArc_37 : decode cX12_onArc 37 = .ok (.iload 6, 2) := by decide +kernel
theorem dX12_onArc_39 : decode cX12_onArc 39 = .ok (.aload_n 0, 1) := by decide +kernel
theorem dX12_onArc_40 : decode cX12_onArc 40 = .ok (.iload 7, 2) := by decide +kernel
theorem dX12_onArc_42 : decode cX12_onArc 42 = .ok (.iload_n 3, 1) := by decide +kernel
theorem dX12_onArc_43 : decode cX12_onArc 43 = .ok (.invokevirtual 402, 3) := by decide +kernel
theorem dX12_onArc_46 : decode cX12_onArc 46 = .ok (.iload 4, 2) := by decide +kernel
theorem dX12_onArc_48 : decode cX12_onArc 48 = .ok (.isub, 1) := by decide +kernel
theorem dX12_onArc_49 : decode cX12_onArc 49 = .ok (.sipush 1440, 3) := by decide +kernel
theorem dX12_onArc_52 : decode cX12_onArc 52 = .ok (.iadd, 1) := by decide +kernel
theorem dX12_onArc_53 : decode cX12_onArc 53 = .ok (.sipush 1440, 3) := by decide +kernel
theorem dX12_onArc_56 : decode cX12_onArc 56 = .ok (.irem, 1) := by decide +kernel
theorem dX12_onArc_57 : decode cX12_onArc 57 = .ok (.iload 5, 2) := by decide +kernel
theorem dX12_onArc_59 : decode cX12_onArc 59 = .ok (.if_icmp .gt 7, 3) := by decide +kernel
theorem dX12_onArc_62 : decode cX12_onArc 62 = .ok (.iconst 1, 1) := by decide +kernel
theorem dX12_onArc_63 : decode cX12_onArc 63 = .ok (.goto 4, 3) := by decide +kernel
theorem dX12_onArc_66 : decode cX12_onArc 66 = .ok (.iconst 0, 1) := by decide +kernel
theorem dX12_onArc_67 : decode cX12_onArc 67 = .ok (.iadd, 1) := by decide +kernel
theorem dX12_onArc_68 : decode cX12_onArc 68 = .ok (.istore 6, 2) := by decide +kernel
theorem dX12_onArc_70 : decode cX12_onArc 70 = .ok (.iinc 7 1, 3) := by decide +kernel
theorem dX12_onArc_73 : decode cX12_onArc 73 = .ok (.goto (-67), 3) := by decide +kernel
theorem dX12_onArc_76 : decode cX12_onArc 76 = .ok (.iload 6, 2) := by decide +kernel
theorem dX12_onArc_78 : decode cX12_onArc 78 = .ok (.ireturn, 1) := by decide +kernel
theorem dX12_manyOf_0 : decode cX12_manyOf 0 = .ok (.iconst 0, 1) := by decide +kernel
theorem dX12_manyOf_1 : decode cX12_manyOf 1 = .ok (.istore_n 3, 1) := by decide +kernel
theorem dX12_manyOf_2 : decode cX12_manyOf 2 = .ok (.iconst 0, 1) := by decide +kernel
theorem dX12_manyOf_3 : decode cX12_manyOf 3 = .ok (.istore 4, 2) := by decide +kernel
theorem dX12_manyOf_5 : decode cX12_manyOf 5 = .ok (.iload 4, 2) := by decide +kernel
theorem dX12_manyOf_7 : decode cX12_manyOf 7 = .ok (.aload_n 0, 1) := by decide +kernel
theorem dX12_manyOf_8 : decode cX12_manyOf 8 = .ok (.getfield 397, 3) := by decide +kernel
theorem dX12_manyOf_11 : decode cX12_manyOf 11 = .ok (.if_icmp .ge 39, 3) := by decide +kernel
theorem dX12_manyOf_14 : decode cX12_manyOf 14 = .ok (.iload_n 3, 1) := by decide +kernel
theorem dX12_manyOf_15 : decode cX12_manyOf 15 = .ok (.aload_n 0, 1) := by decide +kernel
theorem dX12_manyOf_16 : decode cX12_manyOf 16 = .ok (.getfield 96, 3) := by decide +kernel
theorem dX12_manyOf_19 : decode cX12_manyOf 19 = .ok (.iload 4, 2) := by decide +kernel
theorem dX12_manyOf_21 : decode cX12_manyOf 21 = .ok (.iaload, 1) := by decide +kernel
theorem dX12_manyOf_22 : decode cX12_manyOf 22 = .ok (.iload_n 1, 1) := by decide +kernel
theorem dX12_manyOf_23 : decode cX12_manyOf 23 = .ok (.if_icmp .ne 18, 3) := by decide +kernel
theorem dX12_manyOf_26 : decode cX12_manyOf 26 = .ok (.aload_n 0, 1) := by decide +kernel
theorem dX12_manyOf_27 : decode cX12_manyOf 27 = .ok (.getfield 90, 3) := by decide +kernel
theorem dX12_manyOf_30 : decode cX12_manyOf 30 = .ok (.iload 4, 2) := by decide +kernel
theorem dX12_manyOf_32 : decode cX12_manyOf 32 = .ok (.iaload, 1) := by decide +kernel
theorem dX12_manyOf_33 : decode cX12_manyOf 33 = .ok (.iload_n 2, 1) := by decide +kernel
theorem dX12_manyOf_34 : decode cX12_manyOf 34 = .ok (.if_icmp .gt 7, 3) := by decide +kernel
theorem dX12_manyOf_37 : decode cX12_manyOf 37 = .ok (.iconst 1, 1) := by decide +kernel
theorem dX12_manyOf_38 : decode cX12_manyOf 38 = .ok (.goto 4, 3) := by decide +kernel
theorem dX12_manyOf_41 : decode cX12_manyOf 41 = .ok (.iconst 0, 1) := by decide +kernel
theorem dX12_manyOf_42 : decode cX12_manyOf 42 = .ok (.iadd, 1) := by decide +kernel
theorem dX12_manyOf_43 : decode cX12_manyOf 43 = .ok (.istore_n 3, 1) := by decide +kernel
theorem dX12_manyOf_44 : decode cX12_manyOf 44 = .ok (.iinc 4 1, 3) := by decide +kernel
theorem dX12_manyOf_47 : decode cX12_manyOf 47 = .ok (.goto (-42), 3) := by decide +kernel
theorem dX12_manyOf_50 : decode cX12_manyOf 50 = .ok (.iload_n 3, 1) := by decide +kernel
theorem dX12_manyOf_51 : decode cX12_manyOf 51 = .ok (.ireturn, 1) := by decide +kernel
theorem dX12_isOne_0 : decode cX12_isOne 0 = .ok (.aload_n 0, 1) := by decide +kernel
theorem dX12_isOne_1 : decode cX12_isOne 1 = .ok (.iload_n 1, 1) := by decide +kernel
theorem dX12_isOne_2 : decode cX12_isOne 2 = .ok (.iload_n 2, 1) := by decide +kernel
theorem dX12_isOne_3 : decode cX12_isOne 3 = .ok (.invokevirtual 406, 3) := by decide +kernel
theorem dX12_isOne_6 : decode cX12_isOne 6 = .ok (.istore 5, 2) := by decide +kernel
theorem dX12_isOne_8 : decode cX12_isOne 8 = .ok (.iconst 0, 1) := by decide +kernel
theorem dX12_isOne_9 : decode cX12_isOne 9 = .ok (.istore 6, 2) := by decide +kernel
theorem dX12_isOne_11 : decode cX12_isOne 11 = .ok (.iload 6, 2) := by decide +kernel
theorem dX12_isOne_13 : decode cX12_isOne 13 = .ok (.aload_n 0, 1) := by decide +kernel
theorem dX12_isOne_14 : decode cX12_isOne 14 = .ok (.getfield 397, 3) := by decide +kernel
theorem dX12_isOne_17 : decode cX12_isOne 17 = .ok (.if_icmp .ge 54, 3) := by decide +kernel
theorem dX12_isOne_20 : decode cX12_isOne 20 = .ok (.aload_n 0, 1) := by decide +kernel
theorem dX12_isOne_21 : decode cX12_isOne 21 = .ok (.getfield 96, 3) := by decide +kernel
theorem dX12_isOne_24 : decode cX12_isOne 24 = .ok (.iload 6, 2) := by decide +kernel
theorem dX12_isOne_26 : decode cX12_isOne 26 = .ok (.iaload, 1) := by decide +kernel
theorem dX12_isOne_27 : decode cX12_isOne 27 = .ok (.iload_n 1, 1) := by decide +kernel
theorem dX12_isOne_28 : decode cX12_isOne 28 = .ok (.if_icmp .ne 37, 3) := by decide +kernel
theorem dX12_isOne_31 : decode cX12_isOne 31 = .ok (.aload_n 0, 1) := by decide +kernel
theorem dX12_isOne_32 : decode cX12_isOne 32 = .ok (.getfield 90, 3) := by decide +kernel
theorem dX12_isOne_35 : decode cX12_isOne 35 = .ok (.iload 6, 2) := by decide +kernel
theorem dX12_isOne_37 : decode cX12_isOne 37 = .ok (.iaload, 1) := by decide +kernel
theorem dX12_isOne_38 : decode cX12_isOne 38 = .ok (.iload_n 2, 1) := by decide +kernel
theorem dX12_isOne_39 : decode cX12_isOne 39 = .ok (.if_icmp .gt 26, 3) := by decide +kernel
theorem dX12_isOne_42 : decode cX12_isOne 42 = .ok (.aload_n 0, 1) := by decide +kernel
theorem dX12_isOne_43 : decode cX12_isOne 43 = .ok (.iload_n 1, 1) := by decide +kernel
theorem dX12_isOne_44 : decode cX12_isOne 44 = .ok (.iload_n 2, 1) := by decide +kernel
theorem dX12_isOne_45 : decode cX12_isOne 45 = .ok (.iload_n 3, 1) := by decide +kernel
theorem dX12_isOne_46 : decode cX12_isOne 46 = .ok (.aload_n 0, 1) := by decide +kernel
theorem dX12_isOne_47 : decode cX12_isOne 47 = .ok (.iload 6, 2) := by decide +kernel
theorem dX12_isOne_49 : decode cX12_isOne 49 = .ok (.iload_n 3, 1) := by decide +kernel
theorem dX12_isOne_50 : decode cX12_isOne 50 = .ok (.invokevirtual 402, 3) := by decide +kernel
theorem dX12_isOne_53 : decode cX12_isOne 53 = .ok (.iload 4, 2) := by decide +kernel
theorem dX12_isOne_55 : decode cX12_isOne 55 = .ok (.invokevirtual 409, 3) := by decide +kernel
theorem dX12_isOne_58 : decode cX12_isOne 58 = .ok (.iload 5, 2) := by decide +kernel
theorem dX12_isOne_60 : decode cX12_isOne 60 = .ok (.if_icmp .ne 5, 3) := by decide +kernel
theorem dX12_isOne_63 : decode cX12_isOne 63 = .ok (.iconst 1, 1) := by decide +kernel
theorem dX12_isOne_64 : decode cX12_isOne 64 = .ok (.ireturn, 1) := by decide +kernel
theorem dX12_isOne_65 : decode cX12_isOne 65 = .ok (.iinc 6 1, 3) := by decide +kernel
theorem dX12_isOne_68 : decode cX12_isOne 68 = .ok (.goto (-57), 3) := by decide +kernel
theorem dX12_isOne_71 : decode cX12_isOne 71 = .ok (.iconst 0, 1) := by decide +kernel
theorem dX12_isOne_72 : decode cX12_isOne 72 = .ok (.ireturn, 1) := by decide +kernel
theorem dX12_oneBits_0 : decode cX12_oneBits 0 = .ok (.aload_n 0, 1) := by decide +kernel
theorem dX12_oneBits_1 : decode cX12_oneBits 1 = .ok (.iload_n 1, 1) := by decide +kernel
theorem dX12_oneBits_2 : decode cX12_oneBits 2 = .ok (.iload_n 2, 1) := by decide +kernel
theorem dX12_oneBits_3 : decode cX12_oneBits 3 = .ok (.iconst 1, 1) := by decide +kernel
theorem dX12_oneBits_4 : decode cX12_oneBits 4 = .ok (.iload_n 3, 1) := by decide +kernel
theorem dX12_oneBits_5 : decode cX12_oneBits 5 = .ok (.invokevirtual 413, 3) := by decide +kernel
theorem dX12_oneBits_8 : decode cX12_oneBits 8 = .ok (.ifCond .eq 7, 3) := by decide +kernel
theorem dX12_oneBits_11 : decode cX12_oneBits 11 = .ok (.iconst 1, 1) := by decide +kernel
theorem dX12_oneBits_12 : decode cX12_oneBits 12 = .ok (.goto 4, 3) := by decide +kernel
theorem dX12_oneBits_15 : decode cX12_oneBits 15 = .ok (.iconst 0, 1) := by decide +kernel
theorem dX12_oneBits_16 : decode cX12_oneBits 16 = .ok (.aload_n 0, 1) := by decide +kernel
theorem dX12_oneBits_17 : decode cX12_oneBits 17 = .ok (.iload_n 1, 1) := by decide +kernel
theorem dX12_oneBits_18 : decode cX12_oneBits 18 = .ok (.iload_n 2, 1) := by decide +kernel
theorem dX12_oneBits_19 : decode cX12_oneBits 19 = .ok (.iconst 0, 1) := by decide +kernel
theorem dX12_oneBits_20 : decode cX12_oneBits 20 = .ok (.iload_n 3, 1) := by decide +kernel
theorem dX12_oneBits_21 : decode cX12_oneBits 21 = .ok (.invokevirtual 413, 3) := by decide +kernel
theorem dX12_oneBits_24 : decode cX12_oneBits 24 = .ok (.ifCond .eq 7, 3) := by decide +kernel
theorem dX12_oneBits_27 : decode cX12_oneBits 27 = .ok (.iconst 2, 1) := by decide +kernel
theorem dX12_oneBits_28 : decode cX12_oneBits 28 = .ok (.goto 4, 3) := by decide +kernel
theorem dX12_oneBits_31 : decode cX12_oneBits 31 = .ok (.iconst 0, 1) := by decide +kernel
theorem dX12_oneBits_32 : decode cX12_oneBits 32 = .ok (.iadd, 1) := by decide +kernel
theorem dX12_oneBits_33 : decode cX12_oneBits 33 = .ok (.ireturn, 1) := by decide +kernel
theorem dX12_one_0 : decode cX12_one 0 = .ok (.iload_n 1, 1) := by decide +kernel
theorem dX12_one_1 : decode cX12_one 1 = .ok (.invokestatic 417, 3) := by decide +kernel
theorem dX12_one_4 : decode cX12_one 4 = .ok (.ifCond .eq 34, 3) := by decide +kernel
theorem dX12_one_7 : decode cX12_one 7 = .ok (.iload_n 2, 1) := by decide +kernel
theorem dX12_one_8 : decode cX12_one 8 = .ok (.invokestatic 420, 3) := by decide +kernel
theorem dX12_one_11 : decode cX12_one 11 = .ok (.ifCond .eq 27, 3) := by decide +kernel
theorem dX12_one_14 : decode cX12_one 14 = .ok (.aload_n 0, 1) := by decide +kernel
theorem dX12_one_15 : decode cX12_one 15 = .ok (.iload_n 1, 1) := by decide +kernel
theorem dX12_one_16 : decode cX12_one 16 = .ok (.sipush 400, 3) := by decide +kernel
theorem dX12_one_19 : decode cX12_one 19 = .ok (.invokevirtual 406, 3) := by decide +kernel
theorem dX12_one_22 : decode cX12_one 22 = .ok (.iconst 1, 1) := by decide +kernel
theorem dX12_one_23 : decode cX12_one 23 = .ok (.if_icmp .le 15, 3) := by decide +kernel
theorem dX12_one_26 : decode cX12_one 26 = .ok (.aload_n 0, 1) := by decide +kernel
theorem dX12_one_27 : decode cX12_one 27 = .ok (.iload_n 1, 1) := by decide +kernel
theorem dX12_one_28 : decode cX12_one 28 = .ok (.sipush 400, 3) := by decide +kernel
theorem dX12_one_31 : decode cX12_one 31 = .ok (.iload_n 2, 1) := by decide +kernel
theorem dX12_one_32 : decode cX12_one 32 = .ok (.invokevirtual 423, 3) := by decide +kernel
theorem dX12_one_35 : decode cX12_one 35 = .ok (.goto 4, 3) := by decide +kernel
theorem dX12_one_38 : decode cX12_one 38 = .ok (.iconst (-1), 1) := by decide +kernel
theorem dX12_one_39 : decode cX12_one 39 = .ok (.ireturn, 1) := by decide +kernel
theorem dX12_known_0 : decode cX12_known 0 = .ok (.iload_n 1, 1) := by decide +kernel
theorem dX12_known_1 : decode cX12_known 1 = .ok (.invokestatic 417, 3) := by decide +kernel
theorem dX12_known_4 : decode cX12_known 4 = .ok (.ifCond .eq 10, 3) := by decide +kernel
theorem dX12_known_7 : decode cX12_known 7 = .ok (.iload_n 2, 1) := by decide +kernel
theorem dX12_known_8 : decode cX12_known 8 = .ok (.invokestatic 420, 3) := by decide +kernel
theorem dX12_known_11 : decode cX12_known 11 = .ok (.ifCond .ne 5, 3) := by decide +kernel
theorem dX12_known_14 : decode cX12_known 14 = .ok (.iconst (-1), 1) := by decide +kernel
theorem dX12_known_15 : decode cX12_known 15 = .ok (.ireturn, 1) := by decide +kernel
theorem dX12_known_16 : decode cX12_known 16 = .ok (.iconst 0, 1) := by decide +kernel
theorem dX12_known_17 : decode cX12_known 17 = .ok (.istore_n 3, 1) := by decide +kernel
theorem dX12_known_18 : decode cX12_known 18 = .ok (.iload_n 3, 1) := by decide +kernel
theorem dX12_known_19 : decode cX12_known 19 = .ok (.aload_n 0, 1) := by decide +kernel
theorem dX12_known_20 : decode cX12_known 20 = .ok (.getfield 397, 3) := by decide +kernel
theorem dX12_known_23 : decode cX12_known 23 = .ok (.if_icmp .ge 70, 3) := by decide +kernel
theorem dX12_known_26 : decode cX12_known 26 = .ok (.aload_n 0, 1) := by decide +kernel
theorem dX12_known_27 : decode cX12_known 27 = .ok (.getfield 96, 3) := by decide +kernel
theorem dX12_known_30 : decode cX12_known 30 = .ok (.iload_n 3, 1) := by decide +kernel
theorem dX12_known_31 : decode cX12_known 31 = .ok (.iaload, 1) := by decide +kernel
theorem dX12_known_32 : decode cX12_known 32 = .ok (.iload_n 1, 1) := by decide +kernel
theorem dX12_known_33 : decode cX12_known 33 = .ok (.if_icmp .ne 54, 3) := by decide +kernel
theorem dX12_known_36 : decode cX12_known 36 = .ok (.aload_n 0, 1) := by decide +kernel
theorem dX12_known_37 : decode cX12_known 37 = .ok (.iload_n 1, 1) := by decide +kernel
theorem dX12_known_38 : decode cX12_known 38 = .ok (.aload_n 0, 1) := by decide +kernel
theorem dX12_known_39 : decode cX12_known 39 = .ok (.getfield 90, 3) := by decide +kernel
theorem dX12_known_42 : decode cX12_known 42 = .ok (.iload_n 3, 1) := by decide +kernel
theorem dX12_known_43 : decode cX12_known 43 = .ok (.iaload, 1) := by decide +kernel
theorem dX12_known_44 : decode cX12_known 44 = .ok (.invokevirtual 406, 3) := by decide +kernel
theorem dX12_known_47 : decode cX12_known 47 = .ok (.iconst 2, 1) := by decide +kernel
theorem dX12_known_48 : decode cX12_known 48 = .ok (.if_icmp .ge 6, 3) := by decide +kernel
theorem dX12_known_51 : decode cX12_known 51 = .ok (.goto 36, 3) := by decide +kernel
theorem dX12_known_54 : decode cX12_known 54 = .ok (.aload_n 0, 1) := by decide +kernel
theorem dX12_known_55 : decode cX12_known 55 = .ok (.iload_n 1, 1) := by decide +kernel
theorem dX12_known_56 : decode cX12_known 56 = .ok (.aload_n 0, 1) := by decide +kernel
theorem dX12_known_57 : decode cX12_known 57 = .ok (.getfield 90, 3) := by decide +kernel
theorem dX12_known_60 : decode cX12_known 60 = .ok (.iload_n 3, 1) := by decide +kernel
theorem dX12_known_61 : decode cX12_known 61 = .ok (.iaload, 1) := by decide +kernel
theorem dX12_known_62 : decode cX12_known 62 = .ok (.iload_n 2, 1) := by decide +kernel
theorem dX12_known_63 : decode cX12_known 63 = .ok (.invokevirtual 423, 3) := by decide +kernel
theorem dX12_known_66 : decode cX12_known 66 = .ok (.istore 4, 2) := by decide +kernel
theorem dX12_known_68 : decode cX12_known 68 = .ok (.iload 4, 2) := by decide +kernel
theorem dX12_known_70 : decode cX12_known 70 = .ok (.iconst 1, 1) := by decide +kernel
theorem dX12_known_71 : decode cX12_known 71 = .ok (.if_icmp .eq 9, 3) := by decide +kernel
theorem dX12_known_74 : decode cX12_known 74 = .ok (.iload 4, 2) := by decide +kernel
theorem dX12_known_76 : decode cX12_known 76 = .ok (.iconst 2, 1) := by decide +kernel
theorem dX12_known_77 : decode cX12_known 77 = .ok (.if_icmp .ne 10, 3) := by decide +kernel
theorem dX12_known_80 : decode cX12_known 80 = .ok (.aload_n 0, 1) := by decide +kernel
theorem dX12_known_81 : decode cX12_known 81 = .ok (.getfield 90, 3) := by decide +kernel
theorem dX12_known_84 : decode cX12_known 84 = .ok (.iload_n 3, 1) := by decide +kernel
theorem dX12_known_85 : decode cX12_known 85 = .ok (.iaload, 1) := by decide +kernel
theorem dX12_known_86 : decode cX12_known 86 = .ok (.ireturn, 1) := by decide +kernel
theorem dX12_known_87 : decode cX12_known 87 = .ok (.iinc 3 1, 3) := by decide +kernel
theorem dX12_known_90 : decode cX12_known 90 = .ok (.goto (-72), 3) := by decide +kernel
theorem dX12_known_93 : decode cX12_known 93 = .ok (.iconst (-1), 1) := by decide +kernel
theorem dX12_known_94 : decode cX12_known 94 = .ok (.ireturn, 1) := by decide +kernel
theorem dX12_row_0 : decode cX12_row 0 = .ok (.iload_n 1, 1) := by decide +kernel
theorem dX12_row_1 : decode cX12_row 1 = .ok (.invokestatic 417, 3) := by decide +kernel
theorem dX12_row_4 : decode cX12_row 4 = .ok (.ifCond .eq 31, 3) := by decide +kernel
theorem dX12_row_7 : decode cX12_row 7 = .ok (.iload_n 2, 1) := by decide +kernel
theorem dX12_row_8 : decode cX12_row 8 = .ok (.invokestatic 420, 3) := by decide +kernel
theorem dX12_row_11 : decode cX12_row 11 = .ok (.ifCond .eq 24, 3) := by decide +kernel
theorem dX12_row_14 : decode cX12_row 14 = .ok (.iload_n 3, 1) := by decide +kernel
theorem dX12_row_15 : decode cX12_row 15 = .ok (.i2l, 1) := by decide +kernel
theorem dX12_row_16 : decode cX12_row 16 = .ok (.lconst 0, 1) := by decide +kernel
theorem dX12_row_17 : decode cX12_row 17 = .ok (.lconst 1, 1) := by decide +kernel
theorem dX12_row_18 : decode cX12_row 18 = .ok (.invokestatic 159, 3) := by decide +kernel
theorem dX12_row_21 : decode cX12_row 21 = .ok (.ifCond .eq 14, 3) := by decide +kernel
theorem dX12_row_24 : decode cX12_row 24 = .ok (.aload_n 0, 1) := by decide +kernel
theorem dX12_row_25 : decode cX12_row 25 = .ok (.iload_n 1, 1) := by decide +kernel
theorem dX12_row_26 : decode cX12_row 26 = .ok (.sipush 400, 3) := by decide +kernel
theorem dX12_row_29 : decode cX12_row 29 = .ok (.invokevirtual 406, 3) := by decide +kernel
theorem dX12_row_32 : decode cX12_row 32 = .ok (.ifCond .ne 5, 3) := by decide +kernel
theorem dX12_row_35 : decode cX12_row 35 = .ok (.iconst (-1), 1) := by decide +kernel
theorem dX12_row_36 : decode cX12_row 36 = .ok (.ireturn, 1) := by decide +kernel
theorem dX12_row_37 : decode cX12_row 37 = .ok (.iconst 0, 1) := by decide +kernel
theorem dX12_row_38 : decode cX12_row 38 = .ok (.istore 4, 2) := by decide +kernel
theorem dX12_row_40 : decode cX12_row 40 = .ok (.iconst 0, 1) := by decide +kernel
theorem dX12_row_41 : decode cX12_row 41 = .ok (.istore 5, 2) := by decide +kernel
theorem dX12_row_43 : decode cX12_row 43 = .ok (.iconst 0, 1) := by decide +kernel
theorem dX12_row_44 : decode cX12_row 44 = .ok (.istore 6, 2) := by decide +kernel
theorem dX12_row_46 : decode cX12_row 46 = .ok (.iload 6, 2) := by decide +kernel
theorem dX12_row_48 : decode cX12_row 48 = .ok (.aload_n 0, 1) := by decide +kernel
theorem dX12_row_49 : decode cX12_row 49 = .ok (.getfield 397, 3) := by decide +kernel
theorem dX12_row_52 : decode cX12_row 52 = .ok (.if_icmp .ge 78, 3) := by decide +kernel
theorem dX12_row_55 : decode cX12_row 55 = .ok (.aload_n 0, 1) := by decide +kernel
theorem dX12_row_56 : decode cX12_row 56 = .ok (.getfield 96, 3) := by decide +kernel
theorem dX12_row_59 : decode cX12_row 59 = .ok (.iload 6, 2) := by decide +kernel
theorem dX12_row_61 : decode cX12_row 61 = .ok (.iaload, 1) := by decide +kernel
theorem dX12_row_62 : decode cX12_row 62 = .ok (.iload_n 1, 1) := by decide +kernel
theorem dX12_row_63 : decode cX12_row 63 = .ok (.if_icmp .eq 6, 3) := by decide +kernel
theorem dX12_row_66 : decode cX12_row 66 = .ok (.goto 58, 3) := by decide +kernel
theorem dX12_row_69 : decode cX12_row 69 = .ok (.aload_n 0, 1) := by decide +kernel
theorem dX12_row_70 : decode cX12_row 70 = .ok (.iload 6, 2) := by decide +kernel
theorem dX12_row_72 : decode cX12_row 72 = .ok (.iconst 1, 1) := by decide +kernel
theorem dX12_row_73 : decode cX12_row 73 = .ok (.invokevirtual 402, 3) := by decide +kernel
theorem dX12_row_76 : decode cX12_row 76 = .ok (.istore 7, 2) := by decide +kernel
theorem dX12_row_78 : decode cX12_row 78 = .ok (.aload_n 0, 1) := by decide +kernel
theorem dX12_row_79 : decode cX12_row 79 = .ok (.iload_n 1, 1) := by decide +kernel
theorem dX12_row_80 : decode cX12_row 80 = .ok (.sipush 400, 3) := by decide +kernel
theorem dX12_row_83 : decode cX12_row 83 = .ok (.iconst 1, 1) := by decide +kernel
theorem dX12_row_84 : decode cX12_row 84 = .ok (.iload 7, 2) := by decide +kernel
theorem dX12_row_86 : decode cX12_row 86 = .ok (.iload_n 2, 1) := by decide +kernel
theorem dX12_row_87 : decode cX12_row 87 = .ok (.invokevirtual 409, 3) := by decide +kernel
theorem dX12_row_90 : decode cX12_row 90 = .ok (.istore 8, 2) := by decide +kernel
theorem dX12_row_92 : decode cX12_row 92 = .ok (.iload 8, 2) := by decide +kernel
theorem dX12_row_94 : decode cX12_row 94 = .ok (.iload 4, 2) := by decide +kernel
theorem dX12_row_96 : decode cX12_row 96 = .ok (.if_icmp .lt 28, 3) := by decide +kernel
theorem dX12_row_99 : decode cX12_row 99 = .ok (.iload 8, 2) := by decide +kernel
theorem dX12_row_101 : decode cX12_row 101 = .ok (.iload 4, 2) := by decide +kernel
theorem dX12_row_103 : decode cX12_row 103 = .ok (.if_icmp .ne 13, 3) := by decide +kernel
theorem dX12_row_106 : decode cX12_row 106 = .ok (.iload 7, 2) := by decide +kernel
theorem dX12_row_108 : decode cX12_row 108 = .ok (.iload 5, 2) := by decide +kernel
theorem dX12_row_110 : decode cX12_row 110 = .ok (.if_icmp .lt 6, 3) := by decide +kernel
theorem dX12_row_113 : decode cX12_row 113 = .ok (.goto 11, 3) := by decide +kernel
theorem dX12_row_116 : decode cX12_row 116 = .ok (.iload 8, 2) := by decide +kernel
theorem dX12_row_118 : decode cX12_row 118 = .ok (.istore 4, 2) := by decide +kernel
theorem dX12_row_120 : decode cX12_row 120 = .ok (.iload 7, 2) := by decide +kernel
theorem dX12_row_122 : decode cX12_row 122 = .ok (.istore 5, 2) := by decide +kernel
theorem dX12_row_124 : decode cX12_row 124 = .ok (.iinc 6 1, 3) := by decide +kernel
theorem dX12_row_127 : decode cX12_row 127 = .ok (.goto (-81), 3) := by decide +kernel
theorem dX12_row_130 : decode cX12_row 130 = .ok (.iload_n 3, 1) := by decide +kernel
theorem dX12_row_131 : decode cX12_row 131 = .ok (.ifCond .ne 8, 3) := by decide +kernel
theorem dX12_row_134 : decode cX12_row 134 = .ok (.iload 4, 2) := by decide +kernel
theorem dX12_row_136 : decode cX12_row 136 = .ok (.goto 5, 3) := by decide +kernel
theorem dX12_row_139 : decode cX12_row 139 = .ok (.iload 5, 2) := by decide +kernel
theorem dX12_row_141 : decode cX12_row 141 = .ok (.ireturn, 1) := by decide +kernel
theorem dX12_blip_0 : decode cX12_blip 0 = .ok (.aload_n 0, 1) := by decide +kernel
theorem dX12_blip_1 : decode cX12_blip 1 = .ok (.getfield 426, 3) := by decide +kernel
theorem dX12_blip_4 : decode cX12_blip 4 = .ok (.bipush 40, 2) := by decide +kernel
theorem dX12_blip_6 : decode cX12_blip 6 = .ok (.if_icmp .eq 37, 3) := by decide +kernel
theorem dX12_blip_9 : decode cX12_blip 9 = .ok (.iload_n 1, 1) := by decide +kernel
theorem dX12_blip_10 : decode cX12_blip 10 = .ok (.i2l, 1) := by decide +kernel
theorem dX12_blip_11 : decode cX12_blip 11 = .ok (.lconst 0, 1) := by decide +kernel
theorem dX12_blip_12 : decode cX12_blip 12 = .ok (.ldc2_w 429, 3) := by decide +kernel
theorem dX12_blip_15 : decode cX12_blip 15 = .ok (.invokestatic 159, 3) := by decide +kernel
theorem dX12_blip_18 : decode cX12_blip 18 = .ok (.ifCond .eq 25, 3) := by decide +kernel
theorem dX12_blip_21 : decode cX12_blip 21 = .ok (.aload_n 0, 1) := by decide +kernel
theorem dX12_blip_22 : decode cX12_blip 22 = .ok (.getfield 426, 3) := by decide +kernel
theorem dX12_blip_25 : decode cX12_blip 25 = .ok (.ifCond .le 20, 3) := by decide +kernel
theorem dX12_blip_28 : decode cX12_blip 28 = .ok (.iload_n 1, 1) := by decide +kernel
theorem dX12_blip_29 : decode cX12_blip 29 = .ok (.aload_n 0, 1) := by decide +kernel
theorem dX12_blip_30 : decode cX12_blip 30 = .ok (.getfield 99, 3) := by decide +kernel
theorem dX12_blip_33 : decode cX12_blip 33 = .ok (.aload_n 0, 1) := by decide +kernel
theorem dX12_blip_34 : decode cX12_blip 34 = .ok (.getfield 426, 3) := by decide +kernel
theorem dX12_blip_37 : decode cX12_blip 37 = .ok (.iconst 1, 1) := by decide +kernel
theorem dX12_blip_38 : decode cX12_blip 38 = .ok (.isub, 1) := by decide +kernel
theorem dX12_blip_39 : decode cX12_blip 39 = .ok (.iaload, 1) := by decide +kernel
theorem dX12_blip_40 : decode cX12_blip 40 = .ok (.if_icmp .gt 5, 3) := by decide +kernel
theorem dX12_blip_43 : decode cX12_blip 43 = .ok (.iconst (-1), 1) := by decide +kernel
theorem dX12_blip_44 : decode cX12_blip 44 = .ok (.ireturn, 1) := by decide +kernel
theorem dX12_blip_45 : decode cX12_blip 45 = .ok (.aload_n 0, 1) := by decide +kernel
theorem dX12_blip_46 : decode cX12_blip 46 = .ok (.getfield 99, 3) := by decide +kernel
theorem dX12_blip_49 : decode cX12_blip 49 = .ok (.aload_n 0, 1) := by decide +kernel
theorem dX12_blip_50 : decode cX12_blip 50 = .ok (.getfield 426, 3) := by decide +kernel
theorem dX12_blip_53 : decode cX12_blip 53 = .ok (.iload_n 1, 1) := by decide +kernel
theorem dX12_blip_54 : decode cX12_blip 54 = .ok (.iastore, 1) := by decide +kernel
theorem dX12_blip_55 : decode cX12_blip 55 = .ok (.aload_n 0, 1) := by decide +kernel
theorem dX12_blip_56 : decode cX12_blip 56 = .ok (.dup, 1) := by decide +kernel
theorem dX12_blip_57 : decode cX12_blip 57 = .ok (.getfield 426, 3) := by decide +kernel
theorem dX12_blip_60 : decode cX12_blip 60 = .ok (.iconst 1, 1) := by decide +kernel
theorem dX12_blip_61 : decode cX12_blip 61 = .ok (.iadd, 1) := by decide +kernel
theorem dX12_blip_62 : decode cX12_blip 62 = .ok (.putfield 426, 3) := by decide +kernel
theorem dX12_blip_65 : decode cX12_blip 65 = .ok (.aload_n 0, 1) := by decide +kernel
theorem dX12_blip_66 : decode cX12_blip 66 = .ok (.getfield 426, 3) := by decide +kernel
theorem dX12_blip_69 : decode cX12_blip 69 = .ok (.iconst 1, 1) := by decide +kernel
theorem dX12_blip_70 : decode cX12_blip 70 = .ok (.isub, 1) := by decide +kernel
theorem dX12_blip_71 : decode cX12_blip 71 = .ok (.ireturn, 1) := by decide +kernel
theorem dX12_isFit_0 : decode cX12_isFit 0 = .ok (.iconst 0, 1) := by decide +kernel
theorem dX12_isFit_1 : decode cX12_isFit 1 = .ok (.istore_n 3, 1) := by decide +kernel
theorem dX12_isFit_2 : decode cX12_isFit 2 = .ok (.iload_n 3, 1) := by decide +kernel
theorem dX12_isFit_3 : decode cX12_isFit 3 = .ok (.aload_n 0, 1) := by decide +kernel
theorem dX12_isFit_4 : decode cX12_isFit 4 = .ok (.getfield 426, 3) := by decide +kernel
theorem dX12_isFit_7 : decode cX12_isFit 7 = .ok (.if_icmp .ge 79, 3) := by decide +kernel
theorem dX12_isFit_10 : decode cX12_isFit 10 = .ok (.iconst 0, 1) := by decide +kernel
theorem dX12_isFit_11 : decode cX12_isFit 11 = .ok (.istore 4, 2) := by decide +kernel
theorem dX12_isFit_13 : decode cX12_isFit 13 = .ok (.iconst 0, 1) := by decide +kernel
theorem dX12_isFit_14 : decode cX12_isFit 14 = .ok (.istore 5, 2) := by decide +kernel
theorem dX12_isFit_16 : decode cX12_isFit 16 = .ok (.iload 5, 2) := by decide +kernel
theorem dX12_isFit_18 : decode cX12_isFit 18 = .ok (.aload_n 0, 1) := by decide +kernel
theorem dX12_isFit_19 : decode cX12_isFit 19 = .ok (.getfield 426, 3) := by decide +kernel
theorem dX12_isFit_22 : decode cX12_isFit 22 = .ok (.if_icmp .ge 47, 3) := by decide +kernel
theorem dX12_isFit_25 : decode cX12_isFit 25 = .ok (.iload 4, 2) := by decide +kernel
theorem dX12_isFit_27 : decode cX12_isFit 27 = .ok (.aload_n 0, 1) := by decide +kernel
theorem dX12_isFit_28 : decode cX12_isFit 28 = .ok (.getfield 99, 3) := by decide +kernel
theorem dX12_isFit_31 : decode cX12_isFit 31 = .ok (.iload 5, 2) := by decide +kernel
theorem dX12_isFit_33 : decode cX12_isFit 33 = .ok (.iaload, 1) := by decide +kernel
theorem dX12_isFit_34 : decode cX12_isFit 34 = .ok (.iload_n 1, 1) := by decide +kernel
theorem dX12_isFit_35 : decode cX12_isFit 35 = .ok (.irem, 1) := by decide +kernel
theorem dX12_isFit_36 : decode cX12_isFit 36 = .ok (.aload_n 0, 1) := by decide +kernel
theorem dX12_isFit_37 : decode cX12_isFit 37 = .ok (.getfield 99, 3) := by decide +kernel
theorem dX12_isFit_40 : decode cX12_isFit 40 = .ok (.iload_n 3, 1) := by decide +kernel
theorem dX12_isFit_41 : decode cX12_isFit 41 = .ok (.iaload, 1) := by decide +kernel
theorem dX12_isFit_42 : decode cX12_isFit 42 = .ok (.iload_n 1, 1) := by decide +kernel
theorem dX12_isFit_43 : decode cX12_isFit 43 = .ok (.irem, 1) := by decide +kernel
theorem dX12_isFit_44 : decode cX12_isFit 44 = .ok (.isub, 1) := by decide +kernel
theorem dX12_isFit_45 : decode cX12_isFit 45 = .ok (.iload_n 1, 1) := by decide +kernel
theorem dX12_isFit_46 : decode cX12_isFit 46 = .ok (.iadd, 1) := by decide +kernel
theorem dX12_isFit_47 : decode cX12_isFit 47 = .ok (.iload_n 1, 1) := by decide +kernel
theorem dX12_isFit_48 : decode cX12_isFit 48 = .ok (.irem, 1) := by decide +kernel
theorem dX12_isFit_49 : decode cX12_isFit 49 = .ok (.iconst 2, 1) := by decide +kernel
theorem dX12_isFit_50 : decode cX12_isFit 50 = .ok (.iload_n 2, 1) := by decide +kernel
theorem dX12_isFit_51 : decode cX12_isFit 51 = .ok (.imul, 1) := by decide +kernel
theorem dX12_isFit_52 : decode cX12_isFit 52 = .ok (.if_icmp .gt 7, 3) := by decide +kernel
theorem dX12_isFit_55 : decode cX12_isFit 55 = .ok (.iconst 1, 1) := by decide +kernel
theorem dX12_isFit_56 : decode cX12_isFit 56 = .ok (.goto 4, 3) := by decide +kernel
theorem dX12_isFit_59 : decode cX12_isFit 59 = .ok (.iconst 0, 1) := by decide +kernel
theorem dX12_isFit_60 : decode cX12_isFit 60 = .ok (.iadd, 1) := by decide +kernel
theorem dX12_isFit_61 : decode cX12_isFit 61 = .ok (.istore 4, 2) := by decide +kernel
theorem dX12_isFit_63 : decode cX12_isFit 63 = .ok (.iinc 5 1, 3) := by decide +kernel
theorem dX12_isFit_66 : decode cX12_isFit 66 = .ok (.goto (-50), 3) := by decide +kernel
theorem dX12_isFit_69 : decode cX12_isFit 69 = .ok (.iload 4, 2) := by decide +kernel
theorem dX12_isFit_71 : decode cX12_isFit 71 = .ok (.aload_n 0, 1) := by decide +kernel
theorem dX12_isFit_72 : decode cX12_isFit 72 = .ok (.getfield 426, 3) := by decide +kernel
theorem dX12_isFit_75 : decode cX12_isFit 75 = .ok (.if_icmp .ne 5, 3) := by decide +kernel
theorem dX12_isFit_78 : decode cX12_isFit 78 = .ok (.iconst 1, 1) := by decide +kernel
theorem dX12_isFit_79 : decode cX12_isFit 79 = .ok (.ireturn, 1) := by decide +kernel
theorem dX12_isFit_80 : decode cX12_isFit 80 = .ok (.iinc 3 1, 3) := by decide +kernel
theorem dX12_isFit_83 : decode cX12_isFit 83 = .ok (.goto (-81), 3) := by decide +kernel
theorem dX12_isFit_86 : decode cX12_isFit 86 = .ok (.iconst 0, 1) := by decide +kernel
theorem dX12_isFit_87 : decode cX12_isFit 87 = .ok (.ireturn, 1) := by decide +kernel
theorem dX12_isBeat_0 : decode cX12_isBeat 0 = .ok (.iload_n 0, 1) := by decide +kernel
theorem dX12_isBeat_1 : decode cX12_isBeat 1 = .ok (.i2l, 1) := by decide +kernel
theorem dX12_isBeat_2 : decode cX12_isBeat 2 = .ok (.lconst 1, 1) := by decide +kernel
theorem dX12_isBeat_3 : decode cX12_isBeat 3 = .ok (.ldc2_w 431, 3) := by decide +kernel
theorem dX12_isBeat_6 : decode cX12_isBeat 6 = .ok (.invokestatic 159, 3) := by decide +kernel
theorem dX12_isBeat_9 : decode cX12_isBeat 9 = .ok (.ireturn, 1) := by decide +kernel
theorem dX12_fits_0 : decode cX12_fits 0 = .ok (.iload_n 1, 1) := by decide +kernel
theorem dX12_fits_1 : decode cX12_fits 1 = .ok (.invokestatic 433, 3) := by decide +kernel
theorem dX12_fits_4 : decode cX12_fits 4 = .ok (.ifCond .eq 47, 3) := by decide +kernel
theorem dX12_fits_7 : decode cX12_fits 7 = .ok (.iload_n 2, 1) := by decide +kernel
theorem dX12_fits_8 : decode cX12_fits 8 = .ok (.i2l, 1) := by decide +kernel
theorem dX12_fits_9 : decode cX12_fits 9 = .ok (.lconst 0, 1) := by decide +kernel
theorem dX12_fits_10 : decode cX12_fits 10 = .ok (.ldc2_w 436, 3) := by decide +kernel
theorem dX12_fits_13 : decode cX12_fits 13 = .ok (.invokestatic 159, 3) := by decide +kernel
theorem dX12_fits_16 : decode cX12_fits 16 = .ok (.ifCond .eq 35, 3) := by decide +kernel
theorem dX12_fits_19 : decode cX12_fits 19 = .ok (.iconst 2, 1) := by decide +kernel
theorem dX12_fits_20 : decode cX12_fits 20 = .ok (.iload_n 2, 1) := by decide +kernel
theorem dX12_fits_21 : decode cX12_fits 21 = .ok (.imul, 1) := by decide +kernel
theorem dX12_fits_22 : decode cX12_fits 22 = .ok (.iload_n 1, 1) := by decide +kernel
theorem dX12_fits_23 : decode cX12_fits 23 = .ok (.if_icmp .ge 28, 3) := by decide +kernel
theorem dX12_fits_26 : decode cX12_fits 26 = .ok (.aload_n 0, 1) := by decide +kernel
theorem dX12_fits_27 : decode cX12_fits 27 = .ok (.getfield 426, 3) := by decide +kernel
theorem dX12_fits_30 : decode cX12_fits 30 = .ok (.iconst 1, 1) := by decide +kernel
theorem dX12_fits_31 : decode cX12_fits 31 = .ok (.if_icmp .le 20, 3) := by decide +kernel
theorem dX12_fits_34 : decode cX12_fits 34 = .ok (.aload_n 0, 1) := by decide +kernel
theorem dX12_fits_35 : decode cX12_fits 35 = .ok (.iload_n 1, 1) := by decide +kernel
theorem dX12_fits_36 : decode cX12_fits 36 = .ok (.iload_n 2, 1) := by decide +kernel
theorem dX12_fits_37 : decode cX12_fits 37 = .ok (.invokevirtual 438, 3) := by decide +kernel
theorem dX12_fits_40 : decode cX12_fits 40 = .ok (.ifCond .eq 7, 3) := by decide +kernel
theorem dX12_fits_43 : decode cX12_fits 43 = .ok (.iconst 1, 1) := by decide +kernel
theorem dX12_fits_44 : decode cX12_fits 44 = .ok (.goto 8, 3) := by decide +kernel
theorem dX12_fits_47 : decode cX12_fits 47 = .ok (.iconst 0, 1) := by decide +kernel
theorem dX12_fits_48 : decode cX12_fits 48 = .ok (.goto 4, 3) := by decide +kernel
theorem dX12_fits_51 : decode cX12_fits 51 = .ok (.iconst (-1), 1) := by decide +kernel
theorem dX12_fits_52 : decode cX12_fits 52 = .ok (.ireturn, 1) := by decide +kernel
theorem dX12_canBeat_0 : decode cX12_canBeat 0 = .ok (.iload_n 1, 1) := by decide +kernel
theorem dX12_canBeat_1 : decode cX12_canBeat 1 = .ok (.invokestatic 433, 3) := by decide +kernel
theorem dX12_canBeat_4 : decode cX12_canBeat 4 = .ok (.ifCond .eq 57, 3) := by decide +kernel
theorem dX12_canBeat_7 : decode cX12_canBeat 7 = .ok (.iload_n 2, 1) := by decide +kernel
theorem dX12_canBeat_8 : decode cX12_canBeat 8 = .ok (.invokestatic 433, 3) := by decide +kernel
theorem dX12_canBeat_11 : decode cX12_canBeat 11 = .ok (.ifCond .eq 50, 3) := by decide +kernel
theorem dX12_canBeat_14 : decode cX12_canBeat 14 = .ok (.iload_n 2, 1) := by decide +kernel
theorem dX12_canBeat_15 : decode cX12_canBeat 15 = .ok (.i2l, 1) := by decide +kernel
theorem dX12_canBeat_16 : decode cX12_canBeat 16 = .ok (.iload_n 1, 1) := by decide +kernel
theorem dX12_canBeat_17 : decode cX12_canBeat 17 = .ok (.i2l, 1) := by decide +kernel
theorem dX12_canBeat_18 : decode cX12_canBeat 18 = .ok (.iload_n 1, 1) := by decide +kernel
theorem dX12_canBeat_19 : decode cX12_canBeat 19 = .ok (.sipush 2000, 3) := by decide +kernel
theorem dX12_canBeat_22 : decode cX12_canBeat 22 = .ok (.iadd, 1) := by decide +kernel
theorem dX12_canBeat_23 : decode cX12_canBeat 23 = .ok (.i2l, 1) := by decide +kernel
theorem dX12_canBeat_24 : decode cX12_canBeat 24 = .ok (.invokestatic 159, 3) := by decide +kernel
theorem dX12_canBeat_27 : decode cX12_canBeat 27 = .ok (.ifCond .eq 34, 3) := by decide +kernel
theorem dX12_canBeat_30 : decode cX12_canBeat 30 = .ok (.iload_n 3, 1) := by decide +kernel
theorem dX12_canBeat_31 : decode cX12_canBeat 31 = .ok (.i2l, 1) := by decide +kernel
theorem dX12_canBeat_32 : decode cX12_canBeat 32 = .ok (.lconst 0, 1) := by decide +kernel
theorem dX12_canBeat_33 : decode cX12_canBeat 33 = .ok (.ldc2_w 436, 3) := by decide +kernel
theorem dX12_canBeat_36 : decode cX12_canBeat 36 = .ok (.invokestatic 159, 3) := by decide +kernel
theorem dX12_canBeat_39 : decode cX12_canBeat 39 = .ok (.ifCond .eq 22, 3) := by decide +kernel
theorem dX12_canBeat_42 : decode cX12_canBeat 42 = .ok (.iconst 2, 1) := by decide +kernel
theorem dX12_canBeat_43 : decode cX12_canBeat 43 = .ok (.iload_n 3, 1) := by decide +kernel
theorem dX12_canBeat_44 : decode cX12_canBeat 44 = .ok (.imul, 1) := by decide +kernel
theorem dX12_canBeat_45 : decode cX12_canBeat 45 = .ok (.iload_n 1, 1) := by decide +kernel
theorem dX12_canBeat_46 : decode cX12_canBeat 46 = .ok (.if_icmp .ge 15, 3) := by decide +kernel
theorem dX12_canBeat_49 : decode cX12_canBeat 49 = .ok (.aload_n 0, 1) := by decide +kernel
theorem dX12_canBeat_50 : decode cX12_canBeat 50 = .ok (.getfield 426, 3) := by decide +kernel
theorem dX12_canBeat_53 : decode cX12_canBeat 53 = .ok (.iconst 1, 1) := by decide +kernel
theorem dX12_canBeat_54 : decode cX12_canBeat 54 = .ok (.if_icmp .le 7, 3) := by decide +kernel
theorem dX12_canBeat_57 : decode cX12_canBeat 57 = .ok (.iconst 1, 1) := by decide +kernel
theorem dX12_canBeat_58 : decode cX12_canBeat 58 = .ok (.goto 4, 3) := by decide +kernel
theorem dX12_canBeat_61 : decode cX12_canBeat 61 = .ok (.iconst 0, 1) := by decide +kernel
theorem dX12_canBeat_62 : decode cX12_canBeat 62 = .ok (.ireturn, 1) := by decide +kernel
theorem dX12_fitsAll_0 : decode cX12_fitsAll 0 = .ok (.aload_n 0, 1) := by decide +kernel
theorem dX12_fitsAll_1 : decode cX12_fitsAll 1 = .ok (.iconst 0, 1) := by decide +kernel
theorem dX12_fitsAll_2 : decode cX12_fitsAll 2 = .ok (.putfield 441, 3) := by decide +kernel
theorem dX12_fitsAll_5 : decode cX12_fitsAll 5 = .ok (.aload_n 0, 1) := by decide +kernel
theorem dX12_fitsAll_6 : decode cX12_fitsAll 6 = .ok (.iconst (-1), 1) := by decide +kernel
theorem dX12_fitsAll_7 : decode cX12_fitsAll 7 = .ok (.putfield 444, 3) := by decide +kernel
theorem dX12_fitsAll_10 : decode cX12_fitsAll 10 = .ok (.aload_n 0, 1) := by decide +kernel
theorem dX12_fitsAll_11 : decode cX12_fitsAll 11 = .ok (.iconst (-1), 1) := by decide +kernel
theorem dX12_fitsAll_12 : decode cX12_fitsAll 12 = .ok (.putfield 447, 3) := by decide +kernel
theorem dX12_fitsAll_15 : decode cX12_fitsAll 15 = .ok (.iload_n 1, 1) := by decide +kernel
theorem dX12_fitsAll_16 : decode cX12_fitsAll 16 = .ok (.istore 4, 2) := by decide +kernel
theorem dX12_fitsAll_18 : decode cX12_fitsAll 18 = .ok (.iload 4, 2) := by decide +kernel
theorem dX12_fitsAll_20 : decode cX12_fitsAll 20 = .ok (.iload_n 2, 1) := by decide +kernel
theorem dX12_fitsAll_21 : decode cX12_fitsAll 21 = .ok (.if_icmp .gt 59, 3) := by decide +kernel
theorem dX12_fitsAll_24 : decode cX12_fitsAll 24 = .ok (.aload_n 0, 1) := by decide +kernel
theorem dX12_fitsAll_25 : decode cX12_fitsAll 25 = .ok (.iload 4, 2) := by decide +kernel
theorem dX12_fitsAll_27 : decode cX12_fitsAll 27 = .ok (.iload_n 3, 1) := by decide +kernel
theorem dX12_fitsAll_28 : decode cX12_fitsAll 28 = .ok (.invokevirtual 438, 3) := by decide +kernel
theorem dX12_fitsAll_31 : decode cX12_fitsAll 31 = .ok (.ifCond .ne 6, 3) := by decide +kernel
theorem dX12_fitsAll_34 : decode cX12_fitsAll 34 = .ok (.goto 40, 3) := by decide +kernel
theorem dX12_fitsAll_37 : decode cX12_fitsAll 37 = .ok (.aload_n 0, 1) := by decide +kernel
theorem dX12_fitsAll_38 : decode cX12_fitsAll 38 = .ok (.dup, 1) := by decide +kernel
theorem dX12_fitsAll_39 : decode cX12_fitsAll 39 = .ok (.getfield 441, 3) := by decide +kernel
theorem dX12_fitsAll_42 : decode cX12_fitsAll 42 = .ok (.iconst 1, 1) := by decide +kernel
theorem dX12_fitsAll_43 : decode cX12_fitsAll 43 = .ok (.iadd, 1) := by decide +kernel
theorem dX12_fitsAll_44 : decode cX12_fitsAll 44 = .ok (.putfield 441, 3) := by decide +kernel
theorem dX12_fitsAll_47 : decode cX12_fitsAll 47 = .ok (.aload_n 0, 1) := by decide +kernel
theorem dX12_fitsAll_48 : decode cX12_fitsAll 48 = .ok (.aload_n 0, 1) := by decide +kernel
theorem dX12_fitsAll_49 : decode cX12_fitsAll 49 = .ok (.getfield 444, 3) := by decide +kernel
theorem dX12_fitsAll_52 : decode cX12_fitsAll 52 = .ok (.iconst (-1), 1) := by decide +kernel
theorem dX12_fitsAll_53 : decode cX12_fitsAll 53 = .ok (.if_icmp .ne 8, 3) := by decide +kernel
theorem dX12_fitsAll_56 : decode cX12_fitsAll 56 = .ok (.iload 4, 2) := by decide +kernel
theorem dX12_fitsAll_58 : decode cX12_fitsAll 58 = .ok (.goto 7, 3) := by decide +kernel
theorem dX12_fitsAll_61 : decode cX12_fitsAll 61 = .ok (.aload_n 0, 1) := by decide +kernel
theorem dX12_fitsAll_62 : decode cX12_fitsAll 62 = .ok (.getfield 444, 3) := by decide +kernel
theorem dX12_fitsAll_65 : decode cX12_fitsAll 65 = .ok (.putfield 444, 3) := by decide +kernel
theorem dX12_fitsAll_68 : decode cX12_fitsAll 68 = .ok (.aload_n 0, 1) := by decide +kernel
theorem dX12_fitsAll_69 : decode cX12_fitsAll 69 = .ok (.iload 4, 2) := by decide +kernel
theorem dX12_fitsAll_71 : decode cX12_fitsAll 71 = .ok (.putfield 447, 3) := by decide +kernel
theorem dX12_fitsAll_74 : decode cX12_fitsAll 74 = .ok (.iinc 4 1, 3) := by decide +kernel
theorem dX12_fitsAll_77 : decode cX12_fitsAll 77 = .ok (.goto (-59), 3) := by decide +kernel
theorem dX12_fitsAll_80 : decode cX12_fitsAll 80 = .ok (.return_, 1) := by decide +kernel
theorem dX12_beats_0 : decode cX12_beats 0 = .ok (.aload_n 0, 1) := by decide +kernel
theorem dX12_beats_1 : decode cX12_beats 1 = .ok (.iload_n 1, 1) := by decide +kernel
theorem dX12_beats_2 : decode cX12_beats 2 = .ok (.iload_n 2, 1) := by decide +kernel
theorem dX12_beats_3 : decode cX12_beats 3 = .ok (.iload_n 3, 1) := by decide +kernel
theorem dX12_beats_4 : decode cX12_beats 4 = .ok (.invokevirtual 450, 3) := by decide +kernel
theorem dX12_beats_7 : decode cX12_beats 7 = .ok (.ifCond .eq 16, 3) := by decide +kernel
theorem dX12_beats_10 : decode cX12_beats 10 = .ok (.iload 4, 2) := by decide +kernel
theorem dX12_beats_12 : decode cX12_beats 12 = .ok (.i2l, 1) := by decide +kernel
theorem dX12_beats_13 : decode cX12_beats 13 = .ok (.lconst 0, 1) := by decide +kernel
theorem dX12_beats_14 : decode cX12_beats 14 = .ok (.ldc2_w 392, 3) := by decide +kernel
theorem dX12_beats_17 : decode cX12_beats 17 = .ok (.invokestatic 159, 3) := by decide +kernel
theorem dX12_beats_20 : decode cX12_beats 20 = .ok (.ifCond .ne 5, 3) := by decide +kernel
theorem dX12_beats_23 : decode cX12_beats 23 = .ok (.iconst (-1), 1) := by decide +kernel
theorem dX12_beats_24 : decode cX12_beats 24 = .ok (.ireturn, 1) := by decide +kernel
theorem dX12_beats_25 : decode cX12_beats 25 = .ok (.aload_n 0, 1) := by decide +kernel
theorem dX12_beats_26 : decode cX12_beats 26 = .ok (.iload_n 1, 1) := by decide +kernel
theorem dX12_beats_27 : decode cX12_beats 27 = .ok (.iload_n 2, 1) := by decide +kernel
theorem dX12_beats_28 : decode cX12_beats 28 = .ok (.iload_n 3, 1) := by decide +kernel
theorem dX12_beats_29 : decode cX12_beats 29 = .ok (.invokevirtual 453, 3) := by decide +kernel
theorem dX12_beats_32 : decode cX12_beats 32 = .ok (.iload 4, 2) := by decide +kernel
theorem dX12_beats_34 : decode cX12_beats 34 = .ok (.ifCond .ne 10, 3) := by decide +kernel
theorem dX12_beats_37 : decode cX12_beats 37 = .ok (.aload_n 0, 1) := by decide +kernel
theorem dX12_beats_38 : decode cX12_beats 38 = .ok (.getfield 441, 3) := by decide +kernel
theorem dX12_beats_41 : decode cX12_beats 41 = .ok (.goto 20, 3) := by decide +kernel
theorem dX12_beats_44 : decode cX12_beats 44 = .ok (.iload 4, 2) := by decide +kernel
theorem dX12_beats_46 : decode cX12_beats 46 = .ok (.iconst 1, 1) := by decide +kernel
theorem dX12_beats_47 : decode cX12_beats 47 = .ok (.if_icmp .ne 10, 3) := by decide +kernel
theorem dX12_beats_50 : decode cX12_beats 50 = .ok (.aload_n 0, 1) := by decide +kernel
theorem dX12_beats_51 : decode cX12_beats 51 = .ok (.getfield 444, 3) := by decide +kernel
theorem dX12_beats_54 : decode cX12_beats 54 = .ok (.goto 7, 3) := by decide +kernel
theorem dX12_beats_57 : decode cX12_beats 57 = .ok (.aload_n 0, 1) := by decide +kernel
theorem dX12_beats_58 : decode cX12_beats 58 = .ok (.getfield 447, 3) := by decide +kernel
theorem dX12_beats_61 : decode cX12_beats 61 = .ok (.ireturn, 1) := by decide +kernel
theorem dX12_countOf_0 : decode cX12_countOf 0 = .ok (.ldc2_w 392, 3) := by decide +kernel
theorem dX12_countOf_3 : decode cX12_countOf 3 = .ok (.aload_n 0, 1) := by decide +kernel
theorem dX12_countOf_4 : decode cX12_countOf 4 = .ok (.getfield 99, 3) := by decide +kernel
theorem dX12_countOf_7 : decode cX12_countOf 7 = .ok (.iload_n 1, 1) := by decide +kernel
theorem dX12_countOf_8 : decode cX12_countOf 8 = .ok (.iaload, 1) := by decide +kernel
theorem dX12_countOf_9 : decode cX12_countOf 9 = .ok (.aload_n 0, 1) := by decide +kernel
theorem dX12_countOf_10 : decode cX12_countOf 10 = .ok (.getfield 99, 3) := by decide +kernel
theorem dX12_countOf_13 : decode cX12_countOf 13 = .ok (.iconst 0, 1) := by decide +kernel
theorem dX12_countOf_14 : decode cX12_countOf 14 = .ok (.iaload, 1) := by decide +kernel
theorem dX12_countOf_15 : decode cX12_countOf 15 = .ok (.isub, 1) := by decide +kernel
theorem dX12_countOf_16 : decode cX12_countOf 16 = .ok (.i2l, 1) := by decide +kernel
theorem dX12_countOf_17 : decode cX12_countOf 17 = .ok (.lmul, 1) := by decide +kernel
theorem dX12_countOf_18 : decode cX12_countOf 18 = .ok (.iload_n 2, 1) := by decide +kernel
theorem dX12_countOf_19 : decode cX12_countOf 19 = .ok (.i2l, 1) := by decide +kernel
theorem dX12_countOf_20 : decode cX12_countOf 20 = .ok (.ladd, 1) := by decide +kernel
theorem dX12_countOf_21 : decode cX12_countOf 21 = .ok (.ldc2_w 392, 3) := by decide +kernel
theorem dX12_countOf_24 : decode cX12_countOf 24 = .ok (.iload_n 2, 1) := by decide +kernel
theorem dX12_countOf_25 : decode cX12_countOf 25 = .ok (.i2l, 1) := by decide +kernel
theorem dX12_countOf_26 : decode cX12_countOf 26 = .ok (.lmul, 1) := by decide +kernel
theorem dX12_countOf_27 : decode cX12_countOf 27 = .ok (.ldiv, 1) := by decide +kernel
theorem dX12_countOf_28 : decode cX12_countOf 28 = .ok (.l2i, 1) := by decide +kernel
theorem dX12_countOf_29 : decode cX12_countOf 29 = .ok (.ireturn, 1) := by decide +kernel
theorem dX12_counted_0 : decode cX12_counted 0 = .ok (.iload_n 1, 1) := by decide +kernel
theorem dX12_counted_1 : decode cX12_counted 1 = .ok (.i2l, 1) := by decide +kernel
theorem dX12_counted_2 : decode cX12_counted 2 = .ok (.lconst 0, 1) := by decide +kernel
theorem dX12_counted_3 : decode cX12_counted 3 = .ok (.aload_n 0, 1) := by decide +kernel
theorem dX12_counted_4 : decode cX12_counted 4 = .ok (.getfield 426, 3) := by decide +kernel
theorem dX12_counted_7 : decode cX12_counted 7 = .ok (.iconst 1, 1) := by decide +kernel
theorem dX12_counted_8 : decode cX12_counted 8 = .ok (.isub, 1) := by decide +kernel
theorem dX12_counted_9 : decode cX12_counted 9 = .ok (.i2l, 1) := by decide +kernel
theorem dX12_counted_10 : decode cX12_counted 10 = .ok (.invokestatic 159, 3) := by decide +kernel
theorem dX12_counted_13 : decode cX12_counted 13 = .ok (.ifCond .eq 19, 3) := by decide +kernel
theorem dX12_counted_16 : decode cX12_counted 16 = .ok (.iload_n 2, 1) := by decide +kernel
theorem dX12_counted_17 : decode cX12_counted 17 = .ok (.invokestatic 433, 3) := by decide +kernel
theorem dX12_counted_20 : decode cX12_counted 20 = .ok (.ifCond .eq 12, 3) := by decide +kernel
theorem dX12_counted_23 : decode cX12_counted 23 = .ok (.aload_n 0, 1) := by decide +kernel
theorem dX12_counted_24 : decode cX12_counted 24 = .ok (.iload_n 1, 1) := by decide +kernel
theorem dX12_counted_25 : decode cX12_counted 25 = .ok (.iload_n 2, 1) := by decide +kernel
theorem dX12_counted_26 : decode cX12_counted 26 = .ok (.invokevirtual 456, 3) := by decide +kernel
theorem dX12_counted_29 : decode cX12_counted 29 = .ok (.goto 4, 3) := by decide +kernel
theorem dX12_counted_32 : decode cX12_counted 32 = .ok (.iconst (-1), 1) := by decide +kernel
theorem dX12_counted_33 : decode cX12_counted 33 = .ok (.ireturn, 1) := by decide +kernel
theorem dX12_sure_0 : decode cX12_sure 0 = .ok (.aload_n 0, 1) := by decide +kernel
theorem dX12_sure_1 : decode cX12_sure 1 = .ok (.iload_n 1, 1) := by decide +kernel
theorem dX12_sure_2 : decode cX12_sure 2 = .ok (.iload_n 2, 1) := by decide +kernel
theorem dX12_sure_3 : decode cX12_sure 3 = .ok (.iload_n 3, 1) := by decide +kernel
theorem dX12_sure_4 : decode cX12_sure 4 = .ok (.invokevirtual 450, 3) := by decide +kernel
theorem dX12_sure_7 : decode cX12_sure 7 = .ok (.ifCond .ne 5, 3) := by decide +kernel
theorem dX12_sure_10 : decode cX12_sure 10 = .ok (.iconst (-1), 1) := by decide +kernel
theorem dX12_sure_11 : decode cX12_sure 11 = .ok (.ireturn, 1) := by decide +kernel
theorem dX12_sure_12 : decode cX12_sure 12 = .ok (.aload_n 0, 1) := by decide +kernel
theorem dX12_sure_13 : decode cX12_sure 13 = .ok (.iload_n 1, 1) := by decide +kernel
theorem dX12_sure_14 : decode cX12_sure 14 = .ok (.iload_n 2, 1) := by decide +kernel
theorem dX12_sure_15 : decode cX12_sure 15 = .ok (.iload_n 3, 1) := by decide +kernel
theorem dX12_sure_16 : decode cX12_sure 16 = .ok (.invokevirtual 453, 3) := by decide +kernel
theorem dX12_sure_19 : decode cX12_sure 19 = .ok (.aload_n 0, 1) := by decide +kernel
theorem dX12_sure_20 : decode cX12_sure 20 = .ok (.getfield 441, 3) := by decide +kernel
theorem dX12_sure_23 : decode cX12_sure 23 = .ok (.ifCond .ne 6, 3) := by decide +kernel
theorem dX12_sure_26 : decode cX12_sure 26 = .ok (.bipush (-2), 2) := by decide +kernel
theorem dX12_sure_28 : decode cX12_sure 28 = .ok (.ireturn, 1) := by decide +kernel
theorem dX12_sure_29 : decode cX12_sure 29 = .ok (.iconst 0, 1) := by decide +kernel
theorem dX12_sure_30 : decode cX12_sure 30 = .ok (.istore 4, 2) := by decide +kernel
theorem dX12_sure_32 : decode cX12_sure 32 = .ok (.iload 4, 2) := by decide +kernel
theorem dX12_sure_34 : decode cX12_sure 34 = .ok (.aload_n 0, 1) := by decide +kernel
theorem dX12_sure_35 : decode cX12_sure 35 = .ok (.getfield 426, 3) := by decide +kernel
theorem dX12_sure_38 : decode cX12_sure 38 = .ok (.if_icmp .ge 34, 3) := by decide +kernel
theorem dX12_sure_41 : decode cX12_sure 41 = .ok (.aload_n 0, 1) := by decide +kernel
theorem dX12_sure_42 : decode cX12_sure 42 = .ok (.iload 4, 2) := by decide +kernel
theorem dX12_sure_44 : decode cX12_sure 44 = .ok (.aload_n 0, 1) := by decide +kernel
theorem dX12_sure_45 : decode cX12_sure 45 = .ok (.getfield 444, 3) := by decide +kernel
theorem dX12_sure_48 : decode cX12_sure 48 = .ok (.invokevirtual 456, 3) := by decide +kernel
theorem dX12_sure_51 : decode cX12_sure 51 = .ok (.aload_n 0, 1) := by decide +kernel
theorem dX12_sure_52 : decode cX12_sure 52 = .ok (.iload 4, 2) := by decide +kernel
theorem dX12_sure_54 : decode cX12_sure 54 = .ok (.aload_n 0, 1) := by decide +kernel
theorem dX12_sure_55 : decode cX12_sure 55 = .ok (.getfield 447, 3) := by decide +kernel
theorem dX12_sure_58 : decode cX12_sure 58 = .ok (.invokevirtual 456, 3) := by decide +kernel
theorem dX12_sure_61 : decode cX12_sure 61 = .ok (.if_icmp .eq 5, 3) := by decide +kernel
theorem dX12_sure_64 : decode cX12_sure 64 = .ok (.iconst 0, 1) := by decide +kernel
theorem dX12_sure_65 : decode cX12_sure 65 = .ok (.ireturn, 1) := by decide +kernel
theorem dX12_sure_66 : decode cX12_sure 66 = .ok (.iinc 4 1, 3) := by decide +kernel
theorem dX12_sure_69 : decode cX12_sure 69 = .ok (.goto (-37), 3) := by decide +kernel
theorem dX12_sure_72 : decode cX12_sure 72 = .ok (.iconst 1, 1) := by decide +kernel
theorem dX12_sure_73 : decode cX12_sure 73 = .ok (.ireturn, 1) := by decide +kernel
theorem dX12_lost_0 : decode cX12_lost 0 = .ok (.aload_n 0, 1) := by decide +kernel
theorem dX12_lost_1 : decode cX12_lost 1 = .ok (.iload_n 1, 1) := by decide +kernel
theorem dX12_lost_2 : decode cX12_lost 2 = .ok (.iload_n 2, 1) := by decide +kernel
theorem dX12_lost_3 : decode cX12_lost 3 = .ok (.iload_n 3, 1) := by decide +kernel
theorem dX12_lost_4 : decode cX12_lost 4 = .ok (.invokevirtual 450, 3) := by decide +kernel
theorem dX12_lost_7 : decode cX12_lost 7 = .ok (.ifCond .ne 5, 3) := by decide +kernel
theorem dX12_lost_10 : decode cX12_lost 10 = .ok (.iconst (-1), 1) := by decide +kernel
theorem dX12_lost_11 : decode cX12_lost 11 = .ok (.ireturn, 1) := by decide +kernel
theorem dX12_lost_12 : decode cX12_lost 12 = .ok (.aload_n 0, 1) := by decide +kernel
theorem dX12_lost_13 : decode cX12_lost 13 = .ok (.iload_n 1, 1) := by decide +kernel
theorem dX12_lost_14 : decode cX12_lost 14 = .ok (.iload_n 2, 1) := by decide +kernel
theorem dX12_lost_15 : decode cX12_lost 15 = .ok (.iload_n 3, 1) := by decide +kernel
theorem dX12_lost_16 : decode cX12_lost 16 = .ok (.invokevirtual 453, 3) := by decide +kernel
theorem dX12_lost_19 : decode cX12_lost 19 = .ok (.aload_n 0, 1) := by decide +kernel
theorem dX12_lost_20 : decode cX12_lost 20 = .ok (.getfield 441, 3) := by decide +kernel
theorem dX12_lost_23 : decode cX12_lost 23 = .ok (.iconst 2, 1) := by decide +kernel
theorem dX12_lost_24 : decode cX12_lost 24 = .ok (.if_icmp .ge 6, 3) := by decide +kernel
theorem dX12_lost_27 : decode cX12_lost 27 = .ok (.bipush (-2), 2) := by decide +kernel
theorem dX12_lost_29 : decode cX12_lost 29 = .ok (.ireturn, 1) := by decide +kernel
theorem dX12_lost_30 : decode cX12_lost 30 = .ok (.iconst 2, 1) := by decide +kernel
theorem dX12_lost_31 : decode cX12_lost 31 = .ok (.aload_n 0, 1) := by decide +kernel
theorem dX12_lost_32 : decode cX12_lost 32 = .ok (.getfield 447, 3) := by decide +kernel
theorem dX12_lost_35 : decode cX12_lost 35 = .ok (.aload_n 0, 1) := by decide +kernel
theorem dX12_lost_36 : decode cX12_lost 36 = .ok (.getfield 444, 3) := by decide +kernel
theorem dX12_lost_39 : decode cX12_lost 39 = .ok (.isub, 1) := by decide +kernel
theorem dX12_lost_40 : decode cX12_lost 40 = .ok (.imul, 1) := by decide +kernel
theorem dX12_lost_41 : decode cX12_lost 41 = .ok (.istore 4, 2) := by decide +kernel
theorem dX12_lost_43 : decode cX12_lost 43 = .ok (.aload_n 0, 1) := by decide +kernel
theorem dX12_lost_44 : decode cX12_lost 44 = .ok (.getfield 444, 3) := by decide +kernel
theorem dX12_lost_47 : decode cX12_lost 47 = .ok (.iload 4, 2) := by decide +kernel
theorem dX12_lost_49 : decode cX12_lost 49 = .ok (.iadd, 1) := by decide +kernel
theorem dX12_lost_50 : decode cX12_lost 50 = .ok (.iconst 1, 1) := by decide +kernel
theorem dX12_lost_51 : decode cX12_lost 51 = .ok (.isub, 1) := by decide +kernel
theorem dX12_lost_52 : decode cX12_lost 52 = .ok (.iload 4, 2) := by decide +kernel
theorem dX12_lost_54 : decode cX12_lost 54 = .ok (.idiv, 1) := by decide +kernel
theorem dX12_lost_55 : decode cX12_lost 55 = .ok (.ireturn, 1) := by decide +kernel
theorem dX12_night_0 : decode cX12_night 0 = .ok (.aload_n 0, 1) := by decide +kernel
theorem dX12_night_1 : decode cX12_night 1 = .ok (.getfield 459, 3) := by decide +kernel
theorem dX12_night_4 : decode cX12_night 4 = .ok (.bipush 30, 2) := by decide +kernel
theorem dX12_night_6 : decode cX12_night 6 = .ok (.if_icmp .eq 24, 3) := by decide +kernel
theorem dX12_night_9 : decode cX12_night 9 = .ok (.iload_n 1, 1) := by decide +kernel
theorem dX12_night_10 : decode cX12_night 10 = .ok (.invokestatic 331, 3) := by decide +kernel
theorem dX12_night_13 : decode cX12_night 13 = .ok (.ifCond .eq 17, 3) := by decide +kernel
theorem dX12_night_16 : decode cX12_night 16 = .ok (.iload_n 2, 1) := by decide +kernel
theorem dX12_night_17 : decode cX12_night 17 = .ok (.i2l, 1) := by decide +kernel
theorem dX12_night_18 : decode cX12_night 18 = .ok (.ldc2_w 462, 3) := by decide +kernel
theorem dX12_night_21 : decode cX12_night 21 = .ok (.ldc2_w 464, 3) := by decide +kernel
theorem dX12_night_24 : decode cX12_night 24 = .ok (.invokestatic 159, 3) := by decide +kernel
theorem dX12_night_27 : decode cX12_night 27 = .ok (.ifCond .ne 5, 3) := by decide +kernel
theorem dX12_night_30 : decode cX12_night 30 = .ok (.iconst (-1), 1) := by decide +kernel
theorem dX12_night_31 : decode cX12_night 31 = .ok (.ireturn, 1) := by decide +kernel
theorem dX12_night_32 : decode cX12_night 32 = .ok (.aload_n 0, 1) := by decide +kernel
theorem dX12_night_33 : decode cX12_night 33 = .ok (.getfield 102, 3) := by decide +kernel
theorem dX12_night_36 : decode cX12_night 36 = .ok (.aload_n 0, 1) := by decide +kernel
theorem dX12_night_37 : decode cX12_night 37 = .ok (.getfield 459, 3) := by decide +kernel
theorem dX12_night_40 : decode cX12_night 40 = .ok (.iload_n 1, 1) := by decide +kernel
theorem dX12_night_41 : decode cX12_night 41 = .ok (.iastore, 1) := by decide +kernel
theorem dX12_night_42 : decode cX12_night 42 = .ok (.aload_n 0, 1) := by decide +kernel
theorem dX12_night_43 : decode cX12_night 43 = .ok (.getfield 105, 3) := by decide +kernel
theorem dX12_night_46 : decode cX12_night 46 = .ok (.aload_n 0, 1) := by decide +kernel
theorem dX12_night_47 : decode cX12_night 47 = .ok (.getfield 459, 3) := by decide +kernel
theorem dX12_night_50 : decode cX12_night 50 = .ok (.iload_n 2, 1) := by decide +kernel
theorem dX12_night_51 : decode cX12_night 51 = .ok (.iastore, 1) := by decide +kernel
theorem dX12_night_52 : decode cX12_night 52 = .ok (.aload_n 0, 1) := by decide +kernel
theorem dX12_night_53 : decode cX12_night 53 = .ok (.dup, 1) := by decide +kernel
theorem dX12_night_54 : decode cX12_night 54 = .ok (.getfield 459, 3) := by decide +kernel
theorem dX12_night_57 : decode cX12_night 57 = .ok (.iconst 1, 1) := by decide +kernel
theorem dX12_night_58 : decode cX12_night 58 = .ok (.iadd, 1) := by decide +kernel
theorem dX12_night_59 : decode cX12_night 59 = .ok (.putfield 459, 3) := by decide +kernel
theorem dX12_night_62 : decode cX12_night 62 = .ok (.aload_n 0, 1) := by decide +kernel
theorem dX12_night_63 : decode cX12_night 63 = .ok (.getfield 459, 3) := by decide +kernel
theorem dX12_night_66 : decode cX12_night 66 = .ok (.iconst 1, 1) := by decide +kernel
theorem dX12_night_67 : decode cX12_night 67 = .ok (.isub, 1) := by decide +kernel
theorem dX12_night_68 : decode cX12_night 68 = .ok (.ireturn, 1) := by decide +kernel
theorem dX12_isNight_0 : decode cX12_isNight 0 = .ok (.iload_n 1, 1) := by decide +kernel
theorem dX12_isNight_1 : decode cX12_isNight 1 = .ok (.i2l, 1) := by decide +kernel
theorem dX12_isNight_2 : decode cX12_isNight 2 = .ok (.lconst 0, 1) := by decide +kernel
theorem dX12_isNight_3 : decode cX12_isNight 3 = .ok (.aload_n 0, 1) := by decide +kernel
theorem dX12_isNight_4 : decode cX12_isNight 4 = .ok (.getfield 459, 3) := by decide +kernel
theorem dX12_isNight_7 : decode cX12_isNight 7 = .ok (.iconst 1, 1) := by decide +kernel
theorem dX12_isNight_8 : decode cX12_isNight 8 = .ok (.isub, 1) := by decide +kernel
theorem dX12_isNight_9 : decode cX12_isNight 9 = .ok (.i2l, 1) := by decide +kernel
theorem dX12_isNight_10 : decode cX12_isNight 10 = .ok (.invokestatic 159, 3) := by decide +kernel
theorem dX12_isNight_13 : decode cX12_isNight 13 = .ok (.ireturn, 1) := by decide +kernel
theorem dX12_isTold_0 : decode cX12_isTold 0 = .ok (.iload_n 1, 1) := by decide +kernel
theorem dX12_isTold_1 : decode cX12_isTold 1 = .ok (.invokestatic 259, 3) := by decide +kernel
theorem dX12_isTold_4 : decode cX12_isTold 4 = .ok (.ifCond .eq 19, 3) := by decide +kernel
theorem dX12_isTold_7 : decode cX12_isTold 7 = .ok (.aload_n 0, 1) := by decide +kernel
theorem dX12_isTold_8 : decode cX12_isTold 8 = .ok (.getfield 13, 3) := by decide +kernel
theorem dX12_isTold_11 : decode cX12_isTold 11 = .ok (.bipush 14, 2) := by decide +kernel
theorem dX12_isTold_13 : decode cX12_isTold 13 = .ok (.iload_n 1, 1) := by decide +kernel
theorem dX12_isTold_14 : decode cX12_isTold 14 = .ok (.iadd, 1) := by decide +kernel
theorem dX12_isTold_15 : decode cX12_isTold 15 = .ok (.iaload, 1) := by decide +kernel
theorem dX12_isTold_16 : decode cX12_isTold 16 = .ok (.ifCond .le 7, 3) := by decide +kernel
theorem dX12_isTold_19 : decode cX12_isTold 19 = .ok (.iconst 1, 1) := by decide +kernel
theorem dX12_isTold_20 : decode cX12_isTold 20 = .ok (.goto 4, 3) := by decide +kernel
theorem dX12_isTold_23 : decode cX12_isTold 23 = .ok (.iconst 0, 1) := by decide +kernel
theorem dX12_isTold_24 : decode cX12_isTold 24 = .ok (.ireturn, 1) := by decide +kernel
theorem dX12_saysOf_0 : decode cX12_saysOf 0 = .ok (.aload_n 0, 1) := by decide +kernel
