theorem dX12_saysOf_1 : decode cX12_saysOf 1 = .ok (.invokevirtual 357, 3) := by decide +kernel
theorem dX12_saysOf_4 : decode cX12_saysOf 4 = .ok (.aload_n 0, 1) := by decide +kernel
theorem dX12_saysOf_5 : decode cX12_saysOf 5 = .ok (.aload_n 0, 1) := by decide +kernel
theorem dX12_saysOf_6 : decode cX12_saysOf 6 = .ok (.getfield 102, 3) := by decide +kernel
theorem dX12_saysOf_9 : decode cX12_saysOf 9 = .ok (.iload_n 2, 1) := by decide +kernel
theorem dX12_saysOf_10 : decode cX12_saysOf 10 = .ok (.iaload, 1) := by decide +kernel
theorem dX12_saysOf_11 : decode cX12_saysOf 11 = .ok (.putfield 268, 3) := by decide +kernel
theorem dX12_saysOf_14 : decode cX12_saysOf 14 = .ok (.aload_n 0, 1) := by decide +kernel
theorem dX12_saysOf_15 : decode cX12_saysOf 15 = .ok (.iload_n 2, 1) := by decide +kernel
theorem dX12_saysOf_16 : decode cX12_saysOf 16 = .ok (.putfield 286, 3) := by decide +kernel
theorem dX12_saysOf_19 : decode cX12_saysOf 19 = .ok (.aload_n 0, 1) := by decide +kernel
theorem dX12_saysOf_20 : decode cX12_saysOf 20 = .ok (.bipush 12, 2) := by decide +kernel
theorem dX12_saysOf_22 : decode cX12_saysOf 22 = .ok (.bipush 14, 2) := by decide +kernel
theorem dX12_saysOf_24 : decode cX12_saysOf 24 = .ok (.iload_n 1, 1) := by decide +kernel
theorem dX12_saysOf_25 : decode cX12_saysOf 25 = .ok (.iadd, 1) := by decide +kernel
theorem dX12_saysOf_26 : decode cX12_saysOf 26 = .ok (.imul, 1) := by decide +kernel
theorem dX12_saysOf_27 : decode cX12_saysOf 27 = .ok (.invokevirtual 366, 3) := by decide +kernel
theorem dX12_saysOf_30 : decode cX12_saysOf 30 = .ok (.ireturn, 1) := by decide +kernel
theorem dX12_says_0 : decode cX12_says 0 = .ok (.aload_n 0, 1) := by decide +kernel
theorem dX12_says_1 : decode cX12_says 1 = .ok (.iload_n 1, 1) := by decide +kernel
theorem dX12_says_2 : decode cX12_says 2 = .ok (.invokevirtual 466, 3) := by decide +kernel
theorem dX12_says_5 : decode cX12_says 5 = .ok (.ifCond .eq 20, 3) := by decide +kernel
theorem dX12_says_8 : decode cX12_says 8 = .ok (.aload_n 0, 1) := by decide +kernel
theorem dX12_says_9 : decode cX12_says 9 = .ok (.iload_n 2, 1) := by decide +kernel
theorem dX12_says_10 : decode cX12_says 10 = .ok (.invokevirtual 469, 3) := by decide +kernel
theorem dX12_says_13 : decode cX12_says 13 = .ok (.ifCond .eq 12, 3) := by decide +kernel
theorem dX12_says_16 : decode cX12_says 16 = .ok (.aload_n 0, 1) := by decide +kernel
theorem dX12_says_17 : decode cX12_says 17 = .ok (.iload_n 1, 1) := by decide +kernel
theorem dX12_says_18 : decode cX12_says 18 = .ok (.iload_n 2, 1) := by decide +kernel
theorem dX12_says_19 : decode cX12_says 19 = .ok (.invokevirtual 472, 3) := by decide +kernel
theorem dX12_says_22 : decode cX12_says 22 = .ok (.goto 6, 3) := by decide +kernel
theorem dX12_says_25 : decode cX12_says 25 = .ok (.ldc_w 475, 3) := by decide +kernel
theorem dX12_says_28 : decode cX12_says 28 = .ok (.ireturn, 1) := by decide +kernel
theorem dX12_isError_0 : decode cX12_isError 0 = .ok (.iload_n 0, 1) := by decide +kernel
theorem dX12_isError_1 : decode cX12_isError 1 = .ok (.i2l, 1) := by decide +kernel
theorem dX12_isError_2 : decode cX12_isError 2 = .ok (.lconst 0, 1) := by decide +kernel
theorem dX12_isError_3 : decode cX12_isError 3 = .ok (.ldc2_w 464, 3) := by decide +kernel
theorem dX12_isError_6 : decode cX12_isError 6 = .ok (.invokestatic 159, 3) := by decide +kernel
theorem dX12_isError_9 : decode cX12_isError 9 = .ok (.ireturn, 1) := by decide +kernel
theorem dX12_fallsAt_0 : decode cX12_fallsAt 0 = .ok (.iconst 0, 1) := by decide +kernel
theorem dX12_fallsAt_1 : decode cX12_fallsAt 1 = .ok (.istore_n 3, 1) := by decide +kernel
theorem dX12_fallsAt_2 : decode cX12_fallsAt 2 = .ok (.iload_n 3, 1) := by decide +kernel
theorem dX12_fallsAt_3 : decode cX12_fallsAt 3 = .ok (.aload_n 0, 1) := by decide +kernel
theorem dX12_fallsAt_4 : decode cX12_fallsAt 4 = .ok (.getfield 459, 3) := by decide +kernel
theorem dX12_fallsAt_7 : decode cX12_fallsAt 7 = .ok (.if_icmp .ge 37, 3) := by decide +kernel
theorem dX12_fallsAt_10 : decode cX12_fallsAt 10 = .ok (.aload_n 0, 1) := by decide +kernel
theorem dX12_fallsAt_11 : decode cX12_fallsAt 11 = .ok (.iload_n 1, 1) := by decide +kernel
theorem dX12_fallsAt_12 : decode cX12_fallsAt 12 = .ok (.iload_n 3, 1) := by decide +kernel
theorem dX12_fallsAt_13 : decode cX12_fallsAt 13 = .ok (.invokevirtual 472, 3) := by decide +kernel
theorem dX12_fallsAt_16 : decode cX12_fallsAt 16 = .ok (.i2l, 1) := by decide +kernel
theorem dX12_fallsAt_17 : decode cX12_fallsAt 17 = .ok (.aload_n 0, 1) := by decide +kernel
theorem dX12_fallsAt_18 : decode cX12_fallsAt 18 = .ok (.getfield 105, 3) := by decide +kernel
theorem dX12_fallsAt_21 : decode cX12_fallsAt 21 = .ok (.iload_n 3, 1) := by decide +kernel
theorem dX12_fallsAt_22 : decode cX12_fallsAt 22 = .ok (.iaload, 1) := by decide +kernel
theorem dX12_fallsAt_23 : decode cX12_fallsAt 23 = .ok (.i2l, 1) := by decide +kernel
theorem dX12_fallsAt_24 : decode cX12_fallsAt 24 = .ok (.lsub, 1) := by decide +kernel
theorem dX12_fallsAt_25 : decode cX12_fallsAt 25 = .ok (.iload_n 2, 1) := by decide +kernel
theorem dX12_fallsAt_26 : decode cX12_fallsAt 26 = .ok (.ineg, 1) := by decide +kernel
theorem dX12_fallsAt_27 : decode cX12_fallsAt 27 = .ok (.i2l, 1) := by decide +kernel
theorem dX12_fallsAt_28 : decode cX12_fallsAt 28 = .ok (.iload_n 2, 1) := by decide +kernel
theorem dX12_fallsAt_29 : decode cX12_fallsAt 29 = .ok (.i2l, 1) := by decide +kernel
theorem dX12_fallsAt_30 : decode cX12_fallsAt 30 = .ok (.invokestatic 159, 3) := by decide +kernel
theorem dX12_fallsAt_33 : decode cX12_fallsAt 33 = .ok (.ifCond .ne 5, 3) := by decide +kernel
theorem dX12_fallsAt_36 : decode cX12_fallsAt 36 = .ok (.iload_n 3, 1) := by decide +kernel
theorem dX12_fallsAt_37 : decode cX12_fallsAt 37 = .ok (.ireturn, 1) := by decide +kernel
theorem dX12_fallsAt_38 : decode cX12_fallsAt 38 = .ok (.iinc 3 1, 3) := by decide +kernel
theorem dX12_fallsAt_41 : decode cX12_fallsAt 41 = .ok (.goto (-39), 3) := by decide +kernel
theorem dX12_fallsAt_44 : decode cX12_fallsAt 44 = .ok (.aload_n 0, 1) := by decide +kernel
theorem dX12_fallsAt_45 : decode cX12_fallsAt 45 = .ok (.getfield 459, 3) := by decide +kernel
theorem dX12_fallsAt_48 : decode cX12_fallsAt 48 = .ok (.ireturn, 1) := by decide +kernel
theorem dX12_falls_0 : decode cX12_falls 0 = .ok (.aload_n 0, 1) := by decide +kernel
theorem dX12_falls_1 : decode cX12_falls 1 = .ok (.iload_n 1, 1) := by decide +kernel
theorem dX12_falls_2 : decode cX12_falls 2 = .ok (.invokevirtual 466, 3) := by decide +kernel
theorem dX12_falls_5 : decode cX12_falls 5 = .ok (.ifCond .eq 10, 3) := by decide +kernel
theorem dX12_falls_8 : decode cX12_falls 8 = .ok (.iload_n 2, 1) := by decide +kernel
theorem dX12_falls_9 : decode cX12_falls 9 = .ok (.invokestatic 476, 3) := by decide +kernel
theorem dX12_falls_12 : decode cX12_falls 12 = .ok (.ifCond .ne 5, 3) := by decide +kernel
theorem dX12_falls_15 : decode cX12_falls 15 = .ok (.iconst (-1), 1) := by decide +kernel
theorem dX12_falls_16 : decode cX12_falls 16 = .ok (.ireturn, 1) := by decide +kernel
theorem dX12_falls_17 : decode cX12_falls 17 = .ok (.aload_n 0, 1) := by decide +kernel
theorem dX12_falls_18 : decode cX12_falls 18 = .ok (.iload_n 1, 1) := by decide +kernel
theorem dX12_falls_19 : decode cX12_falls 19 = .ok (.iload_n 2, 1) := by decide +kernel
theorem dX12_falls_20 : decode cX12_falls 20 = .ok (.invokevirtual 479, 3) := by decide +kernel
theorem dX12_falls_23 : decode cX12_falls 23 = .ok (.istore_n 3, 1) := by decide +kernel
theorem dX12_falls_24 : decode cX12_falls 24 = .ok (.iload_n 3, 1) := by decide +kernel
theorem dX12_falls_25 : decode cX12_falls 25 = .ok (.aload_n 0, 1) := by decide +kernel
theorem dX12_falls_26 : decode cX12_falls 26 = .ok (.getfield 459, 3) := by decide +kernel
theorem dX12_falls_29 : decode cX12_falls 29 = .ok (.if_icmp .ne 8, 3) := by decide +kernel
theorem dX12_falls_32 : decode cX12_falls 32 = .ok (.bipush (-2), 2) := by decide +kernel
theorem dX12_falls_34 : decode cX12_falls 34 = .ok (.goto 4, 3) := by decide +kernel
theorem dX12_falls_37 : decode cX12_falls 37 = .ok (.iload_n 3, 1) := by decide +kernel
theorem dX12_falls_38 : decode cX12_falls 38 = .ok (.ireturn, 1) := by decide +kernel
theorem dX12_told_0 : decode cX12_told 0 = .ok (.iload_n 1, 1) := by decide +kernel
theorem dX12_told_1 : decode cX12_told 1 = .ok (.invokestatic 476, 3) := by decide +kernel
theorem dX12_told_4 : decode cX12_told 4 = .ok (.ifCond .eq 13, 3) := by decide +kernel
theorem dX12_told_7 : decode cX12_told 7 = .ok (.iload_n 2, 1) := by decide +kernel
theorem dX12_told_8 : decode cX12_told 8 = .ok (.i2l, 1) := by decide +kernel
theorem dX12_told_9 : decode cX12_told 9 = .ok (.lconst 0, 1) := by decide +kernel
theorem dX12_told_10 : decode cX12_told 10 = .ok (.lconst 1, 1) := by decide +kernel
theorem dX12_told_11 : decode cX12_told 11 = .ok (.invokestatic 159, 3) := by decide +kernel
theorem dX12_told_14 : decode cX12_told 14 = .ok (.ifCond .ne 5, 3) := by decide +kernel
theorem dX12_told_17 : decode cX12_told 17 = .ok (.iconst (-1), 1) := by decide +kernel
theorem dX12_told_18 : decode cX12_told 18 = .ok (.ireturn, 1) := by decide +kernel
theorem dX12_told_19 : decode cX12_told 19 = .ok (.iconst 0, 1) := by decide +kernel
theorem dX12_told_20 : decode cX12_told 20 = .ok (.istore_n 3, 1) := by decide +kernel
theorem dX12_told_21 : decode cX12_told 21 = .ok (.iload_n 3, 1) := by decide +kernel
theorem dX12_told_22 : decode cX12_told 22 = .ok (.aload_n 0, 1) := by decide +kernel
theorem dX12_told_23 : decode cX12_told 23 = .ok (.getfield 459, 3) := by decide +kernel
theorem dX12_told_26 : decode cX12_told 26 = .ok (.if_icmp .ge 78, 3) := by decide +kernel
theorem dX12_told_29 : decode cX12_told 29 = .ok (.iconst 0, 1) := by decide +kernel
theorem dX12_told_30 : decode cX12_told 30 = .ok (.istore 4, 2) := by decide +kernel
theorem dX12_told_32 : decode cX12_told 32 = .ok (.iconst (-1), 1) := by decide +kernel
theorem dX12_told_33 : decode cX12_told 33 = .ok (.istore 5, 2) := by decide +kernel
theorem dX12_told_35 : decode cX12_told 35 = .ok (.iconst 0, 1) := by decide +kernel
theorem dX12_told_36 : decode cX12_told 36 = .ok (.istore 6, 2) := by decide +kernel
theorem dX12_told_38 : decode cX12_told 38 = .ok (.iload 6, 2) := by decide +kernel
theorem dX12_told_40 : decode cX12_told 40 = .ok (.bipush 6, 2) := by decide +kernel
theorem dX12_told_42 : decode cX12_told 42 = .ok (.if_icmp .ge 39, 3) := by decide +kernel
theorem dX12_told_45 : decode cX12_told 45 = .ok (.aload_n 0, 1) := by decide +kernel
theorem dX12_told_46 : decode cX12_told 46 = .ok (.iload 6, 2) := by decide +kernel
theorem dX12_told_48 : decode cX12_told 48 = .ok (.invokevirtual 466, 3) := by decide +kernel
theorem dX12_told_51 : decode cX12_told 51 = .ok (.ifCond .eq 24, 3) := by decide +kernel
theorem dX12_told_54 : decode cX12_told 54 = .ok (.aload_n 0, 1) := by decide +kernel
theorem dX12_told_55 : decode cX12_told 55 = .ok (.iload 6, 2) := by decide +kernel
theorem dX12_told_57 : decode cX12_told 57 = .ok (.iload_n 1, 1) := by decide +kernel
theorem dX12_told_58 : decode cX12_told 58 = .ok (.invokevirtual 479, 3) := by decide +kernel
theorem dX12_told_61 : decode cX12_told 61 = .ok (.iload_n 3, 1) := by decide +kernel
theorem dX12_told_62 : decode cX12_told 62 = .ok (.if_icmp .gt 6, 3) := by decide +kernel
theorem dX12_told_65 : decode cX12_told 65 = .ok (.goto 10, 3) := by decide +kernel
theorem dX12_told_68 : decode cX12_told 68 = .ok (.iinc 4 1, 3) := by decide +kernel
theorem dX12_told_71 : decode cX12_told 71 = .ok (.iload 6, 2) := by decide +kernel
theorem dX12_told_73 : decode cX12_told 73 = .ok (.istore 5, 2) := by decide +kernel
theorem dX12_told_75 : decode cX12_told 75 = .ok (.iinc 6 1, 3) := by decide +kernel
theorem dX12_told_78 : decode cX12_told 78 = .ok (.goto (-40), 3) := by decide +kernel
theorem dX12_told_81 : decode cX12_told 81 = .ok (.iload 4, 2) := by decide +kernel
theorem dX12_told_83 : decode cX12_told 83 = .ok (.iconst 1, 1) := by decide +kernel
theorem dX12_told_84 : decode cX12_told 84 = .ok (.if_icmp .ne 14, 3) := by decide +kernel
theorem dX12_told_87 : decode cX12_told 87 = .ok (.iload_n 2, 1) := by decide +kernel
theorem dX12_told_88 : decode cX12_told 88 = .ok (.ifCond .ne 7, 3) := by decide +kernel
theorem dX12_told_91 : decode cX12_told 91 = .ok (.iload_n 3, 1) := by decide +kernel
theorem dX12_told_92 : decode cX12_told 92 = .ok (.goto 5, 3) := by decide +kernel
theorem dX12_told_95 : decode cX12_told 95 = .ok (.iload 5, 2) := by decide +kernel
theorem dX12_told_97 : decode cX12_told 97 = .ok (.ireturn, 1) := by decide +kernel
theorem dX12_told_98 : decode cX12_told 98 = .ok (.iinc 3 1, 3) := by decide +kernel
theorem dX12_told_101 : decode cX12_told 101 = .ok (.goto (-80), 3) := by decide +kernel
theorem dX12_told_104 : decode cX12_told 104 = .ok (.iconst (-1), 1) := by decide +kernel
theorem dX12_told_105 : decode cX12_told 105 = .ok (.ireturn, 1) := by decide +kernel
theorem dX12_waveOf_0 : decode cX12_waveOf 0 = .ok (.sipush 4000, 3) := by decide +kernel
theorem dX12_waveOf_3 : decode cX12_waveOf 3 = .ok (.iload_n 0, 1) := by decide +kernel
theorem dX12_waveOf_4 : decode cX12_waveOf 4 = .ok (.imul, 1) := by decide +kernel
theorem dX12_waveOf_5 : decode cX12_waveOf 5 = .ok (.iload_n 1, 1) := by decide +kernel
theorem dX12_waveOf_6 : decode cX12_waveOf 6 = .ok (.idiv, 1) := by decide +kernel
theorem dX12_waveOf_7 : decode cX12_waveOf 7 = .ok (.istore_n 2, 1) := by decide +kernel
theorem dX12_waveOf_8 : decode cX12_waveOf 8 = .ok (.iconst 4, 1) := by decide +kernel
theorem dX12_waveOf_9 : decode cX12_waveOf 9 = .ok (.iload_n 0, 1) := by decide +kernel
theorem dX12_waveOf_10 : decode cX12_waveOf 10 = .ok (.imul, 1) := by decide +kernel
theorem dX12_waveOf_11 : decode cX12_waveOf 11 = .ok (.iload_n 1, 1) := by decide +kernel
theorem dX12_waveOf_12 : decode cX12_waveOf 12 = .ok (.if_icmp .ge 7, 3) := by decide +kernel
theorem dX12_waveOf_15 : decode cX12_waveOf 15 = .ok (.iload_n 2, 1) := by decide +kernel
theorem dX12_waveOf_16 : decode cX12_waveOf 16 = .ok (.goto 25, 3) := by decide +kernel
theorem dX12_waveOf_19 : decode cX12_waveOf 19 = .ok (.iconst 4, 1) := by decide +kernel
theorem dX12_waveOf_20 : decode cX12_waveOf 20 = .ok (.iload_n 0, 1) := by decide +kernel
theorem dX12_waveOf_21 : decode cX12_waveOf 21 = .ok (.imul, 1) := by decide +kernel
theorem dX12_waveOf_22 : decode cX12_waveOf 22 = .ok (.iconst 3, 1) := by decide +kernel
theorem dX12_waveOf_23 : decode cX12_waveOf 23 = .ok (.iload_n 1, 1) := by decide +kernel
theorem dX12_waveOf_24 : decode cX12_waveOf 24 = .ok (.imul, 1) := by decide +kernel
theorem dX12_waveOf_25 : decode cX12_waveOf 25 = .ok (.if_icmp .ge 11, 3) := by decide +kernel
theorem dX12_waveOf_28 : decode cX12_waveOf 28 = .ok (.sipush 2000, 3) := by decide +kernel
theorem dX12_waveOf_31 : decode cX12_waveOf 31 = .ok (.iload_n 2, 1) := by decide +kernel
theorem dX12_waveOf_32 : decode cX12_waveOf 32 = .ok (.isub, 1) := by decide +kernel
theorem dX12_waveOf_33 : decode cX12_waveOf 33 = .ok (.goto 8, 3) := by decide +kernel
theorem dX12_waveOf_36 : decode cX12_waveOf 36 = .ok (.iload_n 2, 1) := by decide +kernel
theorem dX12_waveOf_37 : decode cX12_waveOf 37 = .ok (.sipush 4000, 3) := by decide +kernel
theorem dX12_waveOf_40 : decode cX12_waveOf 40 = .ok (.isub, 1) := by decide +kernel
theorem dX12_waveOf_41 : decode cX12_waveOf 41 = .ok (.ireturn, 1) := by decide +kernel
theorem dX12_canGoAbout_0 : decode cX12_canGoAbout 0 = .ok (.iconst 0, 1) := by decide +kernel
theorem dX12_canGoAbout_1 : decode cX12_canGoAbout 1 = .ok (.istore 5, 2) := by decide +kernel
theorem dX12_canGoAbout_3 : decode cX12_canGoAbout 3 = .ok (.iload 5, 2) := by decide +kernel
theorem dX12_canGoAbout_5 : decode cX12_canGoAbout 5 = .ok (.aload_n 0, 1) := by decide +kernel
theorem dX12_canGoAbout_6 : decode cX12_canGoAbout 6 = .ok (.getfield 459, 3) := by decide +kernel
theorem dX12_canGoAbout_9 : decode cX12_canGoAbout 9 = .ok (.if_icmp .ge 53, 3) := by decide +kernel
theorem dX12_canGoAbout_12 : decode cX12_canGoAbout 12 = .ok (.iload_n 3, 1) := by decide +kernel
theorem dX12_canGoAbout_13 : decode cX12_canGoAbout 13 = .ok (.aload_n 0, 1) := by decide +kernel
theorem dX12_canGoAbout_14 : decode cX12_canGoAbout 14 = .ok (.getfield 102, 3) := by decide +kernel
theorem dX12_canGoAbout_17 : decode cX12_canGoAbout 17 = .ok (.iload 5, 2) := by decide +kernel
theorem dX12_canGoAbout_19 : decode cX12_canGoAbout 19 = .ok (.iaload, 1) := by decide +kernel
theorem dX12_canGoAbout_20 : decode cX12_canGoAbout 20 = .ok (.iload 4, 2) := by decide +kernel
theorem dX12_canGoAbout_22 : decode cX12_canGoAbout 22 = .ok (.iadd, 1) := by decide +kernel
theorem dX12_canGoAbout_23 : decode cX12_canGoAbout 23 = .ok (.iload_n 1, 1) := by decide +kernel
theorem dX12_canGoAbout_24 : decode cX12_canGoAbout 24 = .ok (.irem, 1) := by decide +kernel
theorem dX12_canGoAbout_25 : decode cX12_canGoAbout 25 = .ok (.iload_n 1, 1) := by decide +kernel
theorem dX12_canGoAbout_26 : decode cX12_canGoAbout 26 = .ok (.invokestatic 482, 3) := by decide +kernel
theorem dX12_canGoAbout_29 : decode cX12_canGoAbout 29 = .ok (.imul, 1) := by decide +kernel
theorem dX12_canGoAbout_30 : decode cX12_canGoAbout 30 = .ok (.sipush 1000, 3) := by decide +kernel
theorem dX12_canGoAbout_33 : decode cX12_canGoAbout 33 = .ok (.idiv, 1) := by decide +kernel
theorem dX12_canGoAbout_34 : decode cX12_canGoAbout 34 = .ok (.aload_n 0, 1) := by decide +kernel
theorem dX12_canGoAbout_35 : decode cX12_canGoAbout 35 = .ok (.getfield 105, 3) := by decide +kernel
theorem dX12_canGoAbout_38 : decode cX12_canGoAbout 38 = .ok (.iload 5, 2) := by decide +kernel
theorem dX12_canGoAbout_40 : decode cX12_canGoAbout 40 = .ok (.iaload, 1) := by decide +kernel
theorem dX12_canGoAbout_41 : decode cX12_canGoAbout 41 = .ok (.isub, 1) := by decide +kernel
theorem dX12_canGoAbout_42 : decode cX12_canGoAbout 42 = .ok (.i2l, 1) := by decide +kernel
theorem dX12_canGoAbout_43 : decode cX12_canGoAbout 43 = .ok (.iload_n 2, 1) := by decide +kernel
theorem dX12_canGoAbout_44 : decode cX12_canGoAbout 44 = .ok (.ineg, 1) := by decide +kernel
theorem dX12_canGoAbout_45 : decode cX12_canGoAbout 45 = .ok (.i2l, 1) := by decide +kernel
theorem dX12_canGoAbout_46 : decode cX12_canGoAbout 46 = .ok (.iload_n 2, 1) := by decide +kernel
theorem dX12_canGoAbout_47 : decode cX12_canGoAbout 47 = .ok (.i2l, 1) := by decide +kernel
theorem dX12_canGoAbout_48 : decode cX12_canGoAbout 48 = .ok (.invokestatic 159, 3) := by decide +kernel
theorem dX12_canGoAbout_51 : decode cX12_canGoAbout 51 = .ok (.ifCond .ne 5, 3) := by decide +kernel
theorem dX12_canGoAbout_54 : decode cX12_canGoAbout 54 = .ok (.iconst 0, 1) := by decide +kernel
theorem dX12_canGoAbout_55 : decode cX12_canGoAbout 55 = .ok (.ireturn, 1) := by decide +kernel
theorem dX12_canGoAbout_56 : decode cX12_canGoAbout 56 = .ok (.iinc 5 1, 3) := by decide +kernel
theorem dX12_canGoAbout_59 : decode cX12_canGoAbout 59 = .ok (.goto (-56), 3) := by decide +kernel
theorem dX12_canGoAbout_62 : decode cX12_canGoAbout 62 = .ok (.iconst 1, 1) := by decide +kernel
theorem dX12_canGoAbout_63 : decode cX12_canGoAbout 63 = .ok (.ireturn, 1) := by decide +kernel
theorem dX12_bound_0 : decode cX12_bound 0 = .ok (.iload_n 1, 1) := by decide +kernel
theorem dX12_bound_1 : decode cX12_bound 1 = .ok (.i2l, 1) := by decide +kernel
theorem dX12_bound_2 : decode cX12_bound 2 = .ok (.ldc2_w 485, 3) := by decide +kernel
theorem dX12_bound_5 : decode cX12_bound 5 = .ok (.ldc2_w 487, 3) := by decide +kernel
theorem dX12_bound_8 : decode cX12_bound 8 = .ok (.invokestatic 159, 3) := by decide +kernel
theorem dX12_bound_11 : decode cX12_bound 11 = .ok (.ifCond .eq 10, 3) := by decide +kernel
theorem dX12_bound_14 : decode cX12_bound 14 = .ok (.iload_n 2, 1) := by decide +kernel
theorem dX12_bound_15 : decode cX12_bound 15 = .ok (.invokestatic 476, 3) := by decide +kernel
theorem dX12_bound_18 : decode cX12_bound 18 = .ok (.ifCond .ne 5, 3) := by decide +kernel
theorem dX12_bound_21 : decode cX12_bound 21 = .ok (.iconst (-1), 1) := by decide +kernel
theorem dX12_bound_22 : decode cX12_bound 22 = .ok (.ireturn, 1) := by decide +kernel
theorem dX12_bound_23 : decode cX12_bound 23 = .ok (.sipush 2000, 3) := by decide +kernel
theorem dX12_bound_26 : decode cX12_bound 26 = .ok (.istore_n 3, 1) := by decide +kernel
theorem dX12_bound_27 : decode cX12_bound 27 = .ok (.iload_n 3, 1) := by decide +kernel
theorem dX12_bound_28 : decode cX12_bound 28 = .ok (.ifCond .lt 38, 3) := by decide +kernel
theorem dX12_bound_31 : decode cX12_bound 31 = .ok (.iconst 0, 1) := by decide +kernel
theorem dX12_bound_32 : decode cX12_bound 32 = .ok (.istore 4, 2) := by decide +kernel
theorem dX12_bound_34 : decode cX12_bound 34 = .ok (.iload 4, 2) := by decide +kernel
theorem dX12_bound_36 : decode cX12_bound 36 = .ok (.iload_n 1, 1) := by decide +kernel
theorem dX12_bound_37 : decode cX12_bound 37 = .ok (.if_icmp .ge 23, 3) := by decide +kernel
theorem dX12_bound_40 : decode cX12_bound 40 = .ok (.aload_n 0, 1) := by decide +kernel
theorem dX12_bound_41 : decode cX12_bound 41 = .ok (.iload_n 1, 1) := by decide +kernel
theorem dX12_bound_42 : decode cX12_bound 42 = .ok (.iload_n 2, 1) := by decide +kernel
theorem dX12_bound_43 : decode cX12_bound 43 = .ok (.iload_n 3, 1) := by decide +kernel
theorem dX12_bound_44 : decode cX12_bound 44 = .ok (.iload 4, 2) := by decide +kernel
theorem dX12_bound_46 : decode cX12_bound 46 = .ok (.invokevirtual 489, 3) := by decide +kernel
theorem dX12_bound_49 : decode cX12_bound 49 = .ok (.ifCond .eq 5, 3) := by decide +kernel
theorem dX12_bound_52 : decode cX12_bound 52 = .ok (.iload_n 3, 1) := by decide +kernel
theorem dX12_bound_53 : decode cX12_bound 53 = .ok (.ireturn, 1) := by decide +kernel
theorem dX12_bound_54 : decode cX12_bound 54 = .ok (.iinc 4 1, 3) := by decide +kernel
theorem dX12_bound_57 : decode cX12_bound 57 = .ok (.goto (-23), 3) := by decide +kernel
theorem dX12_bound_60 : decode cX12_bound 60 = .ok (.iinc 3 (-1), 3) := by decide +kernel
theorem dX12_bound_63 : decode cX12_bound 63 = .ok (.goto (-36), 3) := by decide +kernel
theorem dX12_bound_66 : decode cX12_bound 66 = .ok (.bipush (-2), 2) := by decide +kernel
theorem dX12_bound_68 : decode cX12_bound 68 = .ok (.ireturn, 1) := by decide +kernel
theorem dX12_there_0 : decode cX12_there 0 = .ok (.iload_n 1, 1) := by decide +kernel
theorem dX12_there_1 : decode cX12_there 1 = .ok (.i2l, 1) := by decide +kernel
theorem dX12_there_2 : decode cX12_there 2 = .ok (.lconst 0, 1) := by decide +kernel
theorem dX12_there_3 : decode cX12_there 3 = .ok (.ldc2_w 492, 3) := by decide +kernel
theorem dX12_there_6 : decode cX12_there 6 = .ok (.invokestatic 159, 3) := by decide +kernel
theorem dX12_there_9 : decode cX12_there 9 = .ok (.ifCond .eq 15, 3) := by decide +kernel
theorem dX12_there_12 : decode cX12_there 12 = .ok (.iload_n 2, 1) := by decide +kernel
theorem dX12_there_13 : decode cX12_there 13 = .ok (.i2l, 1) := by decide +kernel
theorem dX12_there_14 : decode cX12_there 14 = .ok (.lconst 0, 1) := by decide +kernel
theorem dX12_there_15 : decode cX12_there 15 = .ok (.ldc2_w 494, 3) := by decide +kernel
theorem dX12_there_18 : decode cX12_there 18 = .ok (.invokestatic 159, 3) := by decide +kernel
theorem dX12_there_21 : decode cX12_there 21 = .ok (.ifCond .ne 5, 3) := by decide +kernel
theorem dX12_there_24 : decode cX12_there 24 = .ok (.iconst 0, 1) := by decide +kernel
theorem dX12_there_25 : decode cX12_there 25 = .ok (.ireturn, 1) := by decide +kernel
theorem dX12_there_26 : decode cX12_there 26 = .ok (.aload_n 0, 1) := by decide +kernel
theorem dX12_there_27 : decode cX12_there 27 = .ok (.getfield 108, 3) := by decide +kernel
theorem dX12_there_30 : decode cX12_there 30 = .ok (.iload_n 1, 1) := by decide +kernel
theorem dX12_there_31 : decode cX12_there 31 = .ok (.iload_n 2, 1) := by decide +kernel
theorem dX12_there_32 : decode cX12_there 32 = .ok (.iastore, 1) := by decide +kernel
theorem dX12_there_33 : decode cX12_there 33 = .ok (.iconst 1, 1) := by decide +kernel
theorem dX12_there_34 : decode cX12_there 34 = .ok (.ireturn, 1) := by decide +kernel
theorem dX12_leastAt_0 : decode cX12_leastAt 0 = .ok (.iload_n 2, 1) := by decide +kernel
theorem dX12_leastAt_1 : decode cX12_leastAt 1 = .ok (.bipush 40, 2) := by decide +kernel
theorem dX12_leastAt_3 : decode cX12_leastAt 3 = .ok (.if_icmp .le 15, 3) := by decide +kernel
theorem dX12_leastAt_6 : decode cX12_leastAt 6 = .ok (.iload_n 1, 1) := by decide +kernel
theorem dX12_leastAt_7 : decode cX12_leastAt 7 = .ok (.ifCond .ne 7, 3) := by decide +kernel
theorem dX12_leastAt_10 : decode cX12_leastAt 10 = .ok (.iconst 1, 1) := by decide +kernel
theorem dX12_leastAt_11 : decode cX12_leastAt 11 = .ok (.goto 18, 3) := by decide +kernel
theorem dX12_leastAt_14 : decode cX12_leastAt 14 = .ok (.iconst (-1), 1) := by decide +kernel
theorem dX12_leastAt_15 : decode cX12_leastAt 15 = .ok (.goto 14, 3) := by decide +kernel
theorem dX12_leastAt_18 : decode cX12_leastAt 18 = .ok (.aload_n 0, 1) := by decide +kernel
theorem dX12_leastAt_19 : decode cX12_leastAt 19 = .ok (.getfield 111, 3) := by decide +kernel
theorem dX12_leastAt_22 : decode cX12_leastAt 22 = .ok (.bipush 53, 2) := by decide +kernel
theorem dX12_leastAt_24 : decode cX12_leastAt 24 = .ok (.iload_n 1, 1) := by decide +kernel
theorem dX12_leastAt_25 : decode cX12_leastAt 25 = .ok (.imul, 1) := by decide +kernel
theorem dX12_leastAt_26 : decode cX12_leastAt 26 = .ok (.iload_n 2, 1) := by decide +kernel
theorem dX12_leastAt_27 : decode cX12_leastAt 27 = .ok (.iadd, 1) := by decide +kernel
theorem dX12_leastAt_28 : decode cX12_leastAt 28 = .ok (.iaload, 1) := by decide +kernel
theorem dX12_leastAt_29 : decode cX12_leastAt 29 = .ok (.ireturn, 1) := by decide +kernel
theorem dX12_pen_0 : decode cX12_pen 0 = .ok (.iload_n 1, 1) := by decide +kernel
theorem dX12_pen_1 : decode cX12_pen 1 = .ok (.i2l, 1) := by decide +kernel
theorem dX12_pen_2 : decode cX12_pen 2 = .ok (.lconst 1, 1) := by decide +kernel
theorem dX12_pen_3 : decode cX12_pen 3 = .ok (.ldc2_w 496, 3) := by decide +kernel
theorem dX12_pen_6 : decode cX12_pen 6 = .ok (.invokestatic 159, 3) := by decide +kernel
theorem dX12_pen_9 : decode cX12_pen 9 = .ok (.ifCond .eq 44, 3) := by decide +kernel
theorem dX12_pen_12 : decode cX12_pen 12 = .ok (.iload_n 2, 1) := by decide +kernel
theorem dX12_pen_13 : decode cX12_pen 13 = .ok (.i2l, 1) := by decide +kernel
theorem dX12_pen_14 : decode cX12_pen 14 = .ok (.lconst 1, 1) := by decide +kernel
theorem dX12_pen_15 : decode cX12_pen 15 = .ok (.ldc2_w 494, 3) := by decide +kernel
theorem dX12_pen_18 : decode cX12_pen 18 = .ok (.invokestatic 159, 3) := by decide +kernel
theorem dX12_pen_21 : decode cX12_pen 21 = .ok (.ifCond .eq 32, 3) := by decide +kernel
theorem dX12_pen_24 : decode cX12_pen 24 = .ok (.iload_n 3, 1) := by decide +kernel
theorem dX12_pen_25 : decode cX12_pen 25 = .ok (.bipush 6, 2) := by decide +kernel
theorem dX12_pen_27 : decode cX12_pen 27 = .ok (.if_icmp .eq 16, 3) := by decide +kernel
theorem dX12_pen_30 : decode cX12_pen 30 = .ok (.iload_n 3, 1) := by decide +kernel
theorem dX12_pen_31 : decode cX12_pen 31 = .ok (.i2l, 1) := by decide +kernel
theorem dX12_pen_32 : decode cX12_pen 32 = .ok (.lconst 0, 1) := by decide +kernel
theorem dX12_pen_33 : decode cX12_pen 33 = .ok (.iload_n 1, 1) := by decide +kernel
theorem dX12_pen_34 : decode cX12_pen 34 = .ok (.iconst 1, 1) := by decide +kernel
theorem dX12_pen_35 : decode cX12_pen 35 = .ok (.isub, 1) := by decide +kernel
theorem dX12_pen_36 : decode cX12_pen 36 = .ok (.i2l, 1) := by decide +kernel
theorem dX12_pen_37 : decode cX12_pen 37 = .ok (.invokestatic 159, 3) := by decide +kernel
theorem dX12_pen_40 : decode cX12_pen 40 = .ok (.ifCond .eq 13, 3) := by decide +kernel
theorem dX12_pen_43 : decode cX12_pen 43 = .ok (.iload_n 1, 1) := by decide +kernel
theorem dX12_pen_44 : decode cX12_pen 44 = .ok (.iconst 1, 1) := by decide +kernel
theorem dX12_pen_45 : decode cX12_pen 45 = .ok (.isub, 1) := by decide +kernel
theorem dX12_pen_46 : decode cX12_pen 46 = .ok (.iload_n 2, 1) := by decide +kernel
theorem dX12_pen_47 : decode cX12_pen 47 = .ok (.imul, 1) := by decide +kernel
theorem dX12_pen_48 : decode cX12_pen 48 = .ok (.bipush 39, 2) := by decide +kernel
theorem dX12_pen_50 : decode cX12_pen 50 = .ok (.if_icmp .le 5, 3) := by decide +kernel
theorem dX12_pen_53 : decode cX12_pen 53 = .ok (.iconst (-1), 1) := by decide +kernel
theorem dX12_pen_54 : decode cX12_pen 54 = .ok (.ireturn, 1) := by decide +kernel
theorem dX12_pen_55 : decode cX12_pen 55 = .ok (.iconst 0, 1) := by decide +kernel
theorem dX12_pen_56 : decode cX12_pen 56 = .ok (.istore 4, 2) := by decide +kernel
theorem dX12_pen_58 : decode cX12_pen 58 = .ok (.iload 4, 2) := by decide +kernel
theorem dX12_pen_60 : decode cX12_pen 60 = .ok (.iload_n 1, 1) := by decide +kernel
theorem dX12_pen_61 : decode cX12_pen 61 = .ok (.if_icmp .gt 139, 3) := by decide +kernel
theorem dX12_pen_64 : decode cX12_pen 64 = .ok (.bipush 40, 2) := by decide +kernel
theorem dX12_pen_66 : decode cX12_pen 66 = .ok (.istore 5, 2) := by decide +kernel
theorem dX12_pen_68 : decode cX12_pen 68 = .ok (.iload 5, 2) := by decide +kernel
theorem dX12_pen_70 : decode cX12_pen 70 = .ok (.ifCond .lt 124, 3) := by decide +kernel
theorem dX12_pen_73 : decode cX12_pen 73 = .ok (.iload 4, 2) := by decide +kernel
theorem dX12_pen_75 : decode cX12_pen 75 = .ok (.ifCond .ne 7, 3) := by decide +kernel
theorem dX12_pen_78 : decode cX12_pen 78 = .ok (.iconst 1, 1) := by decide +kernel
theorem dX12_pen_79 : decode cX12_pen 79 = .ok (.goto 4, 3) := by decide +kernel
theorem dX12_pen_82 : decode cX12_pen 82 = .ok (.iconst (-1), 1) := by decide +kernel
theorem dX12_pen_83 : decode cX12_pen 83 = .ok (.istore 6, 2) := by decide +kernel
theorem dX12_pen_85 : decode cX12_pen 85 = .ok (.iload 4, 2) := by decide +kernel
theorem dX12_pen_87 : decode cX12_pen 87 = .ok (.ifCond .le 86, 3) := by decide +kernel
theorem dX12_pen_90 : decode cX12_pen 90 = .ok (.iload 5, 2) := by decide +kernel
theorem dX12_pen_92 : decode cX12_pen 92 = .ok (.bipush 40, 2) := by decide +kernel
theorem dX12_pen_94 : decode cX12_pen 94 = .ok (.if_icmp .ge 79, 3) := by decide +kernel
theorem dX12_pen_97 : decode cX12_pen 97 = .ok (.aload_n 0, 1) := by decide +kernel
theorem dX12_pen_98 : decode cX12_pen 98 = .ok (.getfield 111, 3) := by decide +kernel
theorem dX12_pen_101 : decode cX12_pen 101 = .ok (.bipush 53, 2) := by decide +kernel
theorem dX12_pen_103 : decode cX12_pen 103 = .ok (.iload 4, 2) := by decide +kernel
theorem dX12_pen_105 : decode cX12_pen 105 = .ok (.imul, 1) := by decide +kernel
theorem dX12_pen_106 : decode cX12_pen 106 = .ok (.iload 5, 2) := by decide +kernel
theorem dX12_pen_108 : decode cX12_pen 108 = .ok (.iadd, 1) := by decide +kernel
theorem dX12_pen_109 : decode cX12_pen 109 = .ok (.iconst 1, 1) := by decide +kernel
theorem dX12_pen_110 : decode cX12_pen 110 = .ok (.iadd, 1) := by decide +kernel
theorem dX12_pen_111 : decode cX12_pen 111 = .ok (.iaload, 1) := by decide +kernel
theorem dX12_pen_112 : decode cX12_pen 112 = .ok (.istore 6, 2) := by decide +kernel
theorem dX12_pen_114 : decode cX12_pen 114 = .ok (.aload_n 0, 1) := by decide +kernel
theorem dX12_pen_115 : decode cX12_pen 115 = .ok (.iload 4, 2) := by decide +kernel
theorem dX12_pen_117 : decode cX12_pen 117 = .ok (.iconst 1, 1) := by decide +kernel
theorem dX12_pen_118 : decode cX12_pen 118 = .ok (.isub, 1) := by decide +kernel
theorem dX12_pen_119 : decode cX12_pen 119 = .ok (.iload 5, 2) := by decide +kernel
theorem dX12_pen_121 : decode cX12_pen 121 = .ok (.iload_n 2, 1) := by decide +kernel
theorem dX12_pen_122 : decode cX12_pen 122 = .ok (.iadd, 1) := by decide +kernel
theorem dX12_pen_123 : decode cX12_pen 123 = .ok (.invokevirtual 498, 3) := by decide +kernel
theorem dX12_pen_126 : decode cX12_pen 126 = .ok (.istore 7, 2) := by decide +kernel
theorem dX12_pen_128 : decode cX12_pen 128 = .ok (.iload 7, 2) := by decide +kernel
theorem dX12_pen_130 : decode cX12_pen 130 = .ok (.ifCond .ge 7, 3) := by decide +kernel
theorem dX12_pen_133 : decode cX12_pen 133 = .ok (.iconst (-1), 1) := by decide +kernel
theorem dX12_pen_134 : decode cX12_pen 134 = .ok (.goto 16, 3) := by decide +kernel
theorem dX12_pen_137 : decode cX12_pen 137 = .ok (.bipush 10, 2) := by decide +kernel
theorem dX12_pen_139 : decode cX12_pen 139 = .ok (.aload_n 0, 1) := by decide +kernel
theorem dX12_pen_140 : decode cX12_pen 140 = .ok (.getfield 108, 3) := by decide +kernel
theorem dX12_pen_143 : decode cX12_pen 143 = .ok (.iload 5, 2) := by decide +kernel
theorem dX12_pen_145 : decode cX12_pen 145 = .ok (.iaload, 1) := by decide +kernel
theorem dX12_pen_146 : decode cX12_pen 146 = .ok (.isub, 1) := by decide +kernel
theorem dX12_pen_147 : decode cX12_pen 147 = .ok (.iload 7, 2) := by decide +kernel
theorem dX12_pen_149 : decode cX12_pen 149 = .ok (.imul, 1) := by decide +kernel
theorem dX12_pen_150 : decode cX12_pen 150 = .ok (.istore 8, 2) := by decide +kernel
theorem dX12_pen_152 : decode cX12_pen 152 = .ok (.iload 8, 2) := by decide +kernel
theorem dX12_pen_154 : decode cX12_pen 154 = .ok (.ifCond .lt 19, 3) := by decide +kernel
theorem dX12_pen_157 : decode cX12_pen 157 = .ok (.iload 6, 2) := by decide +kernel
theorem dX12_pen_159 : decode cX12_pen 159 = .ok (.ifCond .lt 10, 3) := by decide +kernel
theorem dX12_pen_162 : decode cX12_pen 162 = .ok (.iload 8, 2) := by decide +kernel
theorem dX12_pen_164 : decode cX12_pen 164 = .ok (.iload 6, 2) := by decide +kernel
theorem dX12_pen_166 : decode cX12_pen 166 = .ok (.if_icmp .ge 7, 3) := by decide +kernel
theorem dX12_pen_169 : decode cX12_pen 169 = .ok (.iload 8, 2) := by decide +kernel
theorem dX12_pen_171 : decode cX12_pen 171 = .ok (.istore 6, 2) := by decide +kernel
theorem dX12_pen_173 : decode cX12_pen 173 = .ok (.aload_n 0, 1) := by decide +kernel
theorem dX12_pen_174 : decode cX12_pen 174 = .ok (.getfield 111, 3) := by decide +kernel
theorem dX12_pen_177 : decode cX12_pen 177 = .ok (.bipush 53, 2) := by decide +kernel
theorem dX12_pen_179 : decode cX12_pen 179 = .ok (.iload 4, 2) := by decide +kernel
theorem dX12_pen_181 : decode cX12_pen 181 = .ok (.imul, 1) := by decide +kernel
theorem dX12_pen_182 : decode cX12_pen 182 = .ok (.iload 5, 2) := by decide +kernel
theorem dX12_pen_184 : decode cX12_pen 184 = .ok (.iadd, 1) := by decide +kernel
theorem dX12_pen_185 : decode cX12_pen 185 = .ok (.iload 6, 2) := by decide +kernel
theorem dX12_pen_187 : decode cX12_pen 187 = .ok (.iastore, 1) := by decide +kernel
theorem dX12_pen_188 : decode cX12_pen 188 = .ok (.iinc 5 (-1), 3) := by decide +kernel
theorem dX12_pen_191 : decode cX12_pen 191 = .ok (.goto (-123), 3) := by decide +kernel
theorem dX12_pen_194 : decode cX12_pen 194 = .ok (.iinc 4 1, 3) := by decide +kernel
theorem dX12_pen_197 : decode cX12_pen 197 = .ok (.goto (-139), 3) := by decide +kernel
theorem dX12_pen_200 : decode cX12_pen 200 = .ok (.iload_n 3, 1) := by decide +kernel
theorem dX12_pen_201 : decode cX12_pen 201 = .ok (.bipush 6, 2) := by decide +kernel
theorem dX12_pen_203 : decode cX12_pen 203 = .ok (.if_icmp .ne 13, 3) := by decide +kernel
theorem dX12_pen_206 : decode cX12_pen 206 = .ok (.aload_n 0, 1) := by decide +kernel
theorem dX12_pen_207 : decode cX12_pen 207 = .ok (.getfield 111, 3) := by decide +kernel
theorem dX12_pen_210 : decode cX12_pen 210 = .ok (.bipush 53, 2) := by decide +kernel
theorem dX12_pen_212 : decode cX12_pen 212 = .ok (.iload_n 1, 1) := by decide +kernel
theorem dX12_pen_213 : decode cX12_pen 213 = .ok (.imul, 1) := by decide +kernel
theorem dX12_pen_214 : decode cX12_pen 214 = .ok (.iaload, 1) := by decide +kernel
theorem dX12_pen_215 : decode cX12_pen 215 = .ok (.ireturn, 1) := by decide +kernel
theorem dX12_pen_216 : decode cX12_pen 216 = .ok (.iconst 0, 1) := by decide +kernel
theorem dX12_pen_217 : decode cX12_pen 217 = .ok (.istore 4, 2) := by decide +kernel
theorem dX12_pen_219 : decode cX12_pen 219 = .ok (.iload_n 1, 1) := by decide +kernel
theorem dX12_pen_220 : decode cX12_pen 220 = .ok (.istore 5, 2) := by decide +kernel
theorem dX12_pen_222 : decode cX12_pen 222 = .ok (.iload 5, 2) := by decide +kernel
theorem dX12_pen_224 : decode cX12_pen 224 = .ok (.ifCond .le 86, 3) := by decide +kernel
theorem dX12_pen_227 : decode cX12_pen 227 = .ok (.aload_n 0, 1) := by decide +kernel
theorem dX12_pen_228 : decode cX12_pen 228 = .ok (.iload 5, 2) := by decide +kernel
theorem dX12_pen_230 : decode cX12_pen 230 = .ok (.iconst 1, 1) := by decide +kernel
theorem dX12_pen_231 : decode cX12_pen 231 = .ok (.isub, 1) := by decide +kernel
theorem dX12_pen_232 : decode cX12_pen 232 = .ok (.iload 4, 2) := by decide +kernel
theorem dX12_pen_234 : decode cX12_pen 234 = .ok (.iload_n 2, 1) := by decide +kernel
theorem dX12_pen_235 : decode cX12_pen 235 = .ok (.iadd, 1) := by decide +kernel
theorem dX12_pen_236 : decode cX12_pen 236 = .ok (.invokevirtual 498, 3) := by decide +kernel
theorem dX12_pen_239 : decode cX12_pen 239 = .ok (.ifCond .lt 42, 3) := by decide +kernel
theorem dX12_pen_242 : decode cX12_pen 242 = .ok (.bipush 10, 2) := by decide +kernel
theorem dX12_pen_244 : decode cX12_pen 244 = .ok (.aload_n 0, 1) := by decide +kernel
theorem dX12_pen_245 : decode cX12_pen 245 = .ok (.getfield 108, 3) := by decide +kernel
theorem dX12_pen_248 : decode cX12_pen 248 = .ok (.iload 4, 2) := by decide +kernel
theorem dX12_pen_250 : decode cX12_pen 250 = .ok (.iaload, 1) := by decide +kernel
theorem dX12_pen_251 : decode cX12_pen 251 = .ok (.isub, 1) := by decide +kernel
theorem dX12_pen_252 : decode cX12_pen 252 = .ok (.aload_n 0, 1) := by decide +kernel
theorem dX12_pen_253 : decode cX12_pen 253 = .ok (.iload 5, 2) := by decide +kernel
theorem dX12_pen_255 : decode cX12_pen 255 = .ok (.iconst 1, 1) := by decide +kernel
theorem dX12_pen_256 : decode cX12_pen 256 = .ok (.isub, 1) := by decide +kernel
theorem dX12_pen_257 : decode cX12_pen 257 = .ok (.iload 4, 2) := by decide +kernel
theorem dX12_pen_259 : decode cX12_pen 259 = .ok (.iload_n 2, 1) := by decide +kernel
theorem dX12_pen_260 : decode cX12_pen 260 = .ok (.iadd, 1) := by decide +kernel
theorem dX12_pen_261 : decode cX12_pen 261 = .ok (.invokevirtual 498, 3) := by decide +kernel
theorem dX12_pen_264 : decode cX12_pen 264 = .ok (.imul, 1) := by decide +kernel
theorem dX12_pen_265 : decode cX12_pen 265 = .ok (.aload_n 0, 1) := by decide +kernel
theorem dX12_pen_266 : decode cX12_pen 266 = .ok (.getfield 111, 3) := by decide +kernel
theorem dX12_pen_269 : decode cX12_pen 269 = .ok (.bipush 53, 2) := by decide +kernel
theorem dX12_pen_271 : decode cX12_pen 271 = .ok (.iload 5, 2) := by decide +kernel
theorem dX12_pen_273 : decode cX12_pen 273 = .ok (.imul, 1) := by decide +kernel
theorem dX12_pen_274 : decode cX12_pen 274 = .ok (.iload 4, 2) := by decide +kernel
theorem dX12_pen_276 : decode cX12_pen 276 = .ok (.iadd, 1) := by decide +kernel
theorem dX12_pen_277 : decode cX12_pen 277 = .ok (.iaload, 1) := by decide +kernel
theorem dX12_pen_278 : decode cX12_pen 278 = .ok (.if_icmp .eq 9, 3) := by decide +kernel
theorem dX12_pen_281 : decode cX12_pen 281 = .ok (.iinc 4 1, 3) := by decide +kernel
theorem dX12_pen_284 : decode cX12_pen 284 = .ok (.goto (-57), 3) := by decide +kernel
theorem dX12_pen_287 : decode cX12_pen 287 = .ok (.iload_n 1, 1) := by decide +kernel
theorem dX12_pen_288 : decode cX12_pen 288 = .ok (.iload 5, 2) := by decide +kernel
theorem dX12_pen_290 : decode cX12_pen 290 = .ok (.isub, 1) := by decide +kernel
theorem dX12_pen_291 : decode cX12_pen 291 = .ok (.iload_n 3, 1) := by decide +kernel
theorem dX12_pen_292 : decode cX12_pen 292 = .ok (.if_icmp .ne 6, 3) := by decide +kernel
theorem dX12_pen_295 : decode cX12_pen 295 = .ok (.iload 4, 2) := by decide +kernel
theorem dX12_pen_297 : decode cX12_pen 297 = .ok (.ireturn, 1) := by decide +kernel
theorem dX12_pen_298 : decode cX12_pen 298 = .ok (.iload 4, 2) := by decide +kernel
theorem dX12_pen_300 : decode cX12_pen 300 = .ok (.iload_n 2, 1) := by decide +kernel
theorem dX12_pen_301 : decode cX12_pen 301 = .ok (.iadd, 1) := by decide +kernel
theorem dX12_pen_302 : decode cX12_pen 302 = .ok (.istore 4, 2) := by decide +kernel
theorem dX12_pen_304 : decode cX12_pen 304 = .ok (.iinc 5 (-1), 3) := by decide +kernel
theorem dX12_pen_307 : decode cX12_pen 307 = .ok (.goto (-85), 3) := by decide +kernel
theorem dX12_pen_310 : decode cX12_pen 310 = .ok (.iconst (-1), 1) := by decide +kernel
theorem dX12_pen_311 : decode cX12_pen 311 = .ok (.ireturn, 1) := by decide +kernel
theorem dX12_choices_0 : decode cX12_choices 0 = .ok (.iload_n 1, 1) := by decide +kernel
theorem dX12_choices_1 : decode cX12_choices 1 = .ok (.ifCond .lt 8, 3) := by decide +kernel
theorem dX12_choices_4 : decode cX12_choices 4 = .ok (.iload_n 1, 1) := by decide +kernel
theorem dX12_choices_5 : decode cX12_choices 5 = .ok (.iload_n 0, 1) := by decide +kernel
theorem dX12_choices_6 : decode cX12_choices 6 = .ok (.if_icmp .le 5, 3) := by decide +kernel
theorem dX12_choices_9 : decode cX12_choices 9 = .ok (.lconst 0, 1) := by decide +kernel
theorem dX12_choices_10 : decode cX12_choices 10 = .ok (.lreturn, 1) := by decide +kernel
theorem dX12_choices_11 : decode cX12_choices 11 = .ok (.lconst 1, 1) := by decide +kernel
theorem dX12_choices_12 : decode cX12_choices 12 = .ok (.lstore_n 2, 1) := by decide +kernel
theorem dX12_choices_13 : decode cX12_choices 13 = .ok (.iconst 1, 1) := by decide +kernel
theorem dX12_choices_14 : decode cX12_choices 14 = .ok (.istore 4, 2) := by decide +kernel
theorem dX12_choices_16 : decode cX12_choices 16 = .ok (.iload 4, 2) := by decide +kernel
theorem dX12_choices_18 : decode cX12_choices 18 = .ok (.iload_n 1, 1) := by decide +kernel
theorem dX12_choices_19 : decode cX12_choices 19 = .ok (.if_icmp .gt 23, 3) := by decide +kernel
theorem dX12_choices_22 : decode cX12_choices 22 = .ok (.lload_n 2, 1) := by decide +kernel
theorem dX12_choices_23 : decode cX12_choices 23 = .ok (.iload_n 0, 1) := by decide +kernel
theorem dX12_choices_24 : decode cX12_choices 24 = .ok (.iload_n 1, 1) := by decide +kernel
theorem dX12_choices_25 : decode cX12_choices 25 = .ok (.isub, 1) := by decide +kernel
theorem dX12_choices_26 : decode cX12_choices 26 = .ok (.iload 4, 2) := by decide +kernel
theorem dX12_choices_28 : decode cX12_choices 28 = .ok (.iadd, 1) := by decide +kernel
theorem dX12_choices_29 : decode cX12_choices 29 = .ok (.i2l, 1) := by decide +kernel
theorem dX12_choices_30 : decode cX12_choices 30 = .ok (.lmul, 1) := by decide +kernel
theorem dX12_choices_31 : decode cX12_choices 31 = .ok (.iload 4, 2) := by decide +kernel
theorem dX12_choices_33 : decode cX12_choices 33 = .ok (.i2l, 1) := by decide +kernel
theorem dX12_choices_34 : decode cX12_choices 34 = .ok (.ldiv, 1) := by decide +kernel
theorem dX12_choices_35 : decode cX12_choices 35 = .ok (.lstore_n 2, 1) := by decide +kernel
theorem dX12_choices_36 : decode cX12_choices 36 = .ok (.iinc 4 1, 3) := by decide +kernel
theorem dX12_choices_39 : decode cX12_choices 39 = .ok (.goto (-23), 3) := by decide +kernel
theorem dX12_choices_42 : decode cX12_choices 42 = .ok (.lload_n 2, 1) := by decide +kernel
theorem dX12_choices_43 : decode cX12_choices 43 = .ok (.lreturn, 1) := by decide +kernel
theorem dX12_divisor_0 : decode cX12_divisor 0 = .ok (.lload_n 0, 1) := by decide +kernel
theorem dX12_divisor_1 : decode cX12_divisor 1 = .ok (.lstore 4, 2) := by decide +kernel
theorem dX12_divisor_3 : decode cX12_divisor 3 = .ok (.lload_n 2, 1) := by decide +kernel
theorem dX12_divisor_4 : decode cX12_divisor 4 = .ok (.lstore 6, 2) := by decide +kernel
theorem dX12_divisor_6 : decode cX12_divisor 6 = .ok (.lload 6, 2) := by decide +kernel
theorem dX12_divisor_8 : decode cX12_divisor 8 = .ok (.lconst 0, 1) := by decide +kernel
theorem dX12_divisor_9 : decode cX12_divisor 9 = .ok (.lcmp, 1) := by decide +kernel
theorem dX12_divisor_10 : decode cX12_divisor 10 = .ok (.ifCond .eq 21, 3) := by decide +kernel
theorem dX12_divisor_13 : decode cX12_divisor 13 = .ok (.lload 4, 2) := by decide +kernel
theorem dX12_divisor_15 : decode cX12_divisor 15 = .ok (.lload 6, 2) := by decide +kernel
theorem dX12_divisor_17 : decode cX12_divisor 17 = .ok (.lrem, 1) := by decide +kernel
theorem dX12_divisor_18 : decode cX12_divisor 18 = .ok (.lstore 8, 2) := by decide +kernel
theorem dX12_divisor_20 : decode cX12_divisor 20 = .ok (.lload 6, 2) := by decide +kernel
theorem dX12_divisor_22 : decode cX12_divisor 22 = .ok (.lstore 4, 2) := by decide +kernel
theorem dX12_divisor_24 : decode cX12_divisor 24 = .ok (.lload 8, 2) := by decide +kernel
theorem dX12_divisor_26 : decode cX12_divisor 26 = .ok (.lstore 6, 2) := by decide +kernel
theorem dX12_divisor_28 : decode cX12_divisor 28 = .ok (.goto (-22), 3) := by decide +kernel
theorem dX12_divisor_31 : decode cX12_divisor 31 = .ok (.lload 4, 2) := by decide +kernel
theorem dX12_divisor_33 : decode cX12_divisor 33 = .ok (.lreturn, 1) := by decide +kernel
theorem dX12_canLook_0 : decode cX12_canLook 0 = .ok (.iload_n 0, 1) := by decide +kernel
theorem dX12_canLook_1 : decode cX12_canLook 1 = .ok (.i2l, 1) := by decide +kernel
theorem dX12_canLook_2 : decode cX12_canLook 2 = .ok (.lconst 0, 1) := by decide +kernel
theorem dX12_canLook_3 : decode cX12_canLook 3 = .ok (.ldc2_w 501, 3) := by decide +kernel
theorem dX12_canLook_6 : decode cX12_canLook 6 = .ok (.invokestatic 159, 3) := by decide +kernel
theorem dX12_canLook_9 : decode cX12_canLook 9 = .ok (.ifCond .eq 35, 3) := by decide +kernel
theorem dX12_canLook_12 : decode cX12_canLook 12 = .ok (.iload_n 1, 1) := by decide +kernel
theorem dX12_canLook_13 : decode cX12_canLook 13 = .ok (.i2l, 1) := by decide +kernel
theorem dX12_canLook_14 : decode cX12_canLook 14 = .ok (.lconst 0, 1) := by decide +kernel
theorem dX12_canLook_15 : decode cX12_canLook 15 = .ok (.ldc2_w 501, 3) := by decide +kernel
theorem dX12_canLook_18 : decode cX12_canLook 18 = .ok (.invokestatic 159, 3) := by decide +kernel
theorem dX12_canLook_21 : decode cX12_canLook 21 = .ok (.ifCond .eq 23, 3) := by decide +kernel
theorem dX12_canLook_24 : decode cX12_canLook 24 = .ok (.iload_n 2, 1) := by decide +kernel
theorem dX12_canLook_25 : decode cX12_canLook 25 = .ok (.i2l, 1) := by decide +kernel
theorem dX12_canLook_26 : decode cX12_canLook 26 = .ok (.lconst 0, 1) := by decide +kernel
theorem dX12_canLook_27 : decode cX12_canLook 27 = .ok (.iload_n 0, 1) := by decide +kernel
theorem dX12_canLook_28 : decode cX12_canLook 28 = .ok (.i2l, 1) := by decide +kernel
theorem dX12_canLook_29 : decode cX12_canLook 29 = .ok (.invokestatic 159, 3) := by decide +kernel
theorem dX12_canLook_32 : decode cX12_canLook 32 = .ok (.ifCond .eq 12, 3) := by decide +kernel
theorem dX12_canLook_35 : decode cX12_canLook 35 = .ok (.iload_n 2, 1) := by decide +kernel
theorem dX12_canLook_36 : decode cX12_canLook 36 = .ok (.iload_n 1, 1) := by decide +kernel
theorem dX12_canLook_37 : decode cX12_canLook 37 = .ok (.if_icmp .gt 7, 3) := by decide +kernel
theorem dX12_canLook_40 : decode cX12_canLook 40 = .ok (.iconst 1, 1) := by decide +kernel
theorem dX12_canLook_41 : decode cX12_canLook 41 = .ok (.goto 4, 3) := by decide +kernel
theorem dX12_canLook_44 : decode cX12_canLook 44 = .ok (.iconst 0, 1) := by decide +kernel
theorem dX12_canLook_45 : decode cX12_canLook 45 = .ok (.ireturn, 1) := by decide +kernel
theorem dX12_waysOf_0 : decode cX12_waysOf 0 = .ok (.iload_n 0, 1) := by decide +kernel
theorem dX12_waysOf_1 : decode cX12_waysOf 1 = .ok (.iload_n 2, 1) := by decide +kernel
theorem dX12_waysOf_2 : decode cX12_waysOf 2 = .ok (.invokestatic 503, 3) := by decide +kernel
theorem dX12_waysOf_5 : decode cX12_waysOf 5 = .ok (.iload_n 3, 1) := by decide +kernel
theorem dX12_waysOf_6 : decode cX12_waysOf 6 = .ok (.iload_n 0, 1) := by decide +kernel
theorem dX12_waysOf_7 : decode cX12_waysOf 7 = .ok (.isub, 1) := by decide +kernel
theorem dX12_waysOf_8 : decode cX12_waysOf 8 = .ok (.iload_n 1, 1) := by decide +kernel
theorem dX12_waysOf_9 : decode cX12_waysOf 9 = .ok (.iload_n 2, 1) := by decide +kernel
theorem dX12_waysOf_10 : decode cX12_waysOf 10 = .ok (.isub, 1) := by decide +kernel
theorem dX12_waysOf_11 : decode cX12_waysOf 11 = .ok (.invokestatic 503, 3) := by decide +kernel
theorem dX12_waysOf_14 : decode cX12_waysOf 14 = .ok (.lmul, 1) := by decide +kernel
theorem dX12_waysOf_15 : decode cX12_waysOf 15 = .ok (.lreturn, 1) := by decide +kernel
theorem dX12_odds_0 : decode cX12_odds 0 = .ok (.iload_n 1, 1) := by decide +kernel
theorem dX12_odds_1 : decode cX12_odds 1 = .ok (.iload_n 2, 1) := by decide +kernel
theorem dX12_odds_2 : decode cX12_odds 2 = .ok (.iload_n 3, 1) := by decide +kernel
theorem dX12_odds_3 : decode cX12_odds 3 = .ok (.invokestatic 507, 3) := by decide +kernel
theorem dX12_odds_6 : decode cX12_odds 6 = .ok (.ifCond .eq 32, 3) := by decide +kernel
theorem dX12_odds_9 : decode cX12_odds 9 = .ok (.iload 4, 2) := by decide +kernel
theorem dX12_odds_11 : decode cX12_odds 11 = .ok (.i2l, 1) := by decide +kernel
theorem dX12_odds_12 : decode cX12_odds 12 = .ok (.iload_n 1, 1) := by decide +kernel
theorem dX12_odds_13 : decode cX12_odds 13 = .ok (.iload_n 2, 1) := by decide +kernel
theorem dX12_odds_14 : decode cX12_odds 14 = .ok (.iadd, 1) := by decide +kernel
theorem dX12_odds_15 : decode cX12_odds 15 = .ok (.iload_n 3, 1) := by decide +kernel
theorem dX12_odds_16 : decode cX12_odds 16 = .ok (.isub, 1) := by decide +kernel
theorem dX12_odds_17 : decode cX12_odds 17 = .ok (.i2l, 1) := by decide +kernel
theorem dX12_odds_18 : decode cX12_odds 18 = .ok (.ldc2_w 510, 3) := by decide +kernel
theorem dX12_odds_21 : decode cX12_odds 21 = .ok (.invokestatic 159, 3) := by decide +kernel
theorem dX12_odds_24 : decode cX12_odds 24 = .ok (.ifCond .eq 14, 3) := by decide +kernel
theorem dX12_odds_27 : decode cX12_odds 27 = .ok (.iload 5, 2) := by decide +kernel
theorem dX12_odds_29 : decode cX12_odds 29 = .ok (.i2l, 1) := by decide +kernel
theorem dX12_odds_30 : decode cX12_odds 30 = .ok (.lconst 0, 1) := by decide +kernel
theorem dX12_odds_31 : decode cX12_odds 31 = .ok (.lconst 1, 1) := by decide +kernel
theorem dX12_odds_32 : decode cX12_odds 32 = .ok (.invokestatic 159, 3) := by decide +kernel
theorem dX12_odds_35 : decode cX12_odds 35 = .ok (.ifCond .ne 7, 3) := by decide +kernel
theorem dX12_odds_38 : decode cX12_odds 38 = .ok (.ldc2_w 512, 3) := by decide +kernel
theorem dX12_odds_41 : decode cX12_odds 41 = .ok (.lreturn, 1) := by decide +kernel
theorem dX12_odds_42 : decode cX12_odds 42 = .ok (.iload_n 1, 1) := by decide +kernel
theorem dX12_odds_43 : decode cX12_odds 43 = .ok (.iload_n 2, 1) := by decide +kernel
theorem dX12_odds_44 : decode cX12_odds 44 = .ok (.iload_n 3, 1) := by decide +kernel
theorem dX12_odds_45 : decode cX12_odds 45 = .ok (.iload 4, 2) := by decide +kernel
theorem dX12_odds_47 : decode cX12_odds 47 = .ok (.invokestatic 514, 3) := by decide +kernel
theorem dX12_odds_50 : decode cX12_odds 50 = .ok (.lstore 6, 2) := by decide +kernel
theorem dX12_odds_52 : decode cX12_odds 52 = .ok (.iload 4, 2) := by decide +kernel
theorem dX12_odds_54 : decode cX12_odds 54 = .ok (.iload_n 2, 1) := by decide +kernel
theorem dX12_odds_55 : decode cX12_odds 55 = .ok (.invokestatic 503, 3) := by decide +kernel
theorem dX12_odds_58 : decode cX12_odds 58 = .ok (.lstore 8, 2) := by decide +kernel
theorem dX12_odds_60 : decode cX12_odds 60 = .ok (.lload 6, 2) := by decide +kernel
theorem dX12_odds_62 : decode cX12_odds 62 = .ok (.lload 8, 2) := by decide +kernel
theorem dX12_odds_64 : decode cX12_odds 64 = .ok (.invokestatic 518, 3) := by decide +kernel
theorem dX12_odds_67 : decode cX12_odds 67 = .ok (.lstore 10, 2) := by decide +kernel
theorem dX12_odds_69 : decode cX12_odds 69 = .ok (.iload 5, 2) := by decide +kernel
theorem dX12_odds_71 : decode cX12_odds 71 = .ok (.ifCond .ne 11, 3) := by decide +kernel
theorem dX12_odds_74 : decode cX12_odds 74 = .ok (.lload 6, 2) := by decide +kernel
theorem dX12_odds_76 : decode cX12_odds 76 = .ok (.lload 10, 2) := by decide +kernel
theorem dX12_odds_78 : decode cX12_odds 78 = .ok (.ldiv, 1) := by decide +kernel
theorem dX12_odds_79 : decode cX12_odds 79 = .ok (.goto 8, 3) := by decide +kernel
theorem dX12_odds_82 : decode cX12_odds 82 = .ok (.lload 8, 2) := by decide +kernel
theorem dX12_odds_84 : decode cX12_odds 84 = .ok (.lload 10, 2) := by decide +kernel
theorem dX12_odds_86 : decode cX12_odds 86 = .ok (.ldiv, 1) := by decide +kernel
theorem dX12_odds_87 : decode cX12_odds 87 = .ok (.lreturn, 1) := by decide +kernel
theorem dX12_more_0 : decode cX12_more 0 = .ok (.iload_n 1, 1) := by decide +kernel
theorem dX12_more_1 : decode cX12_more 1 = .ok (.iload_n 2, 1) := by decide +kernel
theorem dX12_more_2 : decode cX12_more 2 = .ok (.iload_n 3, 1) := by decide +kernel
theorem dX12_more_3 : decode cX12_more 3 = .ok (.invokestatic 507, 3) := by decide +kernel
theorem dX12_more_6 : decode cX12_more 6 = .ok (.ifCond .eq 27, 3) := by decide +kernel
theorem dX12_more_9 : decode cX12_more 9 = .ok (.iload 4, 2) := by decide +kernel
theorem dX12_more_11 : decode cX12_more 11 = .ok (.i2l, 1) := by decide +kernel
theorem dX12_more_12 : decode cX12_more 12 = .ok (.lconst 1, 1) := by decide +kernel
theorem dX12_more_13 : decode cX12_more 13 = .ok (.ldc2_w 436, 3) := by decide +kernel
theorem dX12_more_16 : decode cX12_more 16 = .ok (.invokestatic 159, 3) := by decide +kernel
theorem dX12_more_19 : decode cX12_more 19 = .ok (.ifCond .eq 14, 3) := by decide +kernel
theorem dX12_more_22 : decode cX12_more 22 = .ok (.iload 5, 2) := by decide +kernel
theorem dX12_more_24 : decode cX12_more 24 = .ok (.i2l, 1) := by decide +kernel
theorem dX12_more_25 : decode cX12_more 25 = .ok (.lconst 0, 1) := by decide +kernel
theorem dX12_more_26 : decode cX12_more 26 = .ok (.lconst 1, 1) := by decide +kernel
theorem dX12_more_27 : decode cX12_more 27 = .ok (.invokestatic 159, 3) := by decide +kernel
theorem dX12_more_30 : decode cX12_more 30 = .ok (.ifCond .ne 5, 3) := by decide +kernel
theorem dX12_more_33 : decode cX12_more 33 = .ok (.iconst (-1), 1) := by decide +kernel
theorem dX12_more_34 : decode cX12_more 34 = .ok (.ireturn, 1) := by decide +kernel
theorem dX12_more_35 : decode cX12_more 35 = .ok (.bipush (-2), 2) := by decide +kernel
theorem dX12_more_37 : decode cX12_more 37 = .ok (.istore 6, 2) := by decide +kernel
theorem dX12_more_39 : decode cX12_more 39 = .ok (.iload_n 1, 1) := by decide +kernel
theorem dX12_more_40 : decode cX12_more 40 = .ok (.iload_n 2, 1) := by decide +kernel
theorem dX12_more_41 : decode cX12_more 41 = .ok (.iadd, 1) := by decide +kernel
theorem dX12_more_42 : decode cX12_more 42 = .ok (.iload_n 3, 1) := by decide +kernel
theorem dX12_more_43 : decode cX12_more 43 = .ok (.isub, 1) := by decide +kernel
theorem dX12_more_44 : decode cX12_more 44 = .ok (.istore 7, 2) := by decide +kernel
theorem dX12_more_46 : decode cX12_more 46 = .ok (.iload 7, 2) := by decide +kernel
theorem dX12_more_48 : decode cX12_more 48 = .ok (.bipush 40, 2) := by decide +kernel
theorem dX12_more_50 : decode cX12_more 50 = .ok (.if_icmp .gt 50, 3) := by decide +kernel
theorem dX12_more_53 : decode cX12_more 53 = .ok (.iload_n 1, 1) := by decide +kernel
theorem dX12_more_54 : decode cX12_more 54 = .ok (.iload_n 2, 1) := by decide +kernel
theorem dX12_more_55 : decode cX12_more 55 = .ok (.iload_n 3, 1) := by decide +kernel
theorem dX12_more_56 : decode cX12_more 56 = .ok (.iload 7, 2) := by decide +kernel
theorem dX12_more_58 : decode cX12_more 58 = .ok (.invokestatic 514, 3) := by decide +kernel
theorem dX12_more_61 : decode cX12_more 61 = .ok (.ldc2_w 436, 3) := by decide +kernel
theorem dX12_more_64 : decode cX12_more 64 = .ok (.lmul, 1) := by decide +kernel
theorem dX12_more_65 : decode cX12_more 65 = .ok (.iload 4, 2) := by decide +kernel
theorem dX12_more_67 : decode cX12_more 67 = .ok (.i2l, 1) := by decide +kernel
theorem dX12_more_68 : decode cX12_more 68 = .ok (.iload 7, 2) := by decide +kernel
theorem dX12_more_70 : decode cX12_more 70 = .ok (.iload_n 2, 1) := by decide +kernel
theorem dX12_more_71 : decode cX12_more 71 = .ok (.invokestatic 503, 3) := by decide +kernel
theorem dX12_more_74 : decode cX12_more 74 = .ok (.lmul, 1) := by decide +kernel
theorem dX12_more_75 : decode cX12_more 75 = .ok (.lcmp, 1) := by decide +kernel
theorem dX12_more_76 : decode cX12_more 76 = .ok (.ifCond .lt 18, 3) := by decide +kernel
theorem dX12_more_79 : decode cX12_more 79 = .ok (.iload 5, 2) := by decide +kernel
theorem dX12_more_81 : decode cX12_more 81 = .ok (.iconst 1, 1) := by decide +kernel
theorem dX12_more_82 : decode cX12_more 82 = .ok (.if_icmp .eq 8, 3) := by decide +kernel
theorem dX12_more_85 : decode cX12_more 85 = .ok (.iload 6, 2) := by decide +kernel
theorem dX12_more_87 : decode cX12_more 87 = .ok (.ifCond .ge 7, 3) := by decide +kernel
theorem dX12_more_90 : decode cX12_more 90 = .ok (.iload 7, 2) := by decide +kernel
theorem dX12_more_92 : decode cX12_more 92 = .ok (.istore 6, 2) := by decide +kernel
theorem dX12_more_94 : decode cX12_more 94 = .ok (.iinc 7 1, 3) := by decide +kernel
theorem dX12_more_97 : decode cX12_more 97 = .ok (.goto (-51), 3) := by decide +kernel
theorem dX12_more_100 : decode cX12_more 100 = .ok (.iload 6, 2) := by decide +kernel
theorem dX12_more_102 : decode cX12_more 102 = .ok (.ireturn, 1) := by decide +kernel
theorem dX12_numberAt_0 : decode cX12_numberAt 0 = .ok (.iconst 0, 1) := by decide +kernel
theorem dX12_numberAt_1 : decode cX12_numberAt 1 = .ok (.istore_n 2, 1) := by decide +kernel
theorem dX12_numberAt_2 : decode cX12_numberAt 2 = .ok (.iconst 0, 1) := by decide +kernel
theorem dX12_numberAt_3 : decode cX12_numberAt 3 = .ok (.istore_n 3, 1) := by decide +kernel
theorem dX12_numberAt_4 : decode cX12_numberAt 4 = .ok (.iload_n 3, 1) := by decide +kernel
theorem dX12_numberAt_5 : decode cX12_numberAt 5 = .ok (.iconst 4, 1) := by decide +kernel
theorem dX12_numberAt_6 : decode cX12_numberAt 6 = .ok (.if_icmp .ge 29, 3) := by decide +kernel
theorem dX12_numberAt_9 : decode cX12_numberAt 9 = .ok (.iload_n 2, 1) := by decide +kernel
theorem dX12_numberAt_10 : decode cX12_numberAt 10 = .ok (.bipush 8, 2) := by decide +kernel
theorem dX12_numberAt_12 : decode cX12_numberAt 12 = .ok (.ishl, 1) := by decide +kernel
theorem dX12_numberAt_13 : decode cX12_numberAt 13 = .ok (.aload_n 0, 1) := by decide +kernel
theorem dX12_numberAt_14 : decode cX12_numberAt 14 = .ok (.getfield 7, 3) := by decide +kernel
theorem dX12_numberAt_17 : decode cX12_numberAt 17 = .ok (.iconst 4, 1) := by decide +kernel
theorem dX12_numberAt_18 : decode cX12_numberAt 18 = .ok (.iload_n 1, 1) := by decide +kernel
theorem dX12_numberAt_19 : decode cX12_numberAt 19 = .ok (.imul, 1) := by decide +kernel
theorem dX12_numberAt_20 : decode cX12_numberAt 20 = .ok (.iload_n 3, 1) := by decide +kernel
theorem dX12_numberAt_21 : decode cX12_numberAt 21 = .ok (.iadd, 1) := by decide +kernel
theorem dX12_numberAt_22 : decode cX12_numberAt 22 = .ok (.baload, 1) := by decide +kernel
theorem dX12_numberAt_23 : decode cX12_numberAt 23 = .ok (.sipush 255, 3) := by decide +kernel
theorem dX12_numberAt_26 : decode cX12_numberAt 26 = .ok (.iand, 1) := by decide +kernel
theorem dX12_numberAt_27 : decode cX12_numberAt 27 = .ok (.ior, 1) := by decide +kernel
theorem dX12_numberAt_28 : decode cX12_numberAt 28 = .ok (.istore_n 2, 1) := by decide +kernel
theorem dX12_numberAt_29 : decode cX12_numberAt 29 = .ok (.iinc 3 1, 3) := by decide +kernel
theorem dX12_numberAt_32 : decode cX12_numberAt 32 = .ok (.goto (-28), 3) := by decide +kernel
theorem dX12_numberAt_35 : decode cX12_numberAt 35 = .ok (.iload_n 2, 1) := by decide +kernel
theorem dX12_numberAt_36 : decode cX12_numberAt 36 = .ok (.ireturn, 1) := by decide +kernel
theorem dX12_check_0 : decode cX12_check 0 = .ok (.iload_n 1, 1) := by decide +kernel
theorem dX12_check_1 : decode cX12_check 1 = .ok (.invokestatic 254, 3) := by decide +kernel
theorem dX12_check_4 : decode cX12_check 4 = .ok (.ifCond .eq 25, 3) := by decide +kernel
theorem dX12_check_7 : decode cX12_check 7 = .ok (.iload_n 2, 1) := by decide +kernel
theorem dX12_check_8 : decode cX12_check 8 = .ok (.invokestatic 331, 3) := by decide +kernel
theorem dX12_check_11 : decode cX12_check 11 = .ok (.ifCond .eq 18, 3) := by decide +kernel
theorem dX12_check_14 : decode cX12_check 14 = .ok (.iload_n 3, 1) := by decide +kernel
theorem dX12_check_15 : decode cX12_check 15 = .ok (.ifCond .lt 14, 3) := by decide +kernel
theorem dX12_check_18 : decode cX12_check 18 = .ok (.iload_n 3, 1) := by decide +kernel
theorem dX12_check_19 : decode cX12_check 19 = .ok (.aload_n 0, 1) := by decide +kernel
theorem dX12_check_20 : decode cX12_check 20 = .ok (.getfield 114, 3) := by decide +kernel
theorem dX12_check_23 : decode cX12_check 23 = .ok (.bipush 12, 2) := by decide +kernel
theorem dX12_check_25 : decode cX12_check 25 = .ok (.idiv, 1) := by decide +kernel
theorem dX12_check_26 : decode cX12_check 26 = .ok (.if_icmp .le 6, 3) := by decide +kernel
theorem dX12_check_29 : decode cX12_check 29 = .ok (.bipush (-2), 2) := by decide +kernel
theorem dX12_check_31 : decode cX12_check 31 = .ok (.ireturn, 1) := by decide +kernel
theorem dX12_check_32 : decode cX12_check 32 = .ok (.aload_n 0, 1) := by decide +kernel
theorem dX12_check_33 : decode cX12_check 33 = .ok (.iconst 0, 1) := by decide +kernel
theorem dX12_check_34 : decode cX12_check 34 = .ok (.putfield 114, 3) := by decide +kernel
theorem dX12_check_37 : decode cX12_check 37 = .ok (.aload_n 0, 1) := by decide +kernel
theorem dX12_check_38 : decode cX12_check 38 = .ok (.iload_n 2, 1) := by decide +kernel
theorem dX12_check_39 : decode cX12_check 39 = .ok (.invokevirtual 385, 3) := by decide +kernel
theorem dX12_check_42 : decode cX12_check 42 = .ok (.aload_n 0, 1) := by decide +kernel
theorem dX12_check_43 : decode cX12_check 43 = .ok (.iload_n 1, 1) := by decide +kernel
theorem dX12_check_44 : decode cX12_check 44 = .ok (.iload_n 2, 1) := by decide +kernel
theorem dX12_check_45 : decode cX12_check 45 = .ok (.iconst 0, 1) := by decide +kernel
theorem dX12_check_46 : decode cX12_check 46 = .ok (.invokevirtual 388, 3) := by decide +kernel
theorem dX12_check_49 : decode cX12_check 49 = .ok (.iconst 0, 1) := by decide +kernel
theorem dX12_check_50 : decode cX12_check 50 = .ok (.istore 4, 2) := by decide +kernel
theorem dX12_check_52 : decode cX12_check 52 = .ok (.iload 4, 2) := by decide +kernel
theorem dX12_check_54 : decode cX12_check 54 = .ok (.aload_n 0, 1) := by decide +kernel
theorem dX12_check_55 : decode cX12_check 55 = .ok (.getfield 87, 3) := by decide +kernel
theorem dX12_check_58 : decode cX12_check 58 = .ok (.iconst 0, 1) := by decide +kernel
theorem dX12_check_59 : decode cX12_check 59 = .ok (.iaload, 1) := by decide +kernel
theorem dX12_check_60 : decode cX12_check 60 = .ok (.if_icmp .ge 96, 3) := by decide +kernel
theorem dX12_check_63 : decode cX12_check 63 = .ok (.iload 4, 2) := by decide +kernel
theorem dX12_check_65 : decode cX12_check 65 = .ok (.iload_n 3, 1) := by decide +kernel
theorem dX12_check_66 : decode cX12_check 66 = .ok (.if_icmp .ne 7, 3) := by decide +kernel
theorem dX12_check_69 : decode cX12_check 69 = .ok (.iconst 3, 1) := by decide +kernel
theorem dX12_check_70 : decode cX12_check 70 = .ok (.iload_n 3, 1) := by decide +kernel
theorem dX12_check_71 : decode cX12_check 71 = .ok (.imul, 1) := by decide +kernel
theorem dX12_check_72 : decode cX12_check 72 = .ok (.ireturn, 1) := by decide +kernel
theorem dX12_check_73 : decode cX12_check 73 = .ok (.aload_n 0, 1) := by decide +kernel
theorem dX12_check_74 : decode cX12_check 74 = .ok (.iconst 3, 1) := by decide +kernel
theorem dX12_check_75 : decode cX12_check 75 = .ok (.iload 4, 2) := by decide +kernel
theorem dX12_check_77 : decode cX12_check 77 = .ok (.imul, 1) := by decide +kernel
theorem dX12_check_78 : decode cX12_check 78 = .ok (.invokevirtual 522, 3) := by decide +kernel
theorem dX12_check_81 : decode cX12_check 81 = .ok (.aload_n 0, 1) := by decide +kernel
theorem dX12_check_82 : decode cX12_check 82 = .ok (.getfield 78, 3) := by decide +kernel
theorem dX12_check_85 : decode cX12_check 85 = .ok (.iload 4, 2) := by decide +kernel
theorem dX12_check_87 : decode cX12_check 87 = .ok (.iaload, 1) := by decide +kernel
theorem dX12_check_88 : decode cX12_check 88 = .ok (.if_icmp .eq 8, 3) := by decide +kernel
theorem dX12_check_91 : decode cX12_check 91 = .ok (.iconst 3, 1) := by decide +kernel
theorem dX12_check_92 : decode cX12_check 92 = .ok (.iload 4, 2) := by decide +kernel
theorem dX12_check_94 : decode cX12_check 94 = .ok (.imul, 1) := by decide +kernel
theorem dX12_check_95 : decode cX12_check 95 = .ok (.ireturn, 1) := by decide +kernel
theorem dX12_check_96 : decode cX12_check 96 = .ok (.aload_n 0, 1) := by decide +kernel
theorem dX12_check_97 : decode cX12_check 97 = .ok (.iconst 3, 1) := by decide +kernel
theorem dX12_check_98 : decode cX12_check 98 = .ok (.iload 4, 2) := by decide +kernel
theorem dX12_check_100 : decode cX12_check 100 = .ok (.imul, 1) := by decide +kernel
theorem dX12_check_101 : decode cX12_check 101 = .ok (.iconst 1, 1) := by decide +kernel
theorem dX12_check_102 : decode cX12_check 102 = .ok (.iadd, 1) := by decide +kernel
theorem dX12_check_103 : decode cX12_check 103 = .ok (.invokevirtual 522, 3) := by decide +kernel
theorem dX12_check_106 : decode cX12_check 106 = .ok (.aload_n 0, 1) := by decide +kernel
theorem dX12_check_107 : decode cX12_check 107 = .ok (.getfield 81, 3) := by decide +kernel
theorem dX12_check_110 : decode cX12_check 110 = .ok (.iload 4, 2) := by decide +kernel
theorem dX12_check_112 : decode cX12_check 112 = .ok (.iaload, 1) := by decide +kernel
theorem dX12_check_113 : decode cX12_check 113 = .ok (.if_icmp .eq 10, 3) := by decide +kernel
theorem dX12_check_116 : decode cX12_check 116 = .ok (.iconst 3, 1) := by decide +kernel
theorem dX12_check_117 : decode cX12_check 117 = .ok (.iload 4, 2) := by decide +kernel
theorem dX12_check_119 : decode cX12_check 119 = .ok (.imul, 1) := by decide +kernel
theorem dX12_check_120 : decode cX12_check 120 = .ok (.iconst 1, 1) := by decide +kernel
theorem dX12_check_121 : decode cX12_check 121 = .ok (.iadd, 1) := by decide +kernel
theorem dX12_check_122 : decode cX12_check 122 = .ok (.ireturn, 1) := by decide +kernel
theorem dX12_check_123 : decode cX12_check 123 = .ok (.aload_n 0, 1) := by decide +kernel
theorem dX12_check_124 : decode cX12_check 124 = .ok (.iconst 3, 1) := by decide +kernel
theorem dX12_check_125 : decode cX12_check 125 = .ok (.iload 4, 2) := by decide +kernel
theorem dX12_check_127 : decode cX12_check 127 = .ok (.imul, 1) := by decide +kernel
theorem dX12_check_128 : decode cX12_check 128 = .ok (.iconst 2, 1) := by decide +kernel
theorem dX12_check_129 : decode cX12_check 129 = .ok (.iadd, 1) := by decide +kernel
theorem dX12_check_130 : decode cX12_check 130 = .ok (.invokevirtual 522, 3) := by decide +kernel
theorem dX12_check_133 : decode cX12_check 133 = .ok (.aload_n 0, 1) := by decide +kernel
theorem dX12_check_134 : decode cX12_check 134 = .ok (.getfield 84, 3) := by decide +kernel
theorem dX12_check_137 : decode cX12_check 137 = .ok (.iload 4, 2) := by decide +kernel
theorem dX12_check_139 : decode cX12_check 139 = .ok (.iaload, 1) := by decide +kernel
theorem dX12_check_140 : decode cX12_check 140 = .ok (.if_icmp .eq 10, 3) := by decide +kernel
theorem dX12_check_143 : decode cX12_check 143 = .ok (.iconst 3, 1) := by decide +kernel
theorem dX12_check_144 : decode cX12_check 144 = .ok (.iload 4, 2) := by decide +kernel
theorem dX12_check_146 : decode cX12_check 146 = .ok (.imul, 1) := by decide +kernel
theorem dX12_check_147 : decode cX12_check 147 = .ok (.iconst 2, 1) := by decide +kernel
theorem dX12_check_148 : decode cX12_check 148 = .ok (.iadd, 1) := by decide +kernel
theorem dX12_check_149 : decode cX12_check 149 = .ok (.ireturn, 1) := by decide +kernel
theorem dX12_check_150 : decode cX12_check 150 = .ok (.iinc 4 1, 3) := by decide +kernel
theorem dX12_check_153 : decode cX12_check 153 = .ok (.goto (-101), 3) := by decide +kernel
theorem dX12_check_156 : decode cX12_check 156 = .ok (.iload_n 3, 1) := by decide +kernel
theorem dX12_check_157 : decode cX12_check 157 = .ok (.aload_n 0, 1) := by decide +kernel
theorem dX12_check_158 : decode cX12_check 158 = .ok (.getfield 87, 3) := by decide +kernel
theorem dX12_check_161 : decode cX12_check 161 = .ok (.iconst 0, 1) := by decide +kernel
theorem dX12_check_162 : decode cX12_check 162 = .ok (.iaload, 1) := by decide +kernel
theorem dX12_check_163 : decode cX12_check 163 = .ok (.if_icmp .ne 7, 3) := by decide +kernel
theorem dX12_check_166 : decode cX12_check 166 = .ok (.iconst (-1), 1) := by decide +kernel
theorem dX12_check_167 : decode cX12_check 167 = .ok (.goto 11, 3) := by decide +kernel
theorem dX12_check_170 : decode cX12_check 170 = .ok (.iconst 3, 1) := by decide +kernel
theorem dX12_check_171 : decode cX12_check 171 = .ok (.aload_n 0, 1) := by decide +kernel
theorem dX12_check_172 : decode cX12_check 172 = .ok (.getfield 87, 3) := by decide +kernel
theorem dX12_check_175 : decode cX12_check 175 = .ok (.iconst 0, 1) := by decide +kernel
theorem dX12_check_176 : decode cX12_check 176 = .ok (.iaload, 1) := by decide +kernel
theorem dX12_check_177 : decode cX12_check 177 = .ok (.imul, 1) := by decide +kernel
theorem dX12_check_178 : decode cX12_check 178 = .ok (.ireturn, 1) := by decide +kernel
theorem dX12_count_0 : decode cX12_count 0 = .ok (.aload_n 0, 1) := by decide +kernel
theorem dX12_count_1 : decode cX12_count 1 = .ok (.iload_n 1, 1) := by decide +kernel
theorem dX12_count_2 : decode cX12_count 2 = .ok (.bipush 10, 2) := by decide +kernel
theorem dX12_count_4 : decode cX12_count 4 = .ok (.isub, 1) := by decide +kernel
theorem dX12_count_5 : decode cX12_count 5 = .ok (.invokevirtual 243, 3) := by decide +kernel
theorem dX12_count_8 : decode cX12_count 8 = .ok (.ifCond .eq 15, 3) := by decide +kernel
theorem dX12_count_11 : decode cX12_count 11 = .ok (.aload_n 0, 1) := by decide +kernel
theorem dX12_count_12 : decode cX12_count 12 = .ok (.getfield 13, 3) := by decide +kernel
theorem dX12_count_15 : decode cX12_count 15 = .ok (.iconst 0, 1) := by decide +kernel
theorem dX12_count_16 : decode cX12_count 16 = .ok (.iload_n 1, 1) := by decide +kernel
theorem dX12_count_17 : decode cX12_count 17 = .ok (.iadd, 1) := by decide +kernel
theorem dX12_count_18 : decode cX12_count 18 = .ok (.bipush 10, 2) := by decide +kernel
theorem dX12_count_20 : decode cX12_count 20 = .ok (.isub, 1) := by decide +kernel
theorem dX12_count_21 : decode cX12_count 21 = .ok (.iaload, 1) := by decide +kernel
theorem dX12_count_22 : decode cX12_count 22 = .ok (.ireturn, 1) := by decide +kernel
theorem dX12_count_23 : decode cX12_count 23 = .ok (.iload_n 1, 1) := by decide +kernel
theorem dX12_count_24 : decode cX12_count 24 = .ok (.bipush 20, 2) := by decide +kernel
theorem dX12_count_26 : decode cX12_count 26 = .ok (.isub, 1) := by decide +kernel
theorem dX12_count_27 : decode cX12_count 27 = .ok (.invokestatic 254, 3) := by decide +kernel
theorem dX12_count_30 : decode cX12_count 30 = .ok (.ifCond .eq 16, 3) := by decide +kernel
theorem dX12_count_33 : decode cX12_count 33 = .ok (.aload_n 0, 1) := by decide +kernel
theorem dX12_count_34 : decode cX12_count 34 = .ok (.getfield 13, 3) := by decide +kernel
theorem dX12_count_37 : decode cX12_count 37 = .ok (.bipush 10, 2) := by decide +kernel
theorem dX12_count_39 : decode cX12_count 39 = .ok (.iload_n 1, 1) := by decide +kernel
theorem dX12_count_40 : decode cX12_count 40 = .ok (.iadd, 1) := by decide +kernel
theorem dX12_count_41 : decode cX12_count 41 = .ok (.bipush 20, 2) := by decide +kernel
theorem dX12_count_43 : decode cX12_count 43 = .ok (.isub, 1) := by decide +kernel
theorem dX12_count_44 : decode cX12_count 44 = .ok (.iaload, 1) := by decide +kernel
theorem dX12_count_45 : decode cX12_count 45 = .ok (.ireturn, 1) := by decide +kernel
theorem dX12_count_46 : decode cX12_count 46 = .ok (.iload_n 1, 1) := by decide +kernel
theorem dX12_count_47 : decode cX12_count 47 = .ok (.bipush 30, 2) := by decide +kernel
theorem dX12_count_49 : decode cX12_count 49 = .ok (.isub, 1) := by decide +kernel
theorem dX12_count_50 : decode cX12_count 50 = .ok (.invokestatic 259, 3) := by decide +kernel
theorem dX12_count_53 : decode cX12_count 53 = .ok (.ifCond .eq 16, 3) := by decide +kernel
theorem dX12_count_56 : decode cX12_count 56 = .ok (.aload_n 0, 1) := by decide +kernel
theorem dX12_count_57 : decode cX12_count 57 = .ok (.getfield 13, 3) := by decide +kernel
theorem dX12_count_60 : decode cX12_count 60 = .ok (.bipush 14, 2) := by decide +kernel
theorem dX12_count_62 : decode cX12_count 62 = .ok (.iload_n 1, 1) := by decide +kernel
theorem dX12_count_63 : decode cX12_count 63 = .ok (.iadd, 1) := by decide +kernel
theorem dX12_count_64 : decode cX12_count 64 = .ok (.bipush 30, 2) := by decide +kernel
theorem dX12_count_66 : decode cX12_count 66 = .ok (.isub, 1) := by decide +kernel
theorem dX12_count_67 : decode cX12_count 67 = .ok (.iaload, 1) := by decide +kernel
theorem dX12_count_68 : decode cX12_count 68 = .ok (.ireturn, 1) := by decide +kernel
theorem dX12_count_69 : decode cX12_count 69 = .ok (.iload_n 1, 1) := by decide +kernel
theorem dX12_count_70 : decode cX12_count 70 = .ok (.tableswitch 68 0 5 #[38, 43, 48, 53, 58, 63], 38) := by decide +kernel
theorem dX12_count_108 : decode cX12_count 108 = .ok (.aload_n 0, 1) := by decide +kernel
theorem dX12_count_109 : decode cX12_count 109 = .ok (.getfield 238, 3) := by decide +kernel
theorem dX12_count_112 : decode cX12_count 112 = .ok (.ireturn, 1) := by decide +kernel
theorem dX12_count_113 : decode cX12_count 113 = .ok (.aload_n 0, 1) := by decide +kernel
theorem dX12_count_114 : decode cX12_count 114 = .ok (.getfield 397, 3) := by decide +kernel
theorem dX12_count_117 : decode cX12_count 117 = .ok (.ireturn, 1) := by decide +kernel
theorem dX12_count_118 : decode cX12_count 118 = .ok (.aload_n 0, 1) := by decide +kernel
theorem dX12_count_119 : decode cX12_count 119 = .ok (.getfield 426, 3) := by decide +kernel
theorem dX12_count_122 : decode cX12_count 122 = .ok (.ireturn, 1) := by decide +kernel
theorem dX12_count_123 : decode cX12_count 123 = .ok (.aload_n 0, 1) := by decide +kernel
theorem dX12_count_124 : decode cX12_count 124 = .ok (.getfield 459, 3) := by decide +kernel
theorem dX12_count_127 : decode cX12_count 127 = .ok (.ireturn, 1) := by decide +kernel
theorem dX12_count_128 : decode cX12_count 128 = .ok (.aload_n 0, 1) := by decide +kernel
theorem dX12_count_129 : decode cX12_count 129 = .ok (.getfield 328, 3) := by decide +kernel
theorem dX12_count_132 : decode cX12_count 132 = .ok (.ireturn, 1) := by decide +kernel
theorem dX12_count_133 : decode cX12_count 133 = .ok (.aload_n 0, 1) := by decide +kernel
theorem dX12_count_134 : decode cX12_count 134 = .ok (.getfield 114, 3) := by decide +kernel
theorem dX12_count_137 : decode cX12_count 137 = .ok (.ireturn, 1) := by decide +kernel
theorem dX12_count_138 : decode cX12_count 138 = .ok (.iconst (-1), 1) := by decide +kernel
theorem dX12_count_139 : decode cX12_count 139 = .ok (.ireturn, 1) := by decide +kernel
