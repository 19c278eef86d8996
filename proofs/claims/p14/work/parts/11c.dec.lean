theorem dX11_isNightError_2 : decode cX11_isNightError 2 = .ok (.ldc 240, 2) := by decide +kernel
theorem dX11_isNightError_4 : decode cX11_isNightError 4 = .ok (.invokestatic 75, 3) := by decide +kernel
theorem dX11_isNightError_7 : decode cX11_isNightError 7 = .ok (.ireturn, 1) := by decide +kernel
theorem dX11_isLook_0 : decode cX11_isLook 0 = .ok (.iload_n 0, 1) := by decide +kernel
theorem dX11_isLook_1 : decode cX11_isLook 1 = .ok (.iconst 0, 1) := by decide +kernel
theorem dX11_isLook_2 : decode cX11_isLook 2 = .ok (.bipush 20, 2) := by decide +kernel
theorem dX11_isLook_4 : decode cX11_isLook 4 = .ok (.invokestatic 75, 3) := by decide +kernel
theorem dX11_isLook_7 : decode cX11_isLook 7 = .ok (.ifCond .eq 30, 3) := by decide +kernel
theorem dX11_isLook_10 : decode cX11_isLook 10 = .ok (.iload_n 1, 1) := by decide +kernel
theorem dX11_isLook_11 : decode cX11_isLook 11 = .ok (.iconst 0, 1) := by decide +kernel
theorem dX11_isLook_12 : decode cX11_isLook 12 = .ok (.bipush 20, 2) := by decide +kernel
theorem dX11_isLook_14 : decode cX11_isLook 14 = .ok (.invokestatic 75, 3) := by decide +kernel
theorem dX11_isLook_17 : decode cX11_isLook 17 = .ok (.ifCond .eq 20, 3) := by decide +kernel
theorem dX11_isLook_20 : decode cX11_isLook 20 = .ok (.iload_n 2, 1) := by decide +kernel
theorem dX11_isLook_21 : decode cX11_isLook 21 = .ok (.iconst 0, 1) := by decide +kernel
theorem dX11_isLook_22 : decode cX11_isLook 22 = .ok (.iload_n 0, 1) := by decide +kernel
theorem dX11_isLook_23 : decode cX11_isLook 23 = .ok (.iload_n 1, 1) := by decide +kernel
theorem dX11_isLook_24 : decode cX11_isLook 24 = .ok (.invokestatic 310, 3) := by decide +kernel
theorem dX11_isLook_27 : decode cX11_isLook 27 = .ok (.invokestatic 75, 3) := by decide +kernel
theorem dX11_isLook_30 : decode cX11_isLook 30 = .ok (.ifCond .eq 7, 3) := by decide +kernel
theorem dX11_isLook_33 : decode cX11_isLook 33 = .ok (.iconst 1, 1) := by decide +kernel
theorem dX11_isLook_34 : decode cX11_isLook 34 = .ok (.goto 4, 3) := by decide +kernel
theorem dX11_isLook_37 : decode cX11_isLook 37 = .ok (.iconst 0, 1) := by decide +kernel
theorem dX11_isLook_38 : decode cX11_isLook 38 = .ok (.ireturn, 1) := by decide +kernel
theorem dX11_starMinute_0 : decode cX11_starMinute 0 = .ok (.iload_n 1, 1) := by decide +kernel
theorem dX11_starMinute_1 : decode cX11_starMinute 1 = .ok (.iconst 4, 1) := by decide +kernel
theorem dX11_starMinute_2 : decode cX11_starMinute 2 = .ok (.iload_n 0, 1) := by decide +kernel
theorem dX11_starMinute_3 : decode cX11_starMinute 3 = .ok (.imul, 1) := by decide +kernel
theorem dX11_starMinute_4 : decode cX11_starMinute 4 = .ok (.iadd, 1) := by decide +kernel
theorem dX11_starMinute_5 : decode cX11_starMinute 5 = .ok (.sipush 1440, 3) := by decide +kernel
theorem dX11_starMinute_8 : decode cX11_starMinute 8 = .ok (.irem, 1) := by decide +kernel
theorem dX11_starMinute_9 : decode cX11_starMinute 9 = .ok (.ireturn, 1) := by decide +kernel
theorem dX11_minutesApart_0 : decode cX11_minutesApart 0 = .ok (.iload_n 0, 1) := by decide +kernel
theorem dX11_minutesApart_1 : decode cX11_minutesApart 1 = .ok (.iload_n 1, 1) := by decide +kernel
theorem dX11_minutesApart_2 : decode cX11_minutesApart 2 = .ok (.isub, 1) := by decide +kernel
theorem dX11_minutesApart_3 : decode cX11_minutesApart 3 = .ok (.invokestatic 315, 3) := by decide +kernel
theorem dX11_minutesApart_6 : decode cX11_minutesApart 6 = .ok (.istore_n 2, 1) := by decide +kernel
theorem dX11_minutesApart_7 : decode cX11_minutesApart 7 = .ok (.iload_n 2, 1) := by decide +kernel
theorem dX11_minutesApart_8 : decode cX11_minutesApart 8 = .ok (.sipush 1440, 3) := by decide +kernel
theorem dX11_minutesApart_11 : decode cX11_minutesApart 11 = .ok (.iload_n 2, 1) := by decide +kernel
theorem dX11_minutesApart_12 : decode cX11_minutesApart 12 = .ok (.isub, 1) := by decide +kernel
theorem dX11_minutesApart_13 : decode cX11_minutesApart 13 = .ok (.invokestatic 310, 3) := by decide +kernel
theorem dX11_minutesApart_16 : decode cX11_minutesApart 16 = .ok (.ireturn, 1) := by decide +kernel
theorem dX11_lieOnArc_0 : decode cX11_lieOnArc 0 = .ok (.iconst 0, 1) := by decide +kernel
theorem dX11_lieOnArc_1 : decode cX11_lieOnArc 1 = .ok (.istore 4, 2) := by decide +kernel
theorem dX11_lieOnArc_3 : decode cX11_lieOnArc 3 = .ok (.iload 4, 2) := by decide +kernel
theorem dX11_lieOnArc_5 : decode cX11_lieOnArc 5 = .ok (.iload_n 1, 1) := by decide +kernel
theorem dX11_lieOnArc_6 : decode cX11_lieOnArc 6 = .ok (.if_icmp .ge 25, 3) := by decide +kernel
theorem dX11_lieOnArc_9 : decode cX11_lieOnArc 9 = .ok (.aload_n 0, 1) := by decide +kernel
theorem dX11_lieOnArc_10 : decode cX11_lieOnArc 10 = .ok (.iload 4, 2) := by decide +kernel
theorem dX11_lieOnArc_12 : decode cX11_lieOnArc 12 = .ok (.iaload, 1) := by decide +kernel
theorem dX11_lieOnArc_13 : decode cX11_lieOnArc 13 = .ok (.aload_n 0, 1) := by decide +kernel
theorem dX11_lieOnArc_14 : decode cX11_lieOnArc 14 = .ok (.iload_n 1, 1) := by decide +kernel
theorem dX11_lieOnArc_15 : decode cX11_lieOnArc 15 = .ok (.iload_n 2, 1) := by decide +kernel
theorem dX11_lieOnArc_16 : decode cX11_lieOnArc 16 = .ok (.iload_n 3, 1) := by decide +kernel
theorem dX11_lieOnArc_17 : decode cX11_lieOnArc 17 = .ok (.invokestatic 318, 3) := by decide +kernel
theorem dX11_lieOnArc_20 : decode cX11_lieOnArc 20 = .ok (.ifCond .eq 5, 3) := by decide +kernel
theorem dX11_lieOnArc_23 : decode cX11_lieOnArc 23 = .ok (.iconst 1, 1) := by decide +kernel
theorem dX11_lieOnArc_24 : decode cX11_lieOnArc 24 = .ok (.ireturn, 1) := by decide +kernel
theorem dX11_lieOnArc_25 : decode cX11_lieOnArc 25 = .ok (.iinc 4 1, 3) := by decide +kernel
theorem dX11_lieOnArc_28 : decode cX11_lieOnArc 28 = .ok (.goto (-25), 3) := by decide +kernel
theorem dX11_lieOnArc_31 : decode cX11_lieOnArc 31 = .ok (.iconst 0, 1) := by decide +kernel
theorem dX11_lieOnArc_32 : decode cX11_lieOnArc 32 = .ok (.ireturn, 1) := by decide +kernel
theorem dX11_lieOnArcFrom_0 : decode cX11_lieOnArcFrom 0 = .ok (.iconst 0, 1) := by decide +kernel
theorem dX11_lieOnArcFrom_1 : decode cX11_lieOnArcFrom 1 = .ok (.istore 5, 2) := by decide +kernel
theorem dX11_lieOnArcFrom_3 : decode cX11_lieOnArcFrom 3 = .ok (.iload 5, 2) := by decide +kernel
theorem dX11_lieOnArcFrom_5 : decode cX11_lieOnArcFrom 5 = .ok (.iload_n 2, 1) := by decide +kernel
theorem dX11_lieOnArcFrom_6 : decode cX11_lieOnArcFrom 6 = .ok (.if_icmp .ge 38, 3) := by decide +kernel
theorem dX11_lieOnArcFrom_9 : decode cX11_lieOnArcFrom 9 = .ok (.aload_n 1, 1) := by decide +kernel
theorem dX11_lieOnArcFrom_10 : decode cX11_lieOnArcFrom 10 = .ok (.iload 5, 2) := by decide +kernel
theorem dX11_lieOnArcFrom_12 : decode cX11_lieOnArcFrom 12 = .ok (.iaload, 1) := by decide +kernel
theorem dX11_lieOnArcFrom_13 : decode cX11_lieOnArcFrom 13 = .ok (.iload_n 0, 1) := by decide +kernel
theorem dX11_lieOnArcFrom_14 : decode cX11_lieOnArcFrom 14 = .ok (.isub, 1) := by decide +kernel
theorem dX11_lieOnArcFrom_15 : decode cX11_lieOnArcFrom 15 = .ok (.istore 6, 2) := by decide +kernel
theorem dX11_lieOnArcFrom_17 : decode cX11_lieOnArcFrom 17 = .ok (.iload 6, 2) := by decide +kernel
theorem dX11_lieOnArcFrom_19 : decode cX11_lieOnArcFrom 19 = .ok (.ifCond .ge 10, 3) := by decide +kernel
theorem dX11_lieOnArcFrom_22 : decode cX11_lieOnArcFrom 22 = .ok (.iload 6, 2) := by decide +kernel
theorem dX11_lieOnArcFrom_24 : decode cX11_lieOnArcFrom 24 = .ok (.iload_n 3, 1) := by decide +kernel
theorem dX11_lieOnArcFrom_25 : decode cX11_lieOnArcFrom 25 = .ok (.iadd, 1) := by decide +kernel
theorem dX11_lieOnArcFrom_26 : decode cX11_lieOnArcFrom 26 = .ok (.goto 5, 3) := by decide +kernel
theorem dX11_lieOnArcFrom_29 : decode cX11_lieOnArcFrom 29 = .ok (.iload 6, 2) := by decide +kernel
theorem dX11_lieOnArcFrom_31 : decode cX11_lieOnArcFrom 31 = .ok (.iload 4, 2) := by decide +kernel
theorem dX11_lieOnArcFrom_33 : decode cX11_lieOnArcFrom 33 = .ok (.if_icmp .le 5, 3) := by decide +kernel
theorem dX11_lieOnArcFrom_36 : decode cX11_lieOnArcFrom 36 = .ok (.iconst 0, 1) := by decide +kernel
theorem dX11_lieOnArcFrom_37 : decode cX11_lieOnArcFrom 37 = .ok (.ireturn, 1) := by decide +kernel
theorem dX11_lieOnArcFrom_38 : decode cX11_lieOnArcFrom 38 = .ok (.iinc 5 1, 3) := by decide +kernel
theorem dX11_lieOnArcFrom_41 : decode cX11_lieOnArcFrom 41 = .ok (.goto (-38), 3) := by decide +kernel
theorem dX11_lieOnArcFrom_44 : decode cX11_lieOnArcFrom 44 = .ok (.iconst 1, 1) := by decide +kernel
theorem dX11_lieOnArcFrom_45 : decode cX11_lieOnArcFrom 45 = .ok (.ireturn, 1) := by decide +kernel
theorem dJ9_floorMod_7cf53_0 : decode cJ9_floorMod_7cf53 0 = .ok (.iload_n 0, 1) := by decide +kernel
theorem dJ9_floorMod_7cf53_1 : decode cJ9_floorMod_7cf53 1 = .ok (.iload_n 1, 1) := by decide +kernel
theorem dJ9_floorMod_7cf53_2 : decode cJ9_floorMod_7cf53 2 = .ok (.irem, 1) := by decide +kernel
theorem dJ9_floorMod_7cf53_3 : decode cJ9_floorMod_7cf53 3 = .ok (.istore_n 2, 1) := by decide +kernel
theorem dJ9_floorMod_7cf53_4 : decode cJ9_floorMod_7cf53 4 = .ok (.iload_n 0, 1) := by decide +kernel
theorem dJ9_floorMod_7cf53_5 : decode cJ9_floorMod_7cf53 5 = .ok (.iload_n 1, 1) := by decide +kernel
theorem dJ9_floorMod_7cf53_6 : decode cJ9_floorMod_7cf53 6 = .ok (.ixor, 1) := by decide +kernel
theorem dJ9_floorMod_7cf53_7 : decode cJ9_floorMod_7cf53 7 = .ok (.ifCond .ge 11, 3) := by decide +kernel
theorem dJ9_floorMod_7cf53_10 : decode cJ9_floorMod_7cf53 10 = .ok (.iload_n 2, 1) := by decide +kernel
theorem dJ9_floorMod_7cf53_11 : decode cJ9_floorMod_7cf53 11 = .ok (.ifCond .eq 7, 3) := by decide +kernel
theorem dJ9_floorMod_7cf53_14 : decode cJ9_floorMod_7cf53 14 = .ok (.iload_n 2, 1) := by decide +kernel
theorem dJ9_floorMod_7cf53_15 : decode cJ9_floorMod_7cf53 15 = .ok (.iload_n 1, 1) := by decide +kernel
theorem dJ9_floorMod_7cf53_16 : decode cJ9_floorMod_7cf53 16 = .ok (.iadd, 1) := by decide +kernel
theorem dJ9_floorMod_7cf53_17 : decode cJ9_floorMod_7cf53 17 = .ok (.ireturn, 1) := by decide +kernel
theorem dJ9_floorMod_7cf53_18 : decode cJ9_floorMod_7cf53 18 = .ok (.iload_n 2, 1) := by decide +kernel
theorem dJ9_floorMod_7cf53_19 : decode cJ9_floorMod_7cf53 19 = .ok (.ireturn, 1) := by decide +kernel
theorem dJ0_length_8abf5_0 : decode cJ0_length_8abf5 0 = .ok (.aload_n 0, 1) := by decide +kernel
theorem dJ0_length_8abf5_1 : decode cJ0_length_8abf5 1 = .ok (.getfield 9, 3) := by decide +kernel
theorem dJ0_length_8abf5_4 : decode cJ0_length_8abf5 4 = .ok (.arraylength, 1) := by decide +kernel
theorem dJ0_length_8abf5_5 : decode cJ0_length_8abf5 5 = .ok (.aload_n 0, 1) := by decide +kernel
theorem dJ0_length_8abf5_6 : decode cJ0_length_8abf5 6 = .ok (.invokevirtual 335, 3) := by decide +kernel
theorem dJ0_length_8abf5_9 : decode cJ0_length_8abf5 9 = .ok (.ishr, 1) := by decide +kernel
theorem dJ0_length_8abf5_10 : decode cJ0_length_8abf5 10 = .ok (.ireturn, 1) := by decide +kernel
theorem dJ0_indexOf_0f7a4_0 : decode cJ0_indexOf_0f7a4 0 = .ok (.aload_n 0, 1) := by decide +kernel
theorem dJ0_indexOf_0f7a4_1 : decode cJ0_indexOf_0f7a4 1 = .ok (.iload_n 1, 1) := by decide +kernel
theorem dJ0_indexOf_0f7a4_2 : decode cJ0_indexOf_0f7a4 2 = .ok (.iconst 0, 1) := by decide +kernel
theorem dJ0_indexOf_0f7a4_3 : decode cJ0_indexOf_0f7a4 3 = .ok (.invokevirtual 633, 3) := by decide +kernel
theorem dJ0_indexOf_0f7a4_6 : decode cJ0_indexOf_0f7a4 6 = .ok (.ireturn, 1) := by decide +kernel
theorem dJ0_indexOf_7cf53_0 : decode cJ0_indexOf_7cf53 0 = .ok (.aload_n 0, 1) := by decide +kernel
theorem dJ0_indexOf_7cf53_1 : decode cJ0_indexOf_7cf53 1 = .ok (.invokevirtual 492, 3) := by decide +kernel
theorem dJ0_indexOf_7cf53_4 : decode cJ0_indexOf_7cf53 4 = .ok (.ifCond .eq 19, 3) := by decide +kernel
theorem dJ0_indexOf_7cf53_7 : decode cJ0_indexOf_7cf53 7 = .ok (.aload_n 0, 1) := by decide +kernel
theorem dJ0_indexOf_7cf53_8 : decode cJ0_indexOf_7cf53 8 = .ok (.getfield 9, 3) := by decide +kernel
theorem dJ0_indexOf_7cf53_11 : decode cJ0_indexOf_7cf53 11 = .ok (.iload_n 1, 1) := by decide +kernel
theorem dJ0_indexOf_7cf53_12 : decode cJ0_indexOf_7cf53 12 = .ok (.iload_n 2, 1) := by decide +kernel
theorem dJ0_indexOf_7cf53_13 : decode cJ0_indexOf_7cf53 13 = .ok (.aload_n 0, 1) := by decide +kernel
theorem dJ0_indexOf_7cf53_14 : decode cJ0_indexOf_7cf53 14 = .ok (.invokevirtual 505, 3) := by decide +kernel
theorem dJ0_indexOf_7cf53_17 : decode cJ0_indexOf_7cf53 17 = .ok (.invokestatic 637, 3) := by decide +kernel
theorem dJ0_indexOf_7cf53_20 : decode cJ0_indexOf_7cf53 20 = .ok (.goto 16, 3) := by decide +kernel
theorem dJ0_indexOf_7cf53_36 : decode cJ0_indexOf_7cf53 36 = .ok (.ireturn, 1) := by decide +kernel
theorem dJ0_coder_7d493_0 : decode cJ0_coder_7d493 0 = .ok (.getstatic 38, 3) := by decide +kernel
theorem dJ0_coder_7d493_3 : decode cJ0_coder_7d493 3 = .ok (.ifCond .eq 10, 3) := by decide +kernel
theorem dJ0_coder_7d493_6 : decode cJ0_coder_7d493 6 = .ok (.aload_n 0, 1) := by decide +kernel
theorem dJ0_coder_7d493_7 : decode cJ0_coder_7d493 7 = .ok (.getfield 15, 3) := by decide +kernel
theorem dJ0_coder_7d493_10 : decode cJ0_coder_7d493 10 = .ok (.goto 4, 3) := by decide +kernel
theorem dJ0_coder_7d493_14 : decode cJ0_coder_7d493 14 = .ok (.ireturn, 1) := by decide +kernel
theorem dJ0_isLatin1_aae02_0 : decode cJ0_isLatin1_aae02 0 = .ok (.getstatic 38, 3) := by decide +kernel
theorem dJ0_isLatin1_aae02_3 : decode cJ0_isLatin1_aae02 3 = .ok (.ifCond .eq 14, 3) := by decide +kernel
theorem dJ0_isLatin1_aae02_6 : decode cJ0_isLatin1_aae02 6 = .ok (.aload_n 0, 1) := by decide +kernel
theorem dJ0_isLatin1_aae02_7 : decode cJ0_isLatin1_aae02 7 = .ok (.getfield 15, 3) := by decide +kernel
theorem dJ0_isLatin1_aae02_10 : decode cJ0_isLatin1_aae02 10 = .ok (.ifCond .ne 7, 3) := by decide +kernel
theorem dJ0_isLatin1_aae02_13 : decode cJ0_isLatin1_aae02 13 = .ok (.iconst 1, 1) := by decide +kernel
theorem dJ0_isLatin1_aae02_14 : decode cJ0_isLatin1_aae02 14 = .ok (.goto 4, 3) := by decide +kernel
theorem dJ0_isLatin1_aae02_18 : decode cJ0_isLatin1_aae02 18 = .ok (.ireturn, 1) := by decide +kernel
theorem dJ1_canEncode_9a6ad_0 : decode cJ1_canEncode_9a6ad 0 = .ok (.iload_n 0, 1) := by decide +kernel
theorem dJ1_canEncode_9a6ad_1 : decode cJ1_canEncode_9a6ad 1 = .ok (.ifCond .lt 14, 3) := by decide +kernel
theorem dJ1_canEncode_9a6ad_4 : decode cJ1_canEncode_9a6ad 4 = .ok (.iload_n 0, 1) := by decide +kernel
theorem dJ1_canEncode_9a6ad_5 : decode cJ1_canEncode_9a6ad 5 = .ok (.sipush 255, 3) := by decide +kernel
theorem dJ1_canEncode_9a6ad_8 : decode cJ1_canEncode_9a6ad 8 = .ok (.if_icmp .gt 7, 3) := by decide +kernel
theorem dJ1_canEncode_9a6ad_11 : decode cJ1_canEncode_9a6ad 11 = .ok (.iconst 1, 1) := by decide +kernel
theorem dJ1_canEncode_9a6ad_12 : decode cJ1_canEncode_9a6ad 12 = .ok (.goto 4, 3) := by decide +kernel
theorem dJ1_canEncode_9a6ad_15 : decode cJ1_canEncode_9a6ad 15 = .ok (.iconst 0, 1) := by decide +kernel
theorem dJ1_canEncode_9a6ad_16 : decode cJ1_canEncode_9a6ad 16 = .ok (.ireturn, 1) := by decide +kernel
theorem dJ1_indexOf_4cfef_0 : decode cJ1_indexOf_4cfef 0 = .ok (.iload_n 1, 1) := by decide +kernel
theorem dJ1_indexOf_4cfef_1 : decode cJ1_indexOf_4cfef 1 = .ok (.invokestatic 88, 3) := by decide +kernel
theorem dJ1_indexOf_4cfef_4 : decode cJ1_indexOf_4cfef 4 = .ok (.ifCond .ne 5, 3) := by decide +kernel
theorem dJ1_indexOf_4cfef_7 : decode cJ1_indexOf_4cfef 7 = .ok (.iconst (-1), 1) := by decide +kernel
theorem dJ1_indexOf_4cfef_8 : decode cJ1_indexOf_4cfef 8 = .ok (.ireturn, 1) := by decide +kernel
theorem dJ1_indexOf_4cfef_9 : decode cJ1_indexOf_4cfef 9 = .ok (.iload_n 2, 1) := by decide +kernel
theorem dJ1_indexOf_4cfef_10 : decode cJ1_indexOf_4cfef 10 = .ok (.iconst 0, 1) := by decide +kernel
theorem dJ1_indexOf_4cfef_11 : decode cJ1_indexOf_4cfef 11 = .ok (.invokestatic 92, 3) := by decide +kernel
theorem dJ1_indexOf_4cfef_14 : decode cJ1_indexOf_4cfef 14 = .ok (.istore_n 2, 1) := by decide +kernel
theorem dJ1_indexOf_4cfef_15 : decode cJ1_indexOf_4cfef 15 = .ok (.iload_n 3, 1) := by decide +kernel
theorem dJ1_indexOf_4cfef_16 : decode cJ1_indexOf_4cfef 16 = .ok (.aload_n 0, 1) := by decide +kernel
theorem dJ1_indexOf_4cfef_17 : decode cJ1_indexOf_4cfef 17 = .ok (.arraylength, 1) := by decide +kernel
theorem dJ1_indexOf_4cfef_18 : decode cJ1_indexOf_4cfef 18 = .ok (.invokestatic 38, 3) := by decide +kernel
theorem dJ1_indexOf_4cfef_21 : decode cJ1_indexOf_4cfef 21 = .ok (.istore_n 3, 1) := by decide +kernel
theorem dJ1_indexOf_4cfef_22 : decode cJ1_indexOf_4cfef 22 = .ok (.iload_n 2, 1) := by decide +kernel
theorem dJ1_indexOf_4cfef_23 : decode cJ1_indexOf_4cfef 23 = .ok (.iload_n 3, 1) := by decide +kernel
theorem dJ1_indexOf_4cfef_24 : decode cJ1_indexOf_4cfef 24 = .ok (.if_icmp .lt 5, 3) := by decide +kernel
theorem dJ1_indexOf_4cfef_27 : decode cJ1_indexOf_4cfef 27 = .ok (.iconst (-1), 1) := by decide +kernel
theorem dJ1_indexOf_4cfef_28 : decode cJ1_indexOf_4cfef 28 = .ok (.ireturn, 1) := by decide +kernel
theorem dJ1_indexOf_4cfef_29 : decode cJ1_indexOf_4cfef 29 = .ok (.aload_n 0, 1) := by decide +kernel
theorem dJ1_indexOf_4cfef_30 : decode cJ1_indexOf_4cfef 30 = .ok (.iload_n 1, 1) := by decide +kernel
theorem dJ1_indexOf_4cfef_31 : decode cJ1_indexOf_4cfef 31 = .ok (.iload_n 2, 1) := by decide +kernel
theorem dJ1_indexOf_4cfef_32 : decode cJ1_indexOf_4cfef 32 = .ok (.iload_n 3, 1) := by decide +kernel
theorem dJ1_indexOf_4cfef_33 : decode cJ1_indexOf_4cfef 33 = .ok (.invokestatic 95, 3) := by decide +kernel
theorem dJ1_indexOf_4cfef_36 : decode cJ1_indexOf_4cfef 36 = .ok (.ireturn, 1) := by decide +kernel
theorem dJ1_indexOfChar_4cfef_0 : decode cJ1_indexOfChar_4cfef 0 = .ok (.iload_n 1, 1) := by decide +kernel
theorem dJ1_indexOfChar_4cfef_1 : decode cJ1_indexOfChar_4cfef 1 = .ok (.i2b, 1) := by decide +kernel
theorem dJ1_indexOfChar_4cfef_2 : decode cJ1_indexOfChar_4cfef 2 = .ok (.istore 4, 2) := by decide +kernel
theorem dJ1_indexOfChar_4cfef_4 : decode cJ1_indexOfChar_4cfef 4 = .ok (.iload_n 2, 1) := by decide +kernel
theorem dJ1_indexOfChar_4cfef_5 : decode cJ1_indexOfChar_4cfef 5 = .ok (.istore 5, 2) := by decide +kernel
theorem dJ1_indexOfChar_4cfef_7 : decode cJ1_indexOfChar_4cfef 7 = .ok (.iload 5, 2) := by decide +kernel
theorem dJ1_indexOfChar_4cfef_9 : decode cJ1_indexOfChar_4cfef 9 = .ok (.iload_n 3, 1) := by decide +kernel
theorem dJ1_indexOfChar_4cfef_10 : decode cJ1_indexOfChar_4cfef 10 = .ok (.if_icmp .ge 21, 3) := by decide +kernel
theorem dJ1_indexOfChar_4cfef_13 : decode cJ1_indexOfChar_4cfef 13 = .ok (.aload_n 0, 1) := by decide +kernel
theorem dJ1_indexOfChar_4cfef_14 : decode cJ1_indexOfChar_4cfef 14 = .ok (.iload 5, 2) := by decide +kernel
theorem dJ1_indexOfChar_4cfef_16 : decode cJ1_indexOfChar_4cfef 16 = .ok (.baload, 1) := by decide +kernel
theorem dJ1_indexOfChar_4cfef_17 : decode cJ1_indexOfChar_4cfef 17 = .ok (.iload 4, 2) := by decide +kernel
theorem dJ1_indexOfChar_4cfef_19 : decode cJ1_indexOfChar_4cfef 19 = .ok (.if_icmp .ne 6, 3) := by decide +kernel
theorem dJ1_indexOfChar_4cfef_22 : decode cJ1_indexOfChar_4cfef 22 = .ok (.iload 5, 2) := by decide +kernel
theorem dJ1_indexOfChar_4cfef_24 : decode cJ1_indexOfChar_4cfef 24 = .ok (.ireturn, 1) := by decide +kernel
theorem dJ1_indexOfChar_4cfef_25 : decode cJ1_indexOfChar_4cfef 25 = .ok (.iinc 5 1, 3) := by decide +kernel
theorem dJ1_indexOfChar_4cfef_28 : decode cJ1_indexOfChar_4cfef 28 = .ok (.goto (-21), 3) := by decide +kernel
theorem dJ1_indexOfChar_4cfef_31 : decode cJ1_indexOfChar_4cfef 31 = .ok (.iconst (-1), 1) := by decide +kernel
theorem dJ1_indexOfChar_4cfef_32 : decode cJ1_indexOfChar_4cfef 32 = .ok (.ireturn, 1) := by decide +kernel
theorem dJ7_fill_53178_0 : decode cJ7_fill_53178 0 = .ok (.iconst 0, 1) := by decide +kernel
theorem dJ7_fill_53178_1 : decode cJ7_fill_53178 1 = .ok (.istore_n 2, 1) := by decide +kernel
theorem dJ7_fill_53178_2 : decode cJ7_fill_53178 2 = .ok (.aload_n 0, 1) := by decide +kernel
theorem dJ7_fill_53178_3 : decode cJ7_fill_53178 3 = .ok (.arraylength, 1) := by decide +kernel
theorem dJ7_fill_53178_4 : decode cJ7_fill_53178 4 = .ok (.istore_n 3, 1) := by decide +kernel
theorem dJ7_fill_53178_5 : decode cJ7_fill_53178 5 = .ok (.iload_n 2, 1) := by decide +kernel
theorem dJ7_fill_53178_6 : decode cJ7_fill_53178 6 = .ok (.iload_n 3, 1) := by decide +kernel
theorem dJ7_fill_53178_7 : decode cJ7_fill_53178 7 = .ok (.if_icmp .ge 13, 3) := by decide +kernel
theorem dJ7_fill_53178_10 : decode cJ7_fill_53178 10 = .ok (.aload_n 0, 1) := by decide +kernel
theorem dJ7_fill_53178_11 : decode cJ7_fill_53178 11 = .ok (.iload_n 2, 1) := by decide +kernel
theorem dJ7_fill_53178_12 : decode cJ7_fill_53178 12 = .ok (.iload_n 1, 1) := by decide +kernel
theorem dJ7_fill_53178_13 : decode cJ7_fill_53178 13 = .ok (.iastore, 1) := by decide +kernel
theorem dJ7_fill_53178_14 : decode cJ7_fill_53178 14 = .ok (.iinc 2 1, 3) := by decide +kernel
theorem dJ7_fill_53178_17 : decode cJ7_fill_53178 17 = .ok (.goto (-12), 3) := by decide +kernel
theorem dJ7_fill_53178_20 : decode cJ7_fill_53178 20 = .ok (.return_, 1) := by decide +kernel
