theorem dX6_faultCode_0 : decode cX6_faultCode 0 = .ok (.sipush (-1000), 3) := by decide +kernel
theorem dX6_faultCode_3 : decode cX6_faultCode 3 = .ok (.aload_n 0, 1) := by decide +kernel
theorem dX6_faultCode_4 : decode cX6_faultCode 4 = .ok (.getfield 34, 3) := by decide +kernel
theorem dX6_faultCode_7 : decode cX6_faultCode 7 = .ok (.imul, 1) := by decide +kernel
theorem dX6_faultCode_8 : decode cX6_faultCode 8 = .ok (.aload_n 0, 1) := by decide +kernel
theorem dX6_faultCode_9 : decode cX6_faultCode 9 = .ok (.getfield 28, 3) := by decide +kernel
theorem dX6_faultCode_12 : decode cX6_faultCode 12 = .ok (.isub, 1) := by decide +kernel
theorem dX6_faultCode_13 : decode cX6_faultCode 13 = .ok (.ireturn, 1) := by decide +kernel
theorem dX6_begin_0 : decode cX6_begin 0 = .ok (.aload_n 0, 1) := by decide +kernel
theorem dX6_begin_1 : decode cX6_begin 1 = .ok (.aload_n 1, 1) := by decide +kernel
theorem dX6_begin_2 : decode cX6_begin 2 = .ok (.putfield 21, 3) := by decide +kernel
theorem dX6_begin_5 : decode cX6_begin 5 = .ok (.aload_n 0, 1) := by decide +kernel
theorem dX6_begin_6 : decode cX6_begin 6 = .ok (.iload_n 2, 1) := by decide +kernel
theorem dX6_begin_7 : decode cX6_begin 7 = .ok (.aload_n 1, 1) := by decide +kernel
theorem dX6_begin_8 : decode cX6_begin 8 = .ok (.arraylength, 1) := by decide +kernel
theorem dX6_begin_9 : decode cX6_begin 9 = .ok (.invokestatic 65, 3) := by decide +kernel
theorem dX6_begin_12 : decode cX6_begin 12 = .ok (.putfield 24, 3) := by decide +kernel
theorem dX6_begin_15 : decode cX6_begin 15 = .ok (.aload_n 0, 1) := by decide +kernel
theorem dX6_begin_16 : decode cX6_begin 16 = .ok (.iconst 0, 1) := by decide +kernel
theorem dX6_begin_17 : decode cX6_begin 17 = .ok (.putfield 28, 3) := by decide +kernel
theorem dX6_begin_20 : decode cX6_begin 20 = .ok (.aload_n 0, 1) := by decide +kernel
theorem dX6_begin_21 : decode cX6_begin 21 = .ok (.iconst 0, 1) := by decide +kernel
theorem dX6_begin_22 : decode cX6_begin 22 = .ok (.putfield 31, 3) := by decide +kernel
theorem dX6_begin_25 : decode cX6_begin 25 = .ok (.aload_n 0, 1) := by decide +kernel
theorem dX6_begin_26 : decode cX6_begin 26 = .ok (.iconst 0, 1) := by decide +kernel
theorem dX6_begin_27 : decode cX6_begin 27 = .ok (.putfield 34, 3) := by decide +kernel
theorem dX6_begin_30 : decode cX6_begin 30 = .ok (.aload_n 0, 1) := by decide +kernel
theorem dX6_begin_31 : decode cX6_begin 31 = .ok (.getfield 15, 3) := by decide +kernel
theorem dX6_begin_34 : decode cX6_begin 34 = .ok (.iconst 0, 1) := by decide +kernel
theorem dX6_begin_35 : decode cX6_begin 35 = .ok (.iconst 0, 1) := by decide +kernel
theorem dX6_begin_36 : decode cX6_begin 36 = .ok (.iastore, 1) := by decide +kernel
theorem dX6_begin_37 : decode cX6_begin 37 = .ok (.return_, 1) := by decide +kernel
theorem dX6_next_0 : decode cX6_next 0 = .ok (.aload_n 0, 1) := by decide +kernel
theorem dX6_next_1 : decode cX6_next 1 = .ok (.getfield 28, 3) := by decide +kernel
theorem dX6_next_4 : decode cX6_next 4 = .ok (.aload_n 0, 1) := by decide +kernel
theorem dX6_next_5 : decode cX6_next 5 = .ok (.getfield 24, 3) := by decide +kernel
theorem dX6_next_8 : decode cX6_next 8 = .ok (.if_icmp .ge 15, 3) := by decide +kernel
theorem dX6_next_11 : decode cX6_next 11 = .ok (.aload_n 0, 1) := by decide +kernel
theorem dX6_next_12 : decode cX6_next 12 = .ok (.getfield 21, 3) := by decide +kernel
theorem dX6_next_15 : decode cX6_next 15 = .ok (.aload_n 0, 1) := by decide +kernel
theorem dX6_next_16 : decode cX6_next 16 = .ok (.getfield 28, 3) := by decide +kernel
theorem dX6_next_19 : decode cX6_next 19 = .ok (.iaload, 1) := by decide +kernel
theorem dX6_next_20 : decode cX6_next 20 = .ok (.goto 4, 3) := by decide +kernel
theorem dX6_next_23 : decode cX6_next 23 = .ok (.iconst (-1), 1) := by decide +kernel
theorem dX6_next_24 : decode cX6_next 24 = .ok (.ireturn, 1) := by decide +kernel
theorem dX6_fail_0 : decode cX6_fail 0 = .ok (.aload_n 0, 1) := by decide +kernel
theorem dX6_fail_1 : decode cX6_fail 1 = .ok (.iload_n 1, 1) := by decide +kernel
theorem dX6_fail_2 : decode cX6_fail 2 = .ok (.putfield 34, 3) := by decide +kernel
theorem dX6_fail_5 : decode cX6_fail 5 = .ok (.iconst 0, 1) := by decide +kernel
theorem dX6_fail_6 : decode cX6_fail 6 = .ok (.ireturn, 1) := by decide +kernel
theorem dX6_signStands_0 : decode cX6_signStands 0 = .ok (.aload_n 0, 1) := by decide +kernel
theorem dX6_signStands_1 : decode cX6_signStands 1 = .ok (.invokevirtual 53, 3) := by decide +kernel
theorem dX6_signStands_4 : decode cX6_signStands 4 = .ok (.iload_n 1, 1) := by decide +kernel
theorem dX6_signStands_5 : decode cX6_signStands 5 = .ok (.if_icmp .eq 9, 3) := by decide +kernel
theorem dX6_signStands_8 : decode cX6_signStands 8 = .ok (.aload_n 0, 1) := by decide +kernel
theorem dX6_signStands_9 : decode cX6_signStands 9 = .ok (.iconst 1, 1) := by decide +kernel
theorem dX6_signStands_10 : decode cX6_signStands 10 = .ok (.invokevirtual 57, 3) := by decide +kernel
theorem dX6_signStands_13 : decode cX6_signStands 13 = .ok (.ireturn, 1) := by decide +kernel
theorem dX6_signStands_14 : decode cX6_signStands 14 = .ok (.aload_n 0, 1) := by decide +kernel
theorem dX6_signStands_15 : decode cX6_signStands 15 = .ok (.dup, 1) := by decide +kernel
theorem dX6_signStands_16 : decode cX6_signStands 16 = .ok (.getfield 28, 3) := by decide +kernel
theorem dX6_signStands_19 : decode cX6_signStands 19 = .ok (.iconst 1, 1) := by decide +kernel
theorem dX6_signStands_20 : decode cX6_signStands 20 = .ok (.iadd, 1) := by decide +kernel
theorem dX6_signStands_21 : decode cX6_signStands 21 = .ok (.putfield 28, 3) := by decide +kernel
theorem dX6_signStands_24 : decode cX6_signStands 24 = .ok (.iconst 1, 1) := by decide +kernel
theorem dX6_signStands_25 : decode cX6_signStands 25 = .ok (.ireturn, 1) := by decide +kernel
theorem dX6_put_0 : decode cX6_put 0 = .ok (.aload_n 0, 1) := by decide +kernel
theorem dX6_put_1 : decode cX6_put 1 = .ok (.getfield 31, 3) := by decide +kernel
theorem dX6_put_4 : decode cX6_put 4 = .ok (.aload_n 0, 1) := by decide +kernel
theorem dX6_put_5 : decode cX6_put 5 = .ok (.getfield 9, 3) := by decide +kernel
theorem dX6_put_8 : decode cX6_put 8 = .ok (.arraylength, 1) := by decide +kernel
theorem dX6_put_9 : decode cX6_put 9 = .ok (.if_icmp .ge 28, 3) := by decide +kernel
theorem dX6_put_12 : decode cX6_put 12 = .ok (.aload_n 0, 1) := by decide +kernel
theorem dX6_put_13 : decode cX6_put 13 = .ok (.getfield 9, 3) := by decide +kernel
theorem dX6_put_16 : decode cX6_put 16 = .ok (.aload_n 0, 1) := by decide +kernel
theorem dX6_put_17 : decode cX6_put 17 = .ok (.getfield 31, 3) := by decide +kernel
theorem dX6_put_20 : decode cX6_put 20 = .ok (.iload_n 2, 1) := by decide +kernel
theorem dX6_put_21 : decode cX6_put 21 = .ok (.bipush 8, 2) := by decide +kernel
theorem dX6_put_23 : decode cX6_put 23 = .ok (.ishl, 1) := by decide +kernel
theorem dX6_put_24 : decode cX6_put 24 = .ok (.iload_n 1, 1) := by decide +kernel
theorem dX6_put_25 : decode cX6_put 25 = .ok (.ior, 1) := by decide +kernel
theorem dX6_put_26 : decode cX6_put 26 = .ok (.iastore, 1) := by decide +kernel
theorem dX6_put_27 : decode cX6_put 27 = .ok (.aload_n 0, 1) := by decide +kernel
theorem dX6_put_28 : decode cX6_put 28 = .ok (.dup, 1) := by decide +kernel
theorem dX6_put_29 : decode cX6_put 29 = .ok (.getfield 31, 3) := by decide +kernel
theorem dX6_put_32 : decode cX6_put 32 = .ok (.iconst 1, 1) := by decide +kernel
theorem dX6_put_33 : decode cX6_put 33 = .ok (.iadd, 1) := by decide +kernel
theorem dX6_put_34 : decode cX6_put 34 = .ok (.putfield 31, 3) := by decide +kernel
theorem dX6_put_37 : decode cX6_put 37 = .ok (.return_, 1) := by decide +kernel
theorem dX6_leapHere_0 : decode cX6_leapHere 0 = .ok (.iload_n 1, 1) := by decide +kernel
theorem dX6_leapHere_1 : decode cX6_leapHere 1 = .ok (.aload_n 0, 1) := by decide +kernel
theorem dX6_leapHere_2 : decode cX6_leapHere 2 = .ok (.getfield 31, 3) := by decide +kernel
theorem dX6_leapHere_5 : decode cX6_leapHere 5 = .ok (.if_icmp .ge 27, 3) := by decide +kernel
theorem dX6_leapHere_8 : decode cX6_leapHere 8 = .ok (.aload_n 0, 1) := by decide +kernel
theorem dX6_leapHere_9 : decode cX6_leapHere 9 = .ok (.getfield 9, 3) := by decide +kernel
theorem dX6_leapHere_12 : decode cX6_leapHere 12 = .ok (.iload_n 1, 1) := by decide +kernel
theorem dX6_leapHere_13 : decode cX6_leapHere 13 = .ok (.aload_n 0, 1) := by decide +kernel
theorem dX6_leapHere_14 : decode cX6_leapHere 14 = .ok (.getfield 31, 3) := by decide +kernel
theorem dX6_leapHere_17 : decode cX6_leapHere 17 = .ok (.bipush 8, 2) := by decide +kernel
theorem dX6_leapHere_19 : decode cX6_leapHere 19 = .ok (.ishl, 1) := by decide +kernel
theorem dX6_leapHere_20 : decode cX6_leapHere 20 = .ok (.aload_n 0, 1) := by decide +kernel
theorem dX6_leapHere_21 : decode cX6_leapHere 21 = .ok (.getfield 9, 3) := by decide +kernel
theorem dX6_leapHere_24 : decode cX6_leapHere 24 = .ok (.iload_n 1, 1) := by decide +kernel
theorem dX6_leapHere_25 : decode cX6_leapHere 25 = .ok (.iaload, 1) := by decide +kernel
theorem dX6_leapHere_26 : decode cX6_leapHere 26 = .ok (.sipush 255, 3) := by decide +kernel
theorem dX6_leapHere_29 : decode cX6_leapHere 29 = .ok (.iand, 1) := by decide +kernel
theorem dX6_leapHere_30 : decode cX6_leapHere 30 = .ok (.ior, 1) := by decide +kernel
theorem dX6_leapHere_31 : decode cX6_leapHere 31 = .ok (.iastore, 1) := by decide +kernel
theorem dX6_leapHere_32 : decode cX6_leapHere 32 = .ok (.return_, 1) := by decide +kernel
theorem dX6_rowStands_0 : decode cX6_rowStands 0 = .ok (.aload_n 0, 1) := by decide +kernel
theorem dX6_rowStands_1 : decode cX6_rowStands 1 = .ok (.iload_n 1, 1) := by decide +kernel
theorem dX6_rowStands_2 : decode cX6_rowStands 2 = .ok (.iload_n 2, 1) := by decide +kernel
theorem dX6_rowStands_3 : decode cX6_rowStands 3 = .ok (.invokevirtual 82, 3) := by decide +kernel
theorem dX6_rowStands_6 : decode cX6_rowStands 6 = .ok (.ifCond .ne 5, 3) := by decide +kernel
theorem dX6_rowStands_9 : decode cX6_rowStands 9 = .ok (.iconst 0, 1) := by decide +kernel
theorem dX6_rowStands_10 : decode cX6_rowStands 10 = .ok (.ireturn, 1) := by decide +kernel
theorem dX6_rowStands_11 : decode cX6_rowStands 11 = .ok (.iconst 0, 1) := by decide +kernel
theorem dX6_rowStands_12 : decode cX6_rowStands 12 = .ok (.istore_n 3, 1) := by decide +kernel
theorem dX6_rowStands_13 : decode cX6_rowStands 13 = .ok (.iload_n 3, 1) := by decide +kernel
theorem dX6_rowStands_14 : decode cX6_rowStands 14 = .ok (.aload_n 0, 1) := by decide +kernel
theorem dX6_rowStands_15 : decode cX6_rowStands 15 = .ok (.getfield 24, 3) := by decide +kernel
theorem dX6_rowStands_18 : decode cX6_rowStands 18 = .ok (.if_icmp .ge 102, 3) := by decide +kernel
theorem dX6_rowStands_21 : decode cX6_rowStands 21 = .ok (.iload_n 1, 1) := by decide +kernel
theorem dX6_rowStands_22 : decode cX6_rowStands 22 = .ok (.aload_n 0, 1) := by decide +kernel
theorem dX6_rowStands_23 : decode cX6_rowStands 23 = .ok (.invokevirtual 53, 3) := by decide +kernel
theorem dX6_rowStands_26 : decode cX6_rowStands 26 = .ok (.invokestatic 85, 3) := by decide +kernel
theorem dX6_rowStands_29 : decode cX6_rowStands 29 = .ok (.ifCond .eq 91, 3) := by decide +kernel
theorem dX6_rowStands_32 : decode cX6_rowStands 32 = .ok (.aload_n 0, 1) := by decide +kernel
theorem dX6_rowStands_33 : decode cX6_rowStands 33 = .ok (.invokevirtual 53, 3) := by decide +kernel
theorem dX6_rowStands_36 : decode cX6_rowStands 36 = .ok (.istore 4, 2) := by decide +kernel
theorem dX6_rowStands_38 : decode cX6_rowStands 38 = .ok (.aload_n 0, 1) := by decide +kernel
theorem dX6_rowStands_39 : decode cX6_rowStands 39 = .ok (.getfield 31, 3) := by decide +kernel
theorem dX6_rowStands_42 : decode cX6_rowStands 42 = .ok (.istore 5, 2) := by decide +kernel
theorem dX6_rowStands_44 : decode cX6_rowStands 44 = .ok (.iload_n 1, 1) := by decide +kernel
theorem dX6_rowStands_45 : decode cX6_rowStands 45 = .ok (.ifCond .eq 8, 3) := by decide +kernel
theorem dX6_rowStands_48 : decode cX6_rowStands 48 = .ok (.iload_n 1, 1) := by decide +kernel
theorem dX6_rowStands_49 : decode cX6_rowStands 49 = .ok (.iconst 1, 1) := by decide +kernel
theorem dX6_rowStands_50 : decode cX6_rowStands 50 = .ok (.if_icmp .ne 7, 3) := by decide +kernel
theorem dX6_rowStands_53 : decode cX6_rowStands 53 = .ok (.iconst 1, 1) := by decide +kernel
theorem dX6_rowStands_54 : decode cX6_rowStands 54 = .ok (.goto 4, 3) := by decide +kernel
theorem dX6_rowStands_57 : decode cX6_rowStands 57 = .ok (.iconst 0, 1) := by decide +kernel
theorem dX6_rowStands_58 : decode cX6_rowStands 58 = .ok (.istore 6, 2) := by decide +kernel
theorem dX6_rowStands_60 : decode cX6_rowStands 60 = .ok (.iload 6, 2) := by decide +kernel
theorem dX6_rowStands_62 : decode cX6_rowStands 62 = .ok (.ifCond .eq 10, 3) := by decide +kernel
theorem dX6_rowStands_65 : decode cX6_rowStands 65 = .ok (.aload_n 0, 1) := by decide +kernel
theorem dX6_rowStands_66 : decode cX6_rowStands 66 = .ok (.iload 4, 2) := by decide +kernel
theorem dX6_rowStands_68 : decode cX6_rowStands 68 = .ok (.iconst 0, 1) := by decide +kernel
theorem dX6_rowStands_69 : decode cX6_rowStands 69 = .ok (.invokevirtual 88, 3) := by decide +kernel
theorem dX6_rowStands_72 : decode cX6_rowStands 72 = .ok (.aload_n 0, 1) := by decide +kernel
theorem dX6_rowStands_73 : decode cX6_rowStands 73 = .ok (.dup, 1) := by decide +kernel
theorem dX6_rowStands_74 : decode cX6_rowStands 74 = .ok (.getfield 28, 3) := by decide +kernel
theorem dX6_rowStands_77 : decode cX6_rowStands 77 = .ok (.iconst 1, 1) := by decide +kernel
theorem dX6_rowStands_78 : decode cX6_rowStands 78 = .ok (.iadd, 1) := by decide +kernel
theorem dX6_rowStands_79 : decode cX6_rowStands 79 = .ok (.putfield 28, 3) := by decide +kernel
theorem dX6_rowStands_82 : decode cX6_rowStands 82 = .ok (.aload_n 0, 1) := by decide +kernel
theorem dX6_rowStands_83 : decode cX6_rowStands 83 = .ok (.iload_n 1, 1) := by decide +kernel
theorem dX6_rowStands_84 : decode cX6_rowStands 84 = .ok (.iload_n 2, 1) := by decide +kernel
theorem dX6_rowStands_85 : decode cX6_rowStands 85 = .ok (.invokevirtual 82, 3) := by decide +kernel
theorem dX6_rowStands_88 : decode cX6_rowStands 88 = .ok (.ifCond .ne 5, 3) := by decide +kernel
theorem dX6_rowStands_91 : decode cX6_rowStands 91 = .ok (.iconst 0, 1) := by decide +kernel
theorem dX6_rowStands_92 : decode cX6_rowStands 92 = .ok (.ireturn, 1) := by decide +kernel
theorem dX6_rowStands_93 : decode cX6_rowStands 93 = .ok (.iload 6, 2) := by decide +kernel
theorem dX6_rowStands_95 : decode cX6_rowStands 95 = .ok (.ifCond .eq 12, 3) := by decide +kernel
theorem dX6_rowStands_98 : decode cX6_rowStands 98 = .ok (.aload_n 0, 1) := by decide +kernel
theorem dX6_rowStands_99 : decode cX6_rowStands 99 = .ok (.iload 5, 2) := by decide +kernel
theorem dX6_rowStands_101 : decode cX6_rowStands 101 = .ok (.invokevirtual 92, 3) := by decide +kernel
theorem dX6_rowStands_104 : decode cX6_rowStands 104 = .ok (.goto 10, 3) := by decide +kernel
theorem dX6_rowStands_107 : decode cX6_rowStands 107 = .ok (.aload_n 0, 1) := by decide +kernel
theorem dX6_rowStands_108 : decode cX6_rowStands 108 = .ok (.iload 4, 2) := by decide +kernel
theorem dX6_rowStands_110 : decode cX6_rowStands 110 = .ok (.iconst 0, 1) := by decide +kernel
theorem dX6_rowStands_111 : decode cX6_rowStands 111 = .ok (.invokevirtual 88, 3) := by decide +kernel
theorem dX6_rowStands_114 : decode cX6_rowStands 114 = .ok (.iinc 3 1, 3) := by decide +kernel
theorem dX6_rowStands_117 : decode cX6_rowStands 117 = .ok (.goto (-104), 3) := by decide +kernel
theorem dX6_rowStands_120 : decode cX6_rowStands 120 = .ok (.iconst 1, 1) := by decide +kernel
theorem dX6_rowStands_121 : decode cX6_rowStands 121 = .ok (.ireturn, 1) := by decide +kernel
theorem dX6_operandStands_0 : decode cX6_operandStands 0 = .ok (.iload_n 1, 1) := by decide +kernel
theorem dX6_operandStands_1 : decode cX6_operandStands 1 = .ok (.tableswitch 47 0 2 #[27, 34, 40], 27) := by decide +kernel
theorem dX6_operandStands_28 : decode cX6_operandStands 28 = .ok (.aload_n 0, 1) := by decide +kernel
theorem dX6_operandStands_29 : decode cX6_operandStands 29 = .ok (.iconst 1, 1) := by decide +kernel
theorem dX6_operandStands_30 : decode cX6_operandStands 30 = .ok (.iload_n 2, 1) := by decide +kernel
theorem dX6_operandStands_31 : decode cX6_operandStands 31 = .ok (.invokevirtual 61, 3) := by decide +kernel
theorem dX6_operandStands_34 : decode cX6_operandStands 34 = .ok (.ireturn, 1) := by decide +kernel
theorem dX6_operandStands_35 : decode cX6_operandStands 35 = .ok (.aload_n 0, 1) := by decide +kernel
theorem dX6_operandStands_36 : decode cX6_operandStands 36 = .ok (.iload_n 2, 1) := by decide +kernel
theorem dX6_operandStands_37 : decode cX6_operandStands 37 = .ok (.invokevirtual 96, 3) := by decide +kernel
theorem dX6_operandStands_40 : decode cX6_operandStands 40 = .ok (.ireturn, 1) := by decide +kernel
theorem dX6_operandStands_41 : decode cX6_operandStands 41 = .ok (.aload_n 0, 1) := by decide +kernel
theorem dX6_operandStands_42 : decode cX6_operandStands 42 = .ok (.iconst 3, 1) := by decide +kernel
theorem dX6_operandStands_43 : decode cX6_operandStands 43 = .ok (.iload_n 2, 1) := by decide +kernel
theorem dX6_operandStands_44 : decode cX6_operandStands 44 = .ok (.invokevirtual 61, 3) := by decide +kernel
theorem dX6_operandStands_47 : decode cX6_operandStands 47 = .ok (.ireturn, 1) := by decide +kernel
theorem dX6_operandStands_48 : decode cX6_operandStands 48 = .ok (.aload_n 0, 1) := by decide +kernel
theorem dX6_operandStands_49 : decode cX6_operandStands 49 = .ok (.iload_n 2, 1) := by decide +kernel
theorem dX6_operandStands_50 : decode cX6_operandStands 50 = .ok (.invokevirtual 99, 3) := by decide +kernel
theorem dX6_operandStands_53 : decode cX6_operandStands 53 = .ok (.ireturn, 1) := by decide +kernel
theorem dX6_joins_0 : decode cX6_joins 0 = .ok (.iload_n 0, 1) := by decide +kernel
theorem dX6_joins_1 : decode cX6_joins 1 = .ok (.tableswitch 69 0 2 #[27, 39, 51], 27) := by decide +kernel
theorem dX6_joins_28 : decode cX6_joins 28 = .ok (.iload_n 1, 1) := by decide +kernel
theorem dX6_joins_29 : decode cX6_joins 29 = .ok (.bipush 124, 2) := by decide +kernel
theorem dX6_joins_31 : decode cX6_joins 31 = .ok (.if_icmp .ne 7, 3) := by decide +kernel
theorem dX6_joins_34 : decode cX6_joins 34 = .ok (.iconst 1, 1) := by decide +kernel
theorem dX6_joins_35 : decode cX6_joins 35 = .ok (.goto 4, 3) := by decide +kernel
theorem dX6_joins_38 : decode cX6_joins 38 = .ok (.iconst 0, 1) := by decide +kernel
theorem dX6_joins_39 : decode cX6_joins 39 = .ok (.ireturn, 1) := by decide +kernel
theorem dX6_joins_40 : decode cX6_joins 40 = .ok (.iload_n 1, 1) := by decide +kernel
theorem dX6_joins_41 : decode cX6_joins 41 = .ok (.bipush 38, 2) := by decide +kernel
theorem dX6_joins_43 : decode cX6_joins 43 = .ok (.if_icmp .ne 7, 3) := by decide +kernel
theorem dX6_joins_46 : decode cX6_joins 46 = .ok (.iconst 1, 1) := by decide +kernel
theorem dX6_joins_47 : decode cX6_joins 47 = .ok (.goto 4, 3) := by decide +kernel
theorem dX6_joins_50 : decode cX6_joins 50 = .ok (.iconst 0, 1) := by decide +kernel
theorem dX6_joins_51 : decode cX6_joins 51 = .ok (.ireturn, 1) := by decide +kernel
theorem dX6_joins_52 : decode cX6_joins 52 = .ok (.iload_n 1, 1) := by decide +kernel
theorem dX6_joins_53 : decode cX6_joins 53 = .ok (.bipush 43, 2) := by decide +kernel
theorem dX6_joins_55 : decode cX6_joins 55 = .ok (.if_icmp .eq 9, 3) := by decide +kernel
theorem dX6_joins_58 : decode cX6_joins 58 = .ok (.iload_n 1, 1) := by decide +kernel
theorem dX6_joins_59 : decode cX6_joins 59 = .ok (.bipush 45, 2) := by decide +kernel
theorem dX6_joins_61 : decode cX6_joins 61 = .ok (.if_icmp .ne 7, 3) := by decide +kernel
theorem dX6_joins_64 : decode cX6_joins 64 = .ok (.iconst 1, 1) := by decide +kernel
theorem dX6_joins_65 : decode cX6_joins 65 = .ok (.goto 4, 3) := by decide +kernel
theorem dX6_joins_68 : decode cX6_joins 68 = .ok (.iconst 0, 1) := by decide +kernel
theorem dX6_joins_69 : decode cX6_joins 69 = .ok (.ireturn, 1) := by decide +kernel
theorem dX6_joins_70 : decode cX6_joins 70 = .ok (.iload_n 1, 1) := by decide +kernel
theorem dX6_joins_71 : decode cX6_joins 71 = .ok (.bipush 42, 2) := by decide +kernel
theorem dX6_joins_73 : decode cX6_joins 73 = .ok (.if_icmp .eq 15, 3) := by decide +kernel
theorem dX6_joins_76 : decode cX6_joins 76 = .ok (.iload_n 1, 1) := by decide +kernel
theorem dX6_joins_77 : decode cX6_joins 77 = .ok (.bipush 47, 2) := by decide +kernel
theorem dX6_joins_79 : decode cX6_joins 79 = .ok (.if_icmp .eq 9, 3) := by decide +kernel
theorem dX6_joins_82 : decode cX6_joins 82 = .ok (.iload_n 1, 1) := by decide +kernel
theorem dX6_joins_83 : decode cX6_joins 83 = .ok (.bipush 37, 2) := by decide +kernel
theorem dX6_joins_85 : decode cX6_joins 85 = .ok (.if_icmp .ne 7, 3) := by decide +kernel
theorem dX6_joins_88 : decode cX6_joins 88 = .ok (.iconst 1, 1) := by decide +kernel
theorem dX6_joins_89 : decode cX6_joins 89 = .ok (.goto 4, 3) := by decide +kernel
theorem dX6_joins_92 : decode cX6_joins 92 = .ok (.iconst 0, 1) := by decide +kernel
theorem dX6_joins_93 : decode cX6_joins 93 = .ok (.ireturn, 1) := by decide +kernel
theorem dX6_pieceStands_0 : decode cX6_pieceStands 0 = .ok (.aload_n 0, 1) := by decide +kernel
theorem dX6_pieceStands_1 : decode cX6_pieceStands 1 = .ok (.invokevirtual 53, 3) := by decide +kernel
theorem dX6_pieceStands_4 : decode cX6_pieceStands 4 = .ok (.istore_n 2, 1) := by decide +kernel
theorem dX6_pieceStands_5 : decode cX6_pieceStands 5 = .ok (.iload_n 2, 1) := by decide +kernel
theorem dX6_pieceStands_6 : decode cX6_pieceStands 6 = .ok (.bipush 33, 2) := by decide +kernel
theorem dX6_pieceStands_8 : decode cX6_pieceStands 8 = .ok (.if_icmp .eq 9, 3) := by decide +kernel
theorem dX6_pieceStands_11 : decode cX6_pieceStands 11 = .ok (.iload_n 2, 1) := by decide +kernel
theorem dX6_pieceStands_12 : decode cX6_pieceStands 12 = .ok (.bipush 40, 2) := by decide +kernel
theorem dX6_pieceStands_14 : decode cX6_pieceStands 14 = .ok (.if_icmp .ne 78, 3) := by decide +kernel
theorem dX6_pieceStands_17 : decode cX6_pieceStands 17 = .ok (.iload_n 1, 1) := by decide +kernel
theorem dX6_pieceStands_18 : decode cX6_pieceStands 18 = .ok (.bipush 6, 2) := by decide +kernel
theorem dX6_pieceStands_20 : decode cX6_pieceStands 20 = .ok (.if_icmp .lt 9, 3) := by decide +kernel
theorem dX6_pieceStands_23 : decode cX6_pieceStands 23 = .ok (.aload_n 0, 1) := by decide +kernel
theorem dX6_pieceStands_24 : decode cX6_pieceStands 24 = .ok (.iconst 5, 1) := by decide +kernel
theorem dX6_pieceStands_25 : decode cX6_pieceStands 25 = .ok (.invokevirtual 57, 3) := by decide +kernel
theorem dX6_pieceStands_28 : decode cX6_pieceStands 28 = .ok (.ireturn, 1) := by decide +kernel
theorem dX6_pieceStands_29 : decode cX6_pieceStands 29 = .ok (.aload_n 0, 1) := by decide +kernel
theorem dX6_pieceStands_30 : decode cX6_pieceStands 30 = .ok (.dup, 1) := by decide +kernel
theorem dX6_pieceStands_31 : decode cX6_pieceStands 31 = .ok (.getfield 28, 3) := by decide +kernel
theorem dX6_pieceStands_34 : decode cX6_pieceStands 34 = .ok (.iconst 1, 1) := by decide +kernel
theorem dX6_pieceStands_35 : decode cX6_pieceStands 35 = .ok (.iadd, 1) := by decide +kernel
theorem dX6_pieceStands_36 : decode cX6_pieceStands 36 = .ok (.putfield 28, 3) := by decide +kernel
theorem dX6_pieceStands_39 : decode cX6_pieceStands 39 = .ok (.iload_n 2, 1) := by decide +kernel
theorem dX6_pieceStands_40 : decode cX6_pieceStands 40 = .ok (.bipush 40, 2) := by decide +kernel
theorem dX6_pieceStands_42 : decode cX6_pieceStands 42 = .ok (.if_icmp .ne 29, 3) := by decide +kernel
theorem dX6_pieceStands_45 : decode cX6_pieceStands 45 = .ok (.aload_n 0, 1) := by decide +kernel
theorem dX6_pieceStands_46 : decode cX6_pieceStands 46 = .ok (.iconst 0, 1) := by decide +kernel
theorem dX6_pieceStands_47 : decode cX6_pieceStands 47 = .ok (.iload_n 1, 1) := by decide +kernel
theorem dX6_pieceStands_48 : decode cX6_pieceStands 48 = .ok (.iconst 1, 1) := by decide +kernel
theorem dX6_pieceStands_49 : decode cX6_pieceStands 49 = .ok (.iadd, 1) := by decide +kernel
theorem dX6_pieceStands_50 : decode cX6_pieceStands 50 = .ok (.invokevirtual 61, 3) := by decide +kernel
theorem dX6_pieceStands_53 : decode cX6_pieceStands 53 = .ok (.ifCond .eq 16, 3) := by decide +kernel
theorem dX6_pieceStands_56 : decode cX6_pieceStands 56 = .ok (.aload_n 0, 1) := by decide +kernel
theorem dX6_pieceStands_57 : decode cX6_pieceStands 57 = .ok (.bipush 41, 2) := by decide +kernel
theorem dX6_pieceStands_59 : decode cX6_pieceStands 59 = .ok (.invokevirtual 49, 3) := by decide +kernel
theorem dX6_pieceStands_62 : decode cX6_pieceStands 62 = .ok (.ifCond .eq 7, 3) := by decide +kernel
theorem dX6_pieceStands_65 : decode cX6_pieceStands 65 = .ok (.iconst 1, 1) := by decide +kernel
theorem dX6_pieceStands_66 : decode cX6_pieceStands 66 = .ok (.goto 4, 3) := by decide +kernel
theorem dX6_pieceStands_69 : decode cX6_pieceStands 69 = .ok (.iconst 0, 1) := by decide +kernel
theorem dX6_pieceStands_70 : decode cX6_pieceStands 70 = .ok (.ireturn, 1) := by decide +kernel
theorem dX6_pieceStands_71 : decode cX6_pieceStands 71 = .ok (.aload_n 0, 1) := by decide +kernel
theorem dX6_pieceStands_72 : decode cX6_pieceStands 72 = .ok (.iload_n 1, 1) := by decide +kernel
theorem dX6_pieceStands_73 : decode cX6_pieceStands 73 = .ok (.iconst 1, 1) := by decide +kernel
theorem dX6_pieceStands_74 : decode cX6_pieceStands 74 = .ok (.iadd, 1) := by decide +kernel
theorem dX6_pieceStands_75 : decode cX6_pieceStands 75 = .ok (.invokevirtual 96, 3) := by decide +kernel
theorem dX6_pieceStands_78 : decode cX6_pieceStands 78 = .ok (.ifCond .ne 5, 3) := by decide +kernel
theorem dX6_pieceStands_81 : decode cX6_pieceStands 81 = .ok (.iconst 0, 1) := by decide +kernel
theorem dX6_pieceStands_82 : decode cX6_pieceStands 82 = .ok (.ireturn, 1) := by decide +kernel
theorem dX6_pieceStands_83 : decode cX6_pieceStands 83 = .ok (.aload_n 0, 1) := by decide +kernel
theorem dX6_pieceStands_84 : decode cX6_pieceStands 84 = .ok (.bipush 33, 2) := by decide +kernel
theorem dX6_pieceStands_86 : decode cX6_pieceStands 86 = .ok (.iconst 0, 1) := by decide +kernel
theorem dX6_pieceStands_87 : decode cX6_pieceStands 87 = .ok (.invokevirtual 88, 3) := by decide +kernel
theorem dX6_pieceStands_90 : decode cX6_pieceStands 90 = .ok (.iconst 1, 1) := by decide +kernel
theorem dX6_pieceStands_91 : decode cX6_pieceStands 91 = .ok (.ireturn, 1) := by decide +kernel
theorem dX6_pieceStands_92 : decode cX6_pieceStands 92 = .ok (.aload_n 0, 1) := by decide +kernel
theorem dX6_pieceStands_93 : decode cX6_pieceStands 93 = .ok (.iconst 2, 1) := by decide +kernel
theorem dX6_pieceStands_94 : decode cX6_pieceStands 94 = .ok (.iload_n 1, 1) := by decide +kernel
theorem dX6_pieceStands_95 : decode cX6_pieceStands 95 = .ok (.invokevirtual 61, 3) := by decide +kernel
theorem dX6_pieceStands_98 : decode cX6_pieceStands 98 = .ok (.ifCond .ne 5, 3) := by decide +kernel
theorem dX6_pieceStands_101 : decode cX6_pieceStands 101 = .ok (.iconst 0, 1) := by decide +kernel
theorem dX6_pieceStands_102 : decode cX6_pieceStands 102 = .ok (.ireturn, 1) := by decide +kernel
theorem dX6_pieceStands_103 : decode cX6_pieceStands 103 = .ok (.aload_n 0, 1) := by decide +kernel
theorem dX6_pieceStands_104 : decode cX6_pieceStands 104 = .ok (.invokevirtual 53, 3) := by decide +kernel
theorem dX6_pieceStands_107 : decode cX6_pieceStands 107 = .ok (.istore_n 3, 1) := by decide +kernel
theorem dX6_pieceStands_108 : decode cX6_pieceStands 108 = .ok (.iload_n 3, 1) := by decide +kernel
theorem dX6_pieceStands_109 : decode cX6_pieceStands 109 = .ok (.bipush 60, 2) := by decide +kernel
theorem dX6_pieceStands_111 : decode cX6_pieceStands 111 = .ok (.if_icmp .eq 21, 3) := by decide +kernel
theorem dX6_pieceStands_114 : decode cX6_pieceStands 114 = .ok (.iload_n 3, 1) := by decide +kernel
theorem dX6_pieceStands_115 : decode cX6_pieceStands 115 = .ok (.bipush 62, 2) := by decide +kernel
theorem dX6_pieceStands_117 : decode cX6_pieceStands 117 = .ok (.if_icmp .eq 15, 3) := by decide +kernel
theorem dX6_pieceStands_120 : decode cX6_pieceStands 120 = .ok (.iload_n 3, 1) := by decide +kernel
theorem dX6_pieceStands_121 : decode cX6_pieceStands 121 = .ok (.bipush 61, 2) := by decide +kernel
theorem dX6_pieceStands_123 : decode cX6_pieceStands 123 = .ok (.if_icmp .eq 9, 3) := by decide +kernel
theorem dX6_pieceStands_126 : decode cX6_pieceStands 126 = .ok (.aload_n 0, 1) := by decide +kernel
theorem dX6_pieceStands_127 : decode cX6_pieceStands 127 = .ok (.iconst 1, 1) := by decide +kernel
theorem dX6_pieceStands_128 : decode cX6_pieceStands 128 = .ok (.invokevirtual 57, 3) := by decide +kernel
theorem dX6_pieceStands_131 : decode cX6_pieceStands 131 = .ok (.ireturn, 1) := by decide +kernel
theorem dX6_pieceStands_132 : decode cX6_pieceStands 132 = .ok (.aload_n 0, 1) := by decide +kernel
theorem dX6_pieceStands_133 : decode cX6_pieceStands 133 = .ok (.dup, 1) := by decide +kernel
theorem dX6_pieceStands_134 : decode cX6_pieceStands 134 = .ok (.getfield 28, 3) := by decide +kernel
theorem dX6_pieceStands_137 : decode cX6_pieceStands 137 = .ok (.iconst 1, 1) := by decide +kernel
theorem dX6_pieceStands_138 : decode cX6_pieceStands 138 = .ok (.iadd, 1) := by decide +kernel
theorem dX6_pieceStands_139 : decode cX6_pieceStands 139 = .ok (.putfield 28, 3) := by decide +kernel
theorem dX6_pieceStands_142 : decode cX6_pieceStands 142 = .ok (.aload_n 0, 1) := by decide +kernel
theorem dX6_pieceStands_143 : decode cX6_pieceStands 143 = .ok (.iconst 2, 1) := by decide +kernel
theorem dX6_pieceStands_144 : decode cX6_pieceStands 144 = .ok (.iload_n 1, 1) := by decide +kernel
theorem dX6_pieceStands_145 : decode cX6_pieceStands 145 = .ok (.invokevirtual 61, 3) := by decide +kernel
theorem dX6_pieceStands_148 : decode cX6_pieceStands 148 = .ok (.ifCond .ne 5, 3) := by decide +kernel
theorem dX6_pieceStands_151 : decode cX6_pieceStands 151 = .ok (.iconst 0, 1) := by decide +kernel
theorem dX6_pieceStands_152 : decode cX6_pieceStands 152 = .ok (.ireturn, 1) := by decide +kernel
theorem dX6_pieceStands_153 : decode cX6_pieceStands 153 = .ok (.aload_n 0, 1) := by decide +kernel
theorem dX6_pieceStands_154 : decode cX6_pieceStands 154 = .ok (.iload_n 3, 1) := by decide +kernel
theorem dX6_pieceStands_155 : decode cX6_pieceStands 155 = .ok (.iconst 0, 1) := by decide +kernel
theorem dX6_pieceStands_156 : decode cX6_pieceStands 156 = .ok (.invokevirtual 88, 3) := by decide +kernel
theorem dX6_pieceStands_159 : decode cX6_pieceStands 159 = .ok (.iconst 1, 1) := by decide +kernel
theorem dX6_pieceStands_160 : decode cX6_pieceStands 160 = .ok (.ireturn, 1) := by decide +kernel
theorem dX6_factorStands_0 : decode cX6_factorStands 0 = .ok (.aload_n 0, 1) := by decide +kernel
theorem dX6_factorStands_1 : decode cX6_factorStands 1 = .ok (.invokevirtual 53, 3) := by decide +kernel
theorem dX6_factorStands_4 : decode cX6_factorStands 4 = .ok (.istore_n 2, 1) := by decide +kernel
theorem dX6_factorStands_5 : decode cX6_factorStands 5 = .ok (.iload_n 2, 1) := by decide +kernel
theorem dX6_factorStands_6 : decode cX6_factorStands 6 = .ok (.bipush 91, 2) := by decide +kernel
theorem dX6_factorStands_8 : decode cX6_factorStands 8 = .ok (.if_icmp .ne 51, 3) := by decide +kernel
theorem dX6_factorStands_11 : decode cX6_factorStands 11 = .ok (.iload_n 1, 1) := by decide +kernel
theorem dX6_factorStands_12 : decode cX6_factorStands 12 = .ok (.bipush 6, 2) := by decide +kernel
theorem dX6_factorStands_14 : decode cX6_factorStands 14 = .ok (.if_icmp .lt 9, 3) := by decide +kernel
theorem dX6_factorStands_17 : decode cX6_factorStands 17 = .ok (.aload_n 0, 1) := by decide +kernel
theorem dX6_factorStands_18 : decode cX6_factorStands 18 = .ok (.iconst 5, 1) := by decide +kernel
theorem dX6_factorStands_19 : decode cX6_factorStands 19 = .ok (.invokevirtual 57, 3) := by decide +kernel
theorem dX6_factorStands_22 : decode cX6_factorStands 22 = .ok (.ireturn, 1) := by decide +kernel
theorem dX6_factorStands_23 : decode cX6_factorStands 23 = .ok (.aload_n 0, 1) := by decide +kernel
theorem dX6_factorStands_24 : decode cX6_factorStands 24 = .ok (.dup, 1) := by decide +kernel
theorem dX6_factorStands_25 : decode cX6_factorStands 25 = .ok (.getfield 28, 3) := by decide +kernel
theorem dX6_factorStands_28 : decode cX6_factorStands 28 = .ok (.iconst 1, 1) := by decide +kernel
theorem dX6_factorStands_29 : decode cX6_factorStands 29 = .ok (.iadd, 1) := by decide +kernel
theorem dX6_factorStands_30 : decode cX6_factorStands 30 = .ok (.putfield 28, 3) := by decide +kernel
theorem dX6_factorStands_33 : decode cX6_factorStands 33 = .ok (.aload_n 0, 1) := by decide +kernel
theorem dX6_factorStands_34 : decode cX6_factorStands 34 = .ok (.iconst 2, 1) := by decide +kernel
theorem dX6_factorStands_35 : decode cX6_factorStands 35 = .ok (.iload_n 1, 1) := by decide +kernel
theorem dX6_factorStands_36 : decode cX6_factorStands 36 = .ok (.iconst 1, 1) := by decide +kernel
theorem dX6_factorStands_37 : decode cX6_factorStands 37 = .ok (.iadd, 1) := by decide +kernel
theorem dX6_factorStands_38 : decode cX6_factorStands 38 = .ok (.invokevirtual 61, 3) := by decide +kernel
theorem dX6_factorStands_41 : decode cX6_factorStands 41 = .ok (.ifCond .eq 16, 3) := by decide +kernel
theorem dX6_factorStands_44 : decode cX6_factorStands 44 = .ok (.aload_n 0, 1) := by decide +kernel
theorem dX6_factorStands_45 : decode cX6_factorStands 45 = .ok (.bipush 93, 2) := by decide +kernel
theorem dX6_factorStands_47 : decode cX6_factorStands 47 = .ok (.invokevirtual 49, 3) := by decide +kernel
theorem dX6_factorStands_50 : decode cX6_factorStands 50 = .ok (.ifCond .eq 7, 3) := by decide +kernel
theorem dX6_factorStands_53 : decode cX6_factorStands 53 = .ok (.iconst 1, 1) := by decide +kernel
theorem dX6_factorStands_54 : decode cX6_factorStands 54 = .ok (.goto 4, 3) := by decide +kernel
theorem dX6_factorStands_57 : decode cX6_factorStands 57 = .ok (.iconst 0, 1) := by decide +kernel
theorem dX6_factorStands_58 : decode cX6_factorStands 58 = .ok (.ireturn, 1) := by decide +kernel
theorem dX6_factorStands_59 : decode cX6_factorStands 59 = .ok (.iload_n 2, 1) := by decide +kernel
theorem dX6_factorStands_60 : decode cX6_factorStands 60 = .ok (.invokestatic 102, 3) := by decide +kernel
theorem dX6_factorStands_63 : decode cX6_factorStands 63 = .ok (.ifCond .eq 8, 3) := by decide +kernel
theorem dX6_factorStands_66 : decode cX6_factorStands 66 = .ok (.aload_n 0, 1) := by decide +kernel
theorem dX6_factorStands_67 : decode cX6_factorStands 67 = .ok (.invokevirtual 105, 3) := by decide +kernel
theorem dX6_factorStands_70 : decode cX6_factorStands 70 = .ok (.ireturn, 1) := by decide +kernel
theorem dX6_factorStands_71 : decode cX6_factorStands 71 = .ok (.iload_n 2, 1) := by decide +kernel
theorem dX6_factorStands_72 : decode cX6_factorStands 72 = .ok (.iconst (-1), 1) := by decide +kernel
theorem dX6_factorStands_73 : decode cX6_factorStands 73 = .ok (.if_icmp .eq 13, 3) := by decide +kernel
theorem dX6_factorStands_76 : decode cX6_factorStands 76 = .ok (.ldc 109, 2) := by decide +kernel
theorem dX6_factorStands_78 : decode cX6_factorStands 78 = .ok (.iload_n 2, 1) := by decide +kernel
theorem dX6_factorStands_79 : decode cX6_factorStands 79 = .ok (.i2c, 1) := by decide +kernel
theorem dX6_factorStands_80 : decode cX6_factorStands 80 = .ok (.invokevirtual 111, 3) := by decide +kernel
theorem dX6_factorStands_83 : decode cX6_factorStands 83 = .ok (.ifCond .ge 9, 3) := by decide +kernel
theorem dX6_factorStands_86 : decode cX6_factorStands 86 = .ok (.aload_n 0, 1) := by decide +kernel
theorem dX6_factorStands_87 : decode cX6_factorStands 87 = .ok (.iconst 1, 1) := by decide +kernel
theorem dX6_factorStands_88 : decode cX6_factorStands 88 = .ok (.invokevirtual 57, 3) := by decide +kernel
theorem dX6_factorStands_91 : decode cX6_factorStands 91 = .ok (.ireturn, 1) := by decide +kernel
theorem dX6_factorStands_92 : decode cX6_factorStands 92 = .ok (.aload_n 0, 1) := by decide +kernel
theorem dX6_factorStands_93 : decode cX6_factorStands 93 = .ok (.bipush 97, 2) := by decide +kernel
theorem dX6_factorStands_95 : decode cX6_factorStands 95 = .ok (.iload_n 2, 1) := by decide +kernel
theorem dX6_factorStands_96 : decode cX6_factorStands 96 = .ok (.invokevirtual 88, 3) := by decide +kernel
theorem dX6_factorStands_99 : decode cX6_factorStands 99 = .ok (.aload_n 0, 1) := by decide +kernel
theorem dX6_factorStands_100 : decode cX6_factorStands 100 = .ok (.dup, 1) := by decide +kernel
theorem dX6_factorStands_101 : decode cX6_factorStands 101 = .ok (.getfield 28, 3) := by decide +kernel
theorem dX6_factorStands_104 : decode cX6_factorStands 104 = .ok (.iconst 1, 1) := by decide +kernel
theorem dX6_factorStands_105 : decode cX6_factorStands 105 = .ok (.iadd, 1) := by decide +kernel
theorem dX6_factorStands_106 : decode cX6_factorStands 106 = .ok (.putfield 28, 3) := by decide +kernel
theorem dX6_factorStands_109 : decode cX6_factorStands 109 = .ok (.iconst 1, 1) := by decide +kernel
theorem dX6_factorStands_110 : decode cX6_factorStands 110 = .ok (.ireturn, 1) := by decide +kernel
theorem dX6_numberStands_0 : decode cX6_numberStands 0 = .ok (.iconst 0, 1) := by decide +kernel
theorem dX6_numberStands_1 : decode cX6_numberStands 1 = .ok (.istore_n 1, 1) := by decide +kernel
theorem dX6_numberStands_2 : decode cX6_numberStands 2 = .ok (.iconst 0, 1) := by decide +kernel
theorem dX6_numberStands_3 : decode cX6_numberStands 3 = .ok (.istore_n 2, 1) := by decide +kernel
theorem dX6_numberStands_4 : decode cX6_numberStands 4 = .ok (.iload_n 2, 1) := by decide +kernel
theorem dX6_numberStands_5 : decode cX6_numberStands 5 = .ok (.iconst 5, 1) := by decide +kernel
theorem dX6_numberStands_6 : decode cX6_numberStands 6 = .ok (.if_icmp .ge 42, 3) := by decide +kernel
theorem dX6_numberStands_9 : decode cX6_numberStands 9 = .ok (.aload_n 0, 1) := by decide +kernel
theorem dX6_numberStands_10 : decode cX6_numberStands 10 = .ok (.invokevirtual 53, 3) := by decide +kernel
theorem dX6_numberStands_13 : decode cX6_numberStands 13 = .ok (.invokestatic 102, 3) := by decide +kernel
theorem dX6_numberStands_16 : decode cX6_numberStands 16 = .ok (.ifCond .eq 32, 3) := by decide +kernel
theorem dX6_numberStands_19 : decode cX6_numberStands 19 = .ok (.bipush 10, 2) := by decide +kernel
theorem dX6_numberStands_21 : decode cX6_numberStands 21 = .ok (.iload_n 1, 1) := by decide +kernel
theorem dX6_numberStands_22 : decode cX6_numberStands 22 = .ok (.imul, 1) := by decide +kernel
theorem dX6_numberStands_23 : decode cX6_numberStands 23 = .ok (.aload_n 0, 1) := by decide +kernel
theorem dX6_numberStands_24 : decode cX6_numberStands 24 = .ok (.invokevirtual 53, 3) := by decide +kernel
theorem dX6_numberStands_27 : decode cX6_numberStands 27 = .ok (.iadd, 1) := by decide +kernel
theorem dX6_numberStands_28 : decode cX6_numberStands 28 = .ok (.bipush 48, 2) := by decide +kernel
theorem dX6_numberStands_30 : decode cX6_numberStands 30 = .ok (.isub, 1) := by decide +kernel
theorem dX6_numberStands_31 : decode cX6_numberStands 31 = .ok (.istore_n 1, 1) := by decide +kernel
theorem dX6_numberStands_32 : decode cX6_numberStands 32 = .ok (.aload_n 0, 1) := by decide +kernel
theorem dX6_numberStands_33 : decode cX6_numberStands 33 = .ok (.dup, 1) := by decide +kernel
theorem dX6_numberStands_34 : decode cX6_numberStands 34 = .ok (.getfield 28, 3) := by decide +kernel
theorem dX6_numberStands_37 : decode cX6_numberStands 37 = .ok (.iconst 1, 1) := by decide +kernel
theorem dX6_numberStands_38 : decode cX6_numberStands 38 = .ok (.iadd, 1) := by decide +kernel
theorem dX6_numberStands_39 : decode cX6_numberStands 39 = .ok (.putfield 28, 3) := by decide +kernel
theorem dX6_numberStands_42 : decode cX6_numberStands 42 = .ok (.iinc 2 1, 3) := by decide +kernel
theorem dX6_numberStands_45 : decode cX6_numberStands 45 = .ok (.goto (-41), 3) := by decide +kernel
theorem dX6_numberStands_48 : decode cX6_numberStands 48 = .ok (.aload_n 0, 1) := by decide +kernel
theorem dX6_numberStands_49 : decode cX6_numberStands 49 = .ok (.invokevirtual 53, 3) := by decide +kernel
theorem dX6_numberStands_52 : decode cX6_numberStands 52 = .ok (.invokestatic 102, 3) := by decide +kernel
theorem dX6_numberStands_55 : decode cX6_numberStands 55 = .ok (.ifCond .eq 9, 3) := by decide +kernel
theorem dX6_numberStands_58 : decode cX6_numberStands 58 = .ok (.aload_n 0, 1) := by decide +kernel
theorem dX6_numberStands_59 : decode cX6_numberStands 59 = .ok (.iconst 2, 1) := by decide +kernel
theorem dX6_numberStands_60 : decode cX6_numberStands 60 = .ok (.invokevirtual 57, 3) := by decide +kernel
theorem dX6_numberStands_63 : decode cX6_numberStands 63 = .ok (.ireturn, 1) := by decide +kernel
theorem dX6_numberStands_64 : decode cX6_numberStands 64 = .ok (.aload_n 0, 1) := by decide +kernel
theorem dX6_numberStands_65 : decode cX6_numberStands 65 = .ok (.bipush 48, 2) := by decide +kernel
theorem dX6_numberStands_67 : decode cX6_numberStands 67 = .ok (.iload_n 1, 1) := by decide +kernel
theorem dX6_numberStands_68 : decode cX6_numberStands 68 = .ok (.invokevirtual 88, 3) := by decide +kernel
theorem dX6_numberStands_71 : decode cX6_numberStands 71 = .ok (.iconst 1, 1) := by decide +kernel
theorem dX6_numberStands_72 : decode cX6_numberStands 72 = .ok (.ireturn, 1) := by decide +kernel
theorem dX6_isDigit_0 : decode cX6_isDigit 0 = .ok (.iload_n 0, 1) := by decide +kernel
theorem dX6_isDigit_1 : decode cX6_isDigit 1 = .ok (.bipush 48, 2) := by decide +kernel
theorem dX6_isDigit_3 : decode cX6_isDigit 3 = .ok (.if_icmp .lt 13, 3) := by decide +kernel
theorem dX6_isDigit_6 : decode cX6_isDigit 6 = .ok (.iload_n 0, 1) := by decide +kernel
theorem dX6_isDigit_7 : decode cX6_isDigit 7 = .ok (.bipush 57, 2) := by decide +kernel
theorem dX6_isDigit_9 : decode cX6_isDigit 9 = .ok (.if_icmp .gt 7, 3) := by decide +kernel
theorem dX6_isDigit_12 : decode cX6_isDigit 12 = .ok (.iconst 1, 1) := by decide +kernel
theorem dX6_isDigit_13 : decode cX6_isDigit 13 = .ok (.goto 4, 3) := by decide +kernel
theorem dX6_isDigit_16 : decode cX6_isDigit 16 = .ok (.iconst 0, 1) := by decide +kernel
theorem dX6_isDigit_17 : decode cX6_isDigit 17 = .ok (.ireturn, 1) := by decide +kernel
theorem dX9_put_0 : decode cX9_put 0 = .ok (.bipush 24, 2) := by decide +kernel
theorem dX9_put_2 : decode cX9_put 2 = .ok (.istore_n 2, 1) := by decide +kernel
theorem dX9_put_3 : decode cX9_put 3 = .ok (.iload_n 2, 1) := by decide +kernel
theorem dX9_put_4 : decode cX9_put 4 = .ok (.ifCond .lt 47, 3) := by decide +kernel
theorem dX9_put_7 : decode cX9_put 7 = .ok (.aload_n 0, 1) := by decide +kernel
theorem dX9_put_8 : decode cX9_put 8 = .ok (.getfield 15, 3) := by decide +kernel
theorem dX9_put_11 : decode cX9_put 11 = .ok (.aload_n 0, 1) := by decide +kernel
theorem dX9_put_12 : decode cX9_put 12 = .ok (.getfield 9, 3) := by decide +kernel
theorem dX9_put_15 : decode cX9_put 15 = .ok (.arraylength, 1) := by decide +kernel
theorem dX9_put_16 : decode cX9_put 16 = .ok (.if_icmp .ge 35, 3) := by decide +kernel
theorem dX9_put_19 : decode cX9_put 19 = .ok (.aload_n 0, 1) := by decide +kernel
theorem dX9_put_20 : decode cX9_put 20 = .ok (.getfield 9, 3) := by decide +kernel
theorem dX9_put_23 : decode cX9_put 23 = .ok (.aload_n 0, 1) := by decide +kernel
theorem dX9_put_24 : decode cX9_put 24 = .ok (.getfield 15, 3) := by decide +kernel
theorem dX9_put_27 : decode cX9_put 27 = .ok (.iload_n 1, 1) := by decide +kernel
theorem dX9_put_28 : decode cX9_put 28 = .ok (.iload_n 2, 1) := by decide +kernel
theorem dX9_put_29 : decode cX9_put 29 = .ok (.iushr, 1) := by decide +kernel
theorem dX9_put_30 : decode cX9_put 30 = .ok (.sipush 255, 3) := by decide +kernel
theorem dX9_put_33 : decode cX9_put 33 = .ok (.iand, 1) := by decide +kernel
theorem dX9_put_34 : decode cX9_put 34 = .ok (.iastore, 1) := by decide +kernel
theorem dX9_put_35 : decode cX9_put 35 = .ok (.aload_n 0, 1) := by decide +kernel
theorem dX9_put_36 : decode cX9_put 36 = .ok (.dup, 1) := by decide +kernel
theorem dX9_put_37 : decode cX9_put 37 = .ok (.getfield 15, 3) := by decide +kernel
theorem dX9_put_40 : decode cX9_put 40 = .ok (.iconst 1, 1) := by decide +kernel
theorem dX9_put_41 : decode cX9_put 41 = .ok (.iadd, 1) := by decide +kernel
theorem dX9_put_42 : decode cX9_put 42 = .ok (.putfield 15, 3) := by decide +kernel
theorem dX9_put_45 : decode cX9_put 45 = .ok (.iinc 2 (-8), 3) := by decide +kernel
theorem dX9_put_48 : decode cX9_put 48 = .ok (.goto (-45), 3) := by decide +kernel
theorem dX9_put_51 : decode cX9_put 51 = .ok (.return_, 1) := by decide +kernel
theorem dX9_wordAt_0 : decode cX9_wordAt 0 = .ok (.iconst 4, 1) := by decide +kernel
theorem dX9_wordAt_1 : decode cX9_wordAt 1 = .ok (.iload_n 1, 1) := by decide +kernel
theorem dX9_wordAt_2 : decode cX9_wordAt 2 = .ok (.imul, 1) := by decide +kernel
theorem dX9_wordAt_3 : decode cX9_wordAt 3 = .ok (.istore_n 2, 1) := by decide +kernel
theorem dX9_wordAt_4 : decode cX9_wordAt 4 = .ok (.iload_n 2, 1) := by decide +kernel
theorem dX9_wordAt_5 : decode cX9_wordAt 5 = .ok (.ifCond .lt 13, 3) := by decide +kernel
theorem dX9_wordAt_8 : decode cX9_wordAt 8 = .ok (.iload_n 2, 1) := by decide +kernel
theorem dX9_wordAt_9 : decode cX9_wordAt 9 = .ok (.iconst 3, 1) := by decide +kernel
theorem dX9_wordAt_10 : decode cX9_wordAt 10 = .ok (.iadd, 1) := by decide +kernel
theorem dX9_wordAt_11 : decode cX9_wordAt 11 = .ok (.aload_n 0, 1) := by decide +kernel
theorem dX9_wordAt_12 : decode cX9_wordAt 12 = .ok (.getfield 15, 3) := by decide +kernel
theorem dX9_wordAt_15 : decode cX9_wordAt 15 = .ok (.if_icmp .lt 5, 3) := by decide +kernel
theorem dX9_wordAt_18 : decode cX9_wordAt 18 = .ok (.iconst 0, 1) := by decide +kernel
theorem dX9_wordAt_19 : decode cX9_wordAt 19 = .ok (.ireturn, 1) := by decide +kernel
theorem dX9_wordAt_20 : decode cX9_wordAt 20 = .ok (.aload_n 0, 1) := by decide +kernel
theorem dX9_wordAt_21 : decode cX9_wordAt 21 = .ok (.getfield 9, 3) := by decide +kernel
theorem dX9_wordAt_24 : decode cX9_wordAt 24 = .ok (.iload_n 2, 1) := by decide +kernel
theorem dX9_wordAt_25 : decode cX9_wordAt 25 = .ok (.iaload, 1) := by decide +kernel
theorem dX9_wordAt_26 : decode cX9_wordAt 26 = .ok (.bipush 24, 2) := by decide +kernel
theorem dX9_wordAt_28 : decode cX9_wordAt 28 = .ok (.ishl, 1) := by decide +kernel
theorem dX9_wordAt_29 : decode cX9_wordAt 29 = .ok (.aload_n 0, 1) := by decide +kernel
theorem dX9_wordAt_30 : decode cX9_wordAt 30 = .ok (.getfield 9, 3) := by decide +kernel
theorem dX9_wordAt_33 : decode cX9_wordAt 33 = .ok (.iload_n 2, 1) := by decide +kernel
theorem dX9_wordAt_34 : decode cX9_wordAt 34 = .ok (.iconst 1, 1) := by decide +kernel
theorem dX9_wordAt_35 : decode cX9_wordAt 35 = .ok (.iadd, 1) := by decide +kernel
theorem dX9_wordAt_36 : decode cX9_wordAt 36 = .ok (.iaload, 1) := by decide +kernel
theorem dX9_wordAt_37 : decode cX9_wordAt 37 = .ok (.bipush 16, 2) := by decide +kernel
theorem dX9_wordAt_39 : decode cX9_wordAt 39 = .ok (.ishl, 1) := by decide +kernel
theorem dX9_wordAt_40 : decode cX9_wordAt 40 = .ok (.ior, 1) := by decide +kernel
theorem dX9_wordAt_41 : decode cX9_wordAt 41 = .ok (.aload_n 0, 1) := by decide +kernel
theorem dX9_wordAt_42 : decode cX9_wordAt 42 = .ok (.getfield 9, 3) := by decide +kernel
theorem dX9_wordAt_45 : decode cX9_wordAt 45 = .ok (.iload_n 2, 1) := by decide +kernel
theorem dX9_wordAt_46 : decode cX9_wordAt 46 = .ok (.iconst 2, 1) := by decide +kernel
theorem dX9_wordAt_47 : decode cX9_wordAt 47 = .ok (.iadd, 1) := by decide +kernel
theorem dX9_wordAt_48 : decode cX9_wordAt 48 = .ok (.iaload, 1) := by decide +kernel
theorem dX9_wordAt_49 : decode cX9_wordAt 49 = .ok (.bipush 8, 2) := by decide +kernel
theorem dX9_wordAt_51 : decode cX9_wordAt 51 = .ok (.ishl, 1) := by decide +kernel
theorem dX9_wordAt_52 : decode cX9_wordAt 52 = .ok (.ior, 1) := by decide +kernel
theorem dX9_wordAt_53 : decode cX9_wordAt 53 = .ok (.aload_n 0, 1) := by decide +kernel
theorem dX9_wordAt_54 : decode cX9_wordAt 54 = .ok (.getfield 9, 3) := by decide +kernel
theorem dX9_wordAt_57 : decode cX9_wordAt 57 = .ok (.iload_n 2, 1) := by decide +kernel
theorem dX9_wordAt_58 : decode cX9_wordAt 58 = .ok (.iconst 3, 1) := by decide +kernel
theorem dX9_wordAt_59 : decode cX9_wordAt 59 = .ok (.iadd, 1) := by decide +kernel
theorem dX9_wordAt_60 : decode cX9_wordAt 60 = .ok (.iaload, 1) := by decide +kernel
theorem dX9_wordAt_61 : decode cX9_wordAt 61 = .ok (.ior, 1) := by decide +kernel
theorem dX9_wordAt_62 : decode cX9_wordAt 62 = .ok (.ireturn, 1) := by decide +kernel
theorem dX9_clear_0 : decode cX9_clear 0 = .ok (.aload_n 0, 1) := by decide +kernel
theorem dX9_clear_1 : decode cX9_clear 1 = .ok (.iconst 0, 1) := by decide +kernel
theorem dX9_clear_2 : decode cX9_clear 2 = .ok (.putfield 15, 3) := by decide +kernel
theorem dX9_clear_5 : decode cX9_clear 5 = .ok (.return_, 1) := by decide +kernel
theorem dX11_isWithin_0 : decode cX11_isWithin 0 = .ok (.iload_n 0, 1) := by decide +kernel
theorem dX11_isWithin_1 : decode cX11_isWithin 1 = .ok (.iload_n 1, 1) := by decide +kernel
theorem dX11_isWithin_2 : decode cX11_isWithin 2 = .ok (.if_icmp .lt 12, 3) := by decide +kernel
theorem dX11_isWithin_5 : decode cX11_isWithin 5 = .ok (.iload_n 0, 1) := by decide +kernel
theorem dX11_isWithin_6 : decode cX11_isWithin 6 = .ok (.iload_n 2, 1) := by decide +kernel
theorem dX11_isWithin_7 : decode cX11_isWithin 7 = .ok (.if_icmp .gt 7, 3) := by decide +kernel
theorem dX11_isWithin_10 : decode cX11_isWithin 10 = .ok (.iconst 1, 1) := by decide +kernel
theorem dX11_isWithin_11 : decode cX11_isWithin 11 = .ok (.goto 4, 3) := by decide +kernel
theorem dX11_isWithin_14 : decode cX11_isWithin 14 = .ok (.iconst 0, 1) := by decide +kernel
theorem dX11_isWithin_15 : decode cX11_isWithin 15 = .ok (.ireturn, 1) := by decide +kernel
theorem dJ0_length_8abf5_0 : decode cJ0_length_8abf5 0 = .ok (.aload_n 0, 1) := by decide +kernel
theorem dJ0_length_8abf5_1 : decode cJ0_length_8abf5 1 = .ok (.getfield 9, 3) := by decide +kernel
theorem dJ0_length_8abf5_4 : decode cJ0_length_8abf5 4 = .ok (.arraylength, 1) := by decide +kernel
theorem dJ0_length_8abf5_5 : decode cJ0_length_8abf5 5 = .ok (.aload_n 0, 1) := by decide +kernel
theorem dJ0_length_8abf5_6 : decode cJ0_length_8abf5 6 = .ok (.invokevirtual 335, 3) := by decide +kernel
theorem dJ0_length_8abf5_9 : decode cJ0_length_8abf5 9 = .ok (.ishr, 1) := by decide +kernel
theorem dJ0_length_8abf5_10 : decode cJ0_length_8abf5 10 = .ok (.ireturn, 1) := by decide +kernel
theorem dJ0_indexOf_0f7a4_0 : decode cJ0_indexOf_0f7a4 0 = .ok (.aload_n 0, 1) := by decide +kernel
theorem dJ0_indexOf_0f7a4_1 : decode cJ0_indexOf_0f7a4 1 = .ok (.iload_n 1, 1) := by decide +kernel
theorem dJ0_indexOf_0f7a4_2 : decode cJ0_indexOf_0f7a4 2 = .ok (.iconst 0, 1) := by decide +kernel
theorem dJ0_indexOf_0f7a4_3 : decode cJ0_indexOf_0f7a4 3 = .ok (.invokevirtual 633, 3) := by decide +kernel
theorem dJ0_indexOf_0f7a4_6 : decode cJ0_indexOf_0f7a4 6 = .ok (.ireturn, 1) := by decide +kernel
theorem dJ0_indexOf_7cf53_0 : decode cJ0_indexOf_7cf53 0 = .ok (.aload_n 0, 1) := by decide +kernel
theorem dJ0_indexOf_7cf53_1 : decode cJ0_indexOf_7cf53 1 = .ok (.invokevirtual 492, 3) := by decide +kernel
theorem dJ0_indexOf_7cf53_4 : decode cJ0_indexOf_7cf53 4 = .ok (.ifCond .eq 19, 3) := by decide +kernel
theorem dJ0_indexOf_7cf53_7 : decode cJ0_indexOf_7cf53 7 = .ok (.aload_n 0, 1) := by decide +kernel
theorem dJ0_indexOf_7cf53_8 : decode cJ0_indexOf_7cf53 8 = .ok (.getfield 9, 3) := by decide +kernel
theorem dJ0_indexOf_7cf53_11 : decode cJ0_indexOf_7cf53 11 = .ok (.iload_n 1, 1) := by decide +kernel
theorem dJ0_indexOf_7cf53_12 : decode cJ0_indexOf_7cf53 12 = .ok (.iload_n 2, 1) := by decide +kernel
theorem dJ0_indexOf_7cf53_13 : decode cJ0_indexOf_7cf53 13 = .ok (.aload_n 0, 1) := by decide +kernel
theorem dJ0_indexOf_7cf53_14 : decode cJ0_indexOf_7cf53 14 = .ok (.invokevirtual 505, 3) := by decide +kernel
theorem dJ0_indexOf_7cf53_17 : decode cJ0_indexOf_7cf53 17 = .ok (.invokestatic 637, 3) := by decide +kernel
theorem dJ0_indexOf_7cf53_20 : decode cJ0_indexOf_7cf53 20 = .ok (.goto 16, 3) := by decide +kernel
theorem dJ0_indexOf_7cf53_36 : decode cJ0_indexOf_7cf53 36 = .ok (.ireturn, 1) := by decide +kernel
theorem dJ0_coder_7d493_0 : decode cJ0_coder_7d493 0 = .ok (.getstatic 38, 3) := by decide +kernel
theorem dJ0_coder_7d493_3 : decode cJ0_coder_7d493 3 = .ok (.ifCond .eq 10, 3) := by decide +kernel
theorem dJ0_coder_7d493_6 : decode cJ0_coder_7d493 6 = .ok (.aload_n 0, 1) := by decide +kernel
theorem dJ0_coder_7d493_7 : decode cJ0_coder_7d493 7 = .ok (.getfield 15, 3) := by decide +kernel
theorem dJ0_coder_7d493_10 : decode cJ0_coder_7d493 10 = .ok (.goto 4, 3) := by decide +kernel
theorem dJ0_coder_7d493_14 : decode cJ0_coder_7d493 14 = .ok (.ireturn, 1) := by decide +kernel
theorem dJ0_isLatin1_aae02_0 : decode cJ0_isLatin1_aae02 0 = .ok (.getstatic 38, 3) := by decide +kernel
theorem dJ0_isLatin1_aae02_3 : decode cJ0_isLatin1_aae02 3 = .ok (.ifCond .eq 14, 3) := by decide +kernel
theorem dJ0_isLatin1_aae02_6 : decode cJ0_isLatin1_aae02 6 = .ok (.aload_n 0, 1) := by decide +kernel
theorem dJ0_isLatin1_aae02_7 : decode cJ0_isLatin1_aae02 7 = .ok (.getfield 15, 3) := by decide +kernel
theorem dJ0_isLatin1_aae02_10 : decode cJ0_isLatin1_aae02 10 = .ok (.ifCond .ne 7, 3) := by decide +kernel
theorem dJ0_isLatin1_aae02_13 : decode cJ0_isLatin1_aae02 13 = .ok (.iconst 1, 1) := by decide +kernel
theorem dJ0_isLatin1_aae02_14 : decode cJ0_isLatin1_aae02 14 = .ok (.goto 4, 3) := by decide +kernel
theorem dJ0_isLatin1_aae02_18 : decode cJ0_isLatin1_aae02 18 = .ok (.ireturn, 1) := by decide +kernel
theorem dJ1_canEncode_9a6ad_0 : decode cJ1_canEncode_9a6ad 0 = .ok (.iload_n 0, 1) := by decide +kernel
theorem dJ1_canEncode_9a6ad_1 : decode cJ1_canEncode_9a6ad 1 = .ok (.ifCond .lt 14, 3) := by decide +kernel
theorem dJ1_canEncode_9a6ad_4 : decode cJ1_canEncode_9a6ad 4 = .ok (.iload_n 0, 1) := by decide +kernel
theorem dJ1_canEncode_9a6ad_5 : decode cJ1_canEncode_9a6ad 5 = .ok (.sipush 255, 3) := by decide +kernel
theorem dJ1_canEncode_9a6ad_8 : decode cJ1_canEncode_9a6ad 8 = .ok (.if_icmp .gt 7, 3) := by decide +kernel
theorem dJ1_canEncode_9a6ad_11 : decode cJ1_canEncode_9a6ad 11 = .ok (.iconst 1, 1) := by decide +kernel
theorem dJ1_canEncode_9a6ad_12 : decode cJ1_canEncode_9a6ad 12 = .ok (.goto 4, 3) := by decide +kernel
theorem dJ1_canEncode_9a6ad_15 : decode cJ1_canEncode_9a6ad 15 = .ok (.iconst 0, 1) := by decide +kernel
theorem dJ1_canEncode_9a6ad_16 : decode cJ1_canEncode_9a6ad 16 = .ok (.ireturn, 1) := by decide +kernel
theorem dJ1_indexOf_4cfef_0 : decode cJ1_indexOf_4cfef 0 = .ok (.iload_n 1, 1) := by decide +kernel
theorem dJ1_indexOf_4cfef_1 : decode cJ1_indexOf_4cfef 1 = .ok (.invokestatic 88, 3) := by decide +kernel
theorem dJ1_indexOf_4cfef_4 : decode cJ1_indexOf_4cfef 4 = .ok (.ifCond .ne 5, 3) := by decide +kernel
theorem dJ1_indexOf_4cfef_7 : decode cJ1_indexOf_4cfef 7 = .ok (.iconst (-1), 1) := by decide +kernel
theorem dJ1_indexOf_4cfef_8 : decode cJ1_indexOf_4cfef 8 = .ok (.ireturn, 1) := by decide +kernel
theorem dJ1_indexOf_4cfef_9 : decode cJ1_indexOf_4cfef 9 = .ok (.iload_n 2, 1) := by decide +kernel
theorem dJ1_indexOf_4cfef_10 : decode cJ1_indexOf_4cfef 10 = .ok (.iconst 0, 1) := by decide +kernel
theorem dJ1_indexOf_4cfef_11 : decode cJ1_indexOf_4cfef 11 = .ok (.invokestatic 92, 3) := by decide +kernel
theorem dJ1_indexOf_4cfef_14 : decode cJ1_indexOf_4cfef 14 = .ok (.istore_n 2, 1) := by decide +kernel
theorem dJ1_indexOf_4cfef_15 : decode cJ1_indexOf_4cfef 15 = .ok (.iload_n 3, 1) := by decide +kernel
theorem dJ1_indexOf_4cfef_16 : decode cJ1_indexOf_4cfef 16 = .ok (.aload_n 0, 1) := by decide +kernel
theorem dJ1_indexOf_4cfef_17 : decode cJ1_indexOf_4cfef 17 = .ok (.arraylength, 1) := by decide +kernel
theorem dJ1_indexOf_4cfef_18 : decode cJ1_indexOf_4cfef 18 = .ok (.invokestatic 38, 3) := by decide +kernel
theorem dJ1_indexOf_4cfef_21 : decode cJ1_indexOf_4cfef 21 = .ok (.istore_n 3, 1) := by decide +kernel
theorem dJ1_indexOf_4cfef_22 : decode cJ1_indexOf_4cfef 22 = .ok (.iload_n 2, 1) := by decide +kernel
theorem dJ1_indexOf_4cfef_23 : decode cJ1_indexOf_4cfef 23 = .ok (.iload_n 3, 1) := by decide +kernel
theorem dJ1_indexOf_4cfef_24 : decode cJ1_indexOf_4cfef 24 = .ok (.if_icmp .lt 5, 3) := by decide +kernel
theorem dJ1_indexOf_4cfef_27 : decode cJ1_indexOf_4cfef 27 = .ok (.iconst (-1), 1) := by decide +kernel
theorem dJ1_indexOf_4cfef_28 : decode cJ1_indexOf_4cfef 28 = .ok (.ireturn, 1) := by decide +kernel
theorem dJ1_indexOf_4cfef_29 : decode cJ1_indexOf_4cfef 29 = .ok (.aload_n 0, 1) := by decide +kernel
theorem dJ1_indexOf_4cfef_30 : decode cJ1_indexOf_4cfef 30 = .ok (.iload_n 1, 1) := by decide +kernel
theorem dJ1_indexOf_4cfef_31 : decode cJ1_indexOf_4cfef 31 = .ok (.iload_n 2, 1) := by decide +kernel
theorem dJ1_indexOf_4cfef_32 : decode cJ1_indexOf_4cfef 32 = .ok (.iload_n 3, 1) := by decide +kernel
theorem dJ1_indexOf_4cfef_33 : decode cJ1_indexOf_4cfef 33 = .ok (.invokestatic 95, 3) := by decide +kernel
theorem dJ1_indexOf_4cfef_36 : decode cJ1_indexOf_4cfef 36 = .ok (.ireturn, 1) := by decide +kernel
theorem dJ1_indexOfChar_4cfef_0 : decode cJ1_indexOfChar_4cfef 0 = .ok (.iload_n 1, 1) := by decide +kernel
theorem dJ1_indexOfChar_4cfef_1 : decode cJ1_indexOfChar_4cfef 1 = .ok (.i2b, 1) := by decide +kernel
theorem dJ1_indexOfChar_4cfef_2 : decode cJ1_indexOfChar_4cfef 2 = .ok (.istore 4, 2) := by decide +kernel
theorem dJ1_indexOfChar_4cfef_4 : decode cJ1_indexOfChar_4cfef 4 = .ok (.iload_n 2, 1) := by decide +kernel
theorem dJ1_indexOfChar_4cfef_5 : decode cJ1_indexOfChar_4cfef 5 = .ok (.istore 5, 2) := by decide +kernel
theorem dJ1_indexOfChar_4cfef_7 : decode cJ1_indexOfChar_4cfef 7 = .ok (.iload 5, 2) := by decide +kernel
theorem dJ1_indexOfChar_4cfef_9 : decode cJ1_indexOfChar_4cfef 9 = .ok (.iload_n 3, 1) := by decide +kernel
theorem dJ1_indexOfChar_4cfef_10 : decode cJ1_indexOfChar_4cfef 10 = .ok (.if_icmp .ge 21, 3) := by decide +kernel
theorem dJ1_indexOfChar_4cfef_13 : decode cJ1_indexOfChar_4cfef 13 = .ok (.aload_n 0, 1) := by decide +kernel
theorem dJ1_indexOfChar_4cfef_14 : decode cJ1_indexOfChar_4cfef 14 = .ok (.iload 5, 2) := by decide +kernel
theorem dJ1_indexOfChar_4cfef_16 : decode cJ1_indexOfChar_4cfef 16 = .ok (.baload, 1) := by decide +kernel
theorem dJ1_indexOfChar_4cfef_17 : decode cJ1_indexOfChar_4cfef 17 = .ok (.iload 4, 2) := by decide +kernel
theorem dJ1_indexOfChar_4cfef_19 : decode cJ1_indexOfChar_4cfef 19 = .ok (.if_icmp .ne 6, 3) := by decide +kernel
theorem dJ1_indexOfChar_4cfef_22 : decode cJ1_indexOfChar_4cfef 22 = .ok (.iload 5, 2) := by decide +kernel
theorem dJ1_indexOfChar_4cfef_24 : decode cJ1_indexOfChar_4cfef 24 = .ok (.ireturn, 1) := by decide +kernel
theorem dJ1_indexOfChar_4cfef_25 : decode cJ1_indexOfChar_4cfef 25 = .ok (.iinc 5 1, 3) := by decide +kernel
theorem dJ1_indexOfChar_4cfef_28 : decode cJ1_indexOfChar_4cfef 28 = .ok (.goto (-21), 3) := by decide +kernel
theorem dJ1_indexOfChar_4cfef_31 : decode cJ1_indexOfChar_4cfef 31 = .ok (.iconst (-1), 1) := by decide +kernel
theorem dJ1_indexOfChar_4cfef_32 : decode cJ1_indexOfChar_4cfef 32 = .ok (.ireturn, 1) := by decide +kernel
