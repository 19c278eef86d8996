theorem dX6_writeClauses_0 : decode cX6_writeClauses 0 = .ok (.aload_n 0, 1) := by decide +kernel
theorem dX6_writeClauses_1 : decode cX6_writeClauses 1 = .ok (.aload_n 1, 1) := by decide +kernel
theorem dX6_writeClauses_2 : decode cX6_writeClauses 2 = .ok (.iload_n 2, 1) := by decide +kernel
theorem dX6_writeClauses_3 : decode cX6_writeClauses 3 = .ok (.invokevirtual 37, 3) := by decide +kernel
theorem dX6_writeClauses_6 : decode cX6_writeClauses 6 = .ok (.iconst 0, 1) := by decide +kernel
theorem dX6_writeClauses_7 : decode cX6_writeClauses 7 = .ok (.istore 4, 2) := by decide +kernel
theorem dX6_writeClauses_9 : decode cX6_writeClauses 9 = .ok (.iload 4, 2) := by decide +kernel
theorem dX6_writeClauses_11 : decode cX6_writeClauses 11 = .ok (.bipush 12, 2) := by decide +kernel
theorem dX6_writeClauses_13 : decode cX6_writeClauses 13 = .ok (.if_icmp .ge 52, 3) := by decide +kernel
theorem dX6_writeClauses_16 : decode cX6_writeClauses 16 = .ok (.aload_n 0, 1) := by decide +kernel
theorem dX6_writeClauses_17 : decode cX6_writeClauses 17 = .ok (.iload_n 3, 1) := by decide +kernel
theorem dX6_writeClauses_18 : decode cX6_writeClauses 18 = .ok (.iload 4, 2) := by decide +kernel
theorem dX6_writeClauses_20 : decode cX6_writeClauses 20 = .ok (.invokevirtual 41, 3) := by decide +kernel
theorem dX6_writeClauses_23 : decode cX6_writeClauses 23 = .ok (.ifCond .ne 5, 3) := by decide +kernel
theorem dX6_writeClauses_26 : decode cX6_writeClauses 26 = .ok (.aconst_null, 1) := by decide +kernel
theorem dX6_writeClauses_27 : decode cX6_writeClauses 27 = .ok (.areturn, 1) := by decide +kernel
theorem dX6_writeClauses_28 : decode cX6_writeClauses 28 = .ok (.aload_n 0, 1) := by decide +kernel
theorem dX6_writeClauses_29 : decode cX6_writeClauses 29 = .ok (.getfield 28, 3) := by decide +kernel
theorem dX6_writeClauses_32 : decode cX6_writeClauses 32 = .ok (.aload_n 0, 1) := by decide +kernel
theorem dX6_writeClauses_33 : decode cX6_writeClauses 33 = .ok (.getfield 24, 3) := by decide +kernel
theorem dX6_writeClauses_36 : decode cX6_writeClauses 36 = .ok (.if_icmp .ne 12, 3) := by decide +kernel
theorem dX6_writeClauses_39 : decode cX6_writeClauses 39 = .ok (.aload_n 0, 1) := by decide +kernel
theorem dX6_writeClauses_40 : decode cX6_writeClauses 40 = .ok (.iload 4, 2) := by decide +kernel
theorem dX6_writeClauses_42 : decode cX6_writeClauses 42 = .ok (.iconst 1, 1) := by decide +kernel
theorem dX6_writeClauses_43 : decode cX6_writeClauses 43 = .ok (.iadd, 1) := by decide +kernel
theorem dX6_writeClauses_44 : decode cX6_writeClauses 44 = .ok (.invokevirtual 45, 3) := by decide +kernel
theorem dX6_writeClauses_47 : decode cX6_writeClauses 47 = .ok (.areturn, 1) := by decide +kernel
theorem dX6_writeClauses_48 : decode cX6_writeClauses 48 = .ok (.aload_n 0, 1) := by decide +kernel
theorem dX6_writeClauses_49 : decode cX6_writeClauses 49 = .ok (.bipush 59, 2) := by decide +kernel
theorem dX6_writeClauses_51 : decode cX6_writeClauses 51 = .ok (.invokevirtual 49, 3) := by decide +kernel
theorem dX6_writeClauses_54 : decode cX6_writeClauses 54 = .ok (.ifCond .ne 5, 3) := by decide +kernel
theorem dX6_writeClauses_57 : decode cX6_writeClauses 57 = .ok (.aconst_null, 1) := by decide +kernel
theorem dX6_writeClauses_58 : decode cX6_writeClauses 58 = .ok (.areturn, 1) := by decide +kernel
theorem dX6_writeClauses_59 : decode cX6_writeClauses 59 = .ok (.iinc 4 1, 3) := by decide +kernel
theorem dX6_writeClauses_62 : decode cX6_writeClauses 62 = .ok (.goto (-53), 3) := by decide +kernel
theorem dX6_writeClauses_65 : decode cX6_writeClauses 65 = .ok (.aload_n 0, 1) := by decide +kernel
theorem dX6_writeClauses_66 : decode cX6_writeClauses 66 = .ok (.aload_n 0, 1) := by decide +kernel
theorem dX6_writeClauses_67 : decode cX6_writeClauses 67 = .ok (.invokevirtual 53, 3) := by decide +kernel
theorem dX6_writeClauses_70 : decode cX6_writeClauses 70 = .ok (.iload_n 3, 1) := by decide +kernel
theorem dX6_writeClauses_71 : decode cX6_writeClauses 71 = .ok (.if_icmp .ne 7, 3) := by decide +kernel
theorem dX6_writeClauses_74 : decode cX6_writeClauses 74 = .ok (.iconst 4, 1) := by decide +kernel
theorem dX6_writeClauses_75 : decode cX6_writeClauses 75 = .ok (.goto 4, 3) := by decide +kernel
theorem dX6_writeClauses_78 : decode cX6_writeClauses 78 = .ok (.iconst 1, 1) := by decide +kernel
theorem dX6_writeClauses_79 : decode cX6_writeClauses 79 = .ok (.invokevirtual 57, 3) := by decide +kernel
theorem dX6_writeClauses_82 : decode cX6_writeClauses 82 = .ok (.pop, 1) := by decide +kernel
theorem dX6_writeClauses_83 : decode cX6_writeClauses 83 = .ok (.aconst_null, 1) := by decide +kernel
theorem dX6_writeClauses_84 : decode cX6_writeClauses 84 = .ok (.areturn, 1) := by decide +kernel
theorem dX6_writeExpression_0 : decode cX6_writeExpression 0 = .ok (.aload_n 0, 1) := by decide +kernel
theorem dX6_writeExpression_1 : decode cX6_writeExpression 1 = .ok (.aload_n 1, 1) := by decide +kernel
theorem dX6_writeExpression_2 : decode cX6_writeExpression 2 = .ok (.iload_n 2, 1) := by decide +kernel
theorem dX6_writeExpression_3 : decode cX6_writeExpression 3 = .ok (.invokevirtual 37, 3) := by decide +kernel
theorem dX6_writeExpression_6 : decode cX6_writeExpression 6 = .ok (.aload_n 0, 1) := by decide +kernel
theorem dX6_writeExpression_7 : decode cX6_writeExpression 7 = .ok (.iconst 2, 1) := by decide +kernel
theorem dX6_writeExpression_8 : decode cX6_writeExpression 8 = .ok (.iconst 0, 1) := by decide +kernel
theorem dX6_writeExpression_9 : decode cX6_writeExpression 9 = .ok (.invokevirtual 61, 3) := by decide +kernel
theorem dX6_writeExpression_12 : decode cX6_writeExpression 12 = .ok (.ifCond .ne 5, 3) := by decide +kernel
theorem dX6_writeExpression_15 : decode cX6_writeExpression 15 = .ok (.aconst_null, 1) := by decide +kernel
theorem dX6_writeExpression_16 : decode cX6_writeExpression 16 = .ok (.areturn, 1) := by decide +kernel
theorem dX6_writeExpression_17 : decode cX6_writeExpression 17 = .ok (.aload_n 0, 1) := by decide +kernel
theorem dX6_writeExpression_18 : decode cX6_writeExpression 18 = .ok (.getfield 28, 3) := by decide +kernel
theorem dX6_writeExpression_21 : decode cX6_writeExpression 21 = .ok (.aload_n 0, 1) := by decide +kernel
theorem dX6_writeExpression_22 : decode cX6_writeExpression 22 = .ok (.getfield 24, 3) := by decide +kernel
theorem dX6_writeExpression_25 : decode cX6_writeExpression 25 = .ok (.if_icmp .ge 11, 3) := by decide +kernel
theorem dX6_writeExpression_28 : decode cX6_writeExpression 28 = .ok (.aload_n 0, 1) := by decide +kernel
theorem dX6_writeExpression_29 : decode cX6_writeExpression 29 = .ok (.iconst 1, 1) := by decide +kernel
theorem dX6_writeExpression_30 : decode cX6_writeExpression 30 = .ok (.invokevirtual 57, 3) := by decide +kernel
theorem dX6_writeExpression_33 : decode cX6_writeExpression 33 = .ok (.pop, 1) := by decide +kernel
theorem dX6_writeExpression_34 : decode cX6_writeExpression 34 = .ok (.aconst_null, 1) := by decide +kernel
theorem dX6_writeExpression_35 : decode cX6_writeExpression 35 = .ok (.areturn, 1) := by decide +kernel
theorem dX6_writeExpression_36 : decode cX6_writeExpression 36 = .ok (.aload_n 0, 1) := by decide +kernel
theorem dX6_writeExpression_37 : decode cX6_writeExpression 37 = .ok (.getfield 18, 3) := by decide +kernel
theorem dX6_writeExpression_40 : decode cX6_writeExpression 40 = .ok (.iconst 0, 1) := by decide +kernel
theorem dX6_writeExpression_41 : decode cX6_writeExpression 41 = .ok (.aload_n 0, 1) := by decide +kernel
theorem dX6_writeExpression_42 : decode cX6_writeExpression 42 = .ok (.getfield 31, 3) := by decide +kernel
theorem dX6_writeExpression_45 : decode cX6_writeExpression 45 = .ok (.iastore, 1) := by decide +kernel
theorem dX6_writeExpression_46 : decode cX6_writeExpression 46 = .ok (.aload_n 0, 1) := by decide +kernel
theorem dX6_writeExpression_47 : decode cX6_writeExpression 47 = .ok (.getfield 15, 3) := by decide +kernel
theorem dX6_writeExpression_50 : decode cX6_writeExpression 50 = .ok (.iconst 1, 1) := by decide +kernel
theorem dX6_writeExpression_51 : decode cX6_writeExpression 51 = .ok (.aload_n 0, 1) := by decide +kernel
theorem dX6_writeExpression_52 : decode cX6_writeExpression 52 = .ok (.getfield 31, 3) := by decide +kernel
theorem dX6_writeExpression_55 : decode cX6_writeExpression 55 = .ok (.iastore, 1) := by decide +kernel
theorem dX6_writeExpression_56 : decode cX6_writeExpression 56 = .ok (.aload_n 0, 1) := by decide +kernel
theorem dX6_writeExpression_57 : decode cX6_writeExpression 57 = .ok (.iconst 1, 1) := by decide +kernel
theorem dX6_writeExpression_58 : decode cX6_writeExpression 58 = .ok (.invokevirtual 45, 3) := by decide +kernel
theorem dX6_writeExpression_61 : decode cX6_writeExpression 61 = .ok (.areturn, 1) := by decide +kernel
theorem dX6_written_0 : decode cX6_written 0 = .ok (.new 71, 3) := by decide +kernel
theorem dX6_written_3 : decode cX6_written 3 = .ok (.dup, 1) := by decide +kernel
theorem dX6_written_4 : decode cX6_written 4 = .ok (.iload_n 1, 1) := by decide +kernel
theorem dX6_written_5 : decode cX6_written 5 = .ok (.aload_n 0, 1) := by decide +kernel
theorem dX6_written_6 : decode cX6_written 6 = .ok (.getfield 9, 3) := by decide +kernel
theorem dX6_written_9 : decode cX6_written 9 = .ok (.aload_n 0, 1) := by decide +kernel
theorem dX6_written_10 : decode cX6_written 10 = .ok (.getfield 31, 3) := by decide +kernel
theorem dX6_written_13 : decode cX6_written 13 = .ok (.invokestatic 73, 3) := by decide +kernel
theorem dX6_written_16 : decode cX6_written 16 = .ok (.aload_n 0, 1) := by decide +kernel
theorem dX6_written_17 : decode cX6_written 17 = .ok (.getfield 15, 3) := by decide +kernel
theorem dX6_written_20 : decode cX6_written 20 = .ok (.iload_n 1, 1) := by decide +kernel
theorem dX6_written_21 : decode cX6_written 21 = .ok (.iconst 1, 1) := by decide +kernel
theorem dX6_written_22 : decode cX6_written 22 = .ok (.iadd, 1) := by decide +kernel
theorem dX6_written_23 : decode cX6_written 23 = .ok (.invokestatic 73, 3) := by decide +kernel
theorem dX6_written_26 : decode cX6_written 26 = .ok (.aload_n 0, 1) := by decide +kernel
theorem dX6_written_27 : decode cX6_written 27 = .ok (.getfield 18, 3) := by decide +kernel
theorem dX6_written_30 : decode cX6_written 30 = .ok (.iload_n 1, 1) := by decide +kernel
theorem dX6_written_31 : decode cX6_written 31 = .ok (.invokestatic 73, 3) := by decide +kernel
theorem dX6_written_34 : decode cX6_written 34 = .ok (.invokespecial 79, 3) := by decide +kernel
theorem dX6_written_37 : decode cX6_written 37 = .ok (.areturn, 1) := by decide +kernel
theorem dX7_add_0 : decode cX7_add 0 = .ok (.aload_n 0, 1) := by decide +kernel
theorem dX7_add_1 : decode cX7_add 1 = .ok (.getfield 24, 3) := by decide +kernel
theorem dX7_add_4 : decode cX7_add 4 = .ok (.bipush 10, 2) := by decide +kernel
theorem dX7_add_6 : decode cX7_add 6 = .ok (.if_icmp .lt 5, 3) := by decide +kernel
theorem dX7_add_11 : decode cX7_add 11 = .ok (.aload_n 0, 1) := by decide +kernel
theorem dX7_add_12 : decode cX7_add 12 = .ok (.getfield 11, 3) := by decide +kernel
theorem dX7_add_15 : decode cX7_add 15 = .ok (.aload_n 0, 1) := by decide +kernel
theorem dX7_add_16 : decode cX7_add 16 = .ok (.getfield 24, 3) := by decide +kernel
theorem dX7_add_19 : decode cX7_add 19 = .ok (.aload_n 1, 1) := by decide +kernel
theorem dX7_add_20 : decode cX7_add 20 = .ok (.aastore, 1) := by decide +kernel
theorem dX7_add_21 : decode cX7_add 21 = .ok (.aload_n 0, 1) := by decide +kernel
theorem dX7_add_22 : decode cX7_add 22 = .ok (.dup, 1) := by decide +kernel
theorem dX7_add_23 : decode cX7_add 23 = .ok (.getfield 24, 3) := by decide +kernel
theorem dX7_add_26 : decode cX7_add 26 = .ok (.iconst 1, 1) := by decide +kernel
theorem dX7_add_27 : decode cX7_add 27 = .ok (.iadd, 1) := by decide +kernel
theorem dX7_add_28 : decode cX7_add 28 = .ok (.putfield 24, 3) := by decide +kernel
theorem dX7_add_31 : decode cX7_add 31 = .ok (.aload_n 0, 1) := by decide +kernel
theorem dX7_add_32 : decode cX7_add 32 = .ok (.getfield 24, 3) := by decide +kernel
theorem dX7_add_35 : decode cX7_add 35 = .ok (.iconst 1, 1) := by decide +kernel
theorem dX7_add_36 : decode cX7_add 36 = .ok (.isub, 1) := by decide +kernel
theorem dX7_add_37 : decode cX7_add 37 = .ok (.ireturn, 1) := by decide +kernel
theorem dX8_init_0 : decode cX8_init 0 = .ok (.aload_n 0, 1) := by decide +kernel
theorem dX8_init_1 : decode cX8_init 1 = .ok (.invokespecial 3, 3) := by decide +kernel
theorem dX8_init_4 : decode cX8_init 4 = .ok (.aload_n 0, 1) := by decide +kernel
theorem dX8_init_5 : decode cX8_init 5 = .ok (.aconst_null, 1) := by decide +kernel
theorem dX8_init_6 : decode cX8_init 6 = .ok (.putfield 9, 3) := by decide +kernel
theorem dX8_init_9 : decode cX8_init 9 = .ok (.aload_n 0, 1) := by decide +kernel
theorem dX8_init_10 : decode cX8_init 10 = .ok (.iload_n 1, 1) := by decide +kernel
theorem dX8_init_11 : decode cX8_init 11 = .ok (.putfield 15, 3) := by decide +kernel
theorem dX8_init_14 : decode cX8_init 14 = .ok (.aload_n 0, 1) := by decide +kernel
theorem dX8_init_15 : decode cX8_init 15 = .ok (.iload_n 2, 1) := by decide +kernel
theorem dX8_init_16 : decode cX8_init 16 = .ok (.putfield 19, 3) := by decide +kernel
theorem dX8_init_19 : decode cX8_init 19 = .ok (.aload_n 0, 1) := by decide +kernel
theorem dX8_init_20 : decode cX8_init 20 = .ok (.iload_n 3, 1) := by decide +kernel
theorem dX8_init_21 : decode cX8_init 21 = .ok (.putfield 23, 3) := by decide +kernel
theorem dX8_init_24 : decode cX8_init 24 = .ok (.aload_n 0, 1) := by decide +kernel
theorem dX8_init_25 : decode cX8_init 25 = .ok (.iload 4, 2) := by decide +kernel
theorem dX8_init_27 : decode cX8_init 27 = .ok (.putfield 26, 3) := by decide +kernel
theorem dX8_init_30 : decode cX8_init 30 = .ok (.aload_n 0, 1) := by decide +kernel
theorem dX8_init_31 : decode cX8_init 31 = .ok (.iload 5, 2) := by decide +kernel
theorem dX8_init_33 : decode cX8_init 33 = .ok (.putfield 29, 3) := by decide +kernel
theorem dX8_init_36 : decode cX8_init 36 = .ok (.aload_n 0, 1) := by decide +kernel
theorem dX8_init_37 : decode cX8_init 37 = .ok (.iload 6, 2) := by decide +kernel
theorem dX8_init_39 : decode cX8_init 39 = .ok (.putfield 32, 3) := by decide +kernel
theorem dX8_init_42 : decode cX8_init 42 = .ok (.return_, 1) := by decide +kernel
theorem dX10_init_0 : decode cX10_init 0 = .ok (.aload_n 0, 1) := by decide +kernel
theorem dX10_init_1 : decode cX10_init 1 = .ok (.invokespecial 1, 3) := by decide +kernel
theorem dX10_init_4 : decode cX10_init 4 = .ok (.aload_n 0, 1) := by decide +kernel
theorem dX10_init_5 : decode cX10_init 5 = .ok (.iload_n 1, 1) := by decide +kernel
theorem dX10_init_6 : decode cX10_init 6 = .ok (.putfield 7, 3) := by decide +kernel
theorem dX10_init_9 : decode cX10_init 9 = .ok (.aload_n 0, 1) := by decide +kernel
theorem dX10_init_10 : decode cX10_init 10 = .ok (.aload_n 2, 1) := by decide +kernel
theorem dX10_init_11 : decode cX10_init 11 = .ok (.putfield 13, 3) := by decide +kernel
theorem dX10_init_14 : decode cX10_init 14 = .ok (.aload_n 0, 1) := by decide +kernel
theorem dX10_init_15 : decode cX10_init 15 = .ok (.aload_n 3, 1) := by decide +kernel
theorem dX10_init_16 : decode cX10_init 16 = .ok (.putfield 17, 3) := by decide +kernel
theorem dX10_init_19 : decode cX10_init 19 = .ok (.aload_n 0, 1) := by decide +kernel
theorem dX10_init_20 : decode cX10_init 20 = .ok (.aload 4, 2) := by decide +kernel
theorem dX10_init_22 : decode cX10_init 22 = .ok (.putfield 20, 3) := by decide +kernel
theorem dX10_init_25 : decode cX10_init 25 = .ok (.return_, 1) := by decide +kernel
theorem dX11_source_0 : decode cX11_source 0 = .ok (.iload_n 2, 1) := by decide +kernel
theorem dX11_source_1 : decode cX11_source 1 = .ok (.invokestatic 71, 3) := by decide +kernel
theorem dX11_source_4 : decode cX11_source 4 = .ok (.ifCond .eq 36, 3) := by decide +kernel
theorem dX11_source_7 : decode cX11_source 7 = .ok (.iload_n 3, 1) := by decide +kernel
theorem dX11_source_8 : decode cX11_source 8 = .ok (.iconst 0, 1) := by decide +kernel
theorem dX11_source_9 : decode cX11_source 9 = .ok (.bipush 30, 2) := by decide +kernel
theorem dX11_source_11 : decode cX11_source 11 = .ok (.invokestatic 75, 3) := by decide +kernel
theorem dX11_source_14 : decode cX11_source 14 = .ok (.ifCond .eq 26, 3) := by decide +kernel
theorem dX11_source_17 : decode cX11_source 17 = .ok (.iload 4, 2) := by decide +kernel
theorem dX11_source_19 : decode cX11_source 19 = .ok (.invokestatic 79, 3) := by decide +kernel
theorem dX11_source_22 : decode cX11_source 22 = .ok (.ifCond .eq 18, 3) := by decide +kernel
theorem dX11_source_25 : decode cX11_source 25 = .ok (.iload 5, 2) := by decide +kernel
theorem dX11_source_27 : decode cX11_source 27 = .ok (.iconst 0, 1) := by decide +kernel
theorem dX11_source_28 : decode cX11_source 28 = .ok (.bipush 127, 2) := by decide +kernel
theorem dX11_source_30 : decode cX11_source 30 = .ok (.invokestatic 75, 3) := by decide +kernel
theorem dX11_source_33 : decode cX11_source 33 = .ok (.ifCond .eq 7, 3) := by decide +kernel
theorem dX11_source_36 : decode cX11_source 36 = .ok (.iconst 1, 1) := by decide +kernel
theorem dX11_source_37 : decode cX11_source 37 = .ok (.goto 4, 3) := by decide +kernel
theorem dX11_source_40 : decode cX11_source 40 = .ok (.iconst 0, 1) := by decide +kernel
theorem dX11_source_41 : decode cX11_source 41 = .ok (.istore 6, 2) := by decide +kernel
theorem dX11_source_43 : decode cX11_source 43 = .ok (.iload 6, 2) := by decide +kernel
theorem dX11_source_45 : decode cX11_source 45 = .ok (.ifCond .eq 15, 3) := by decide +kernel
theorem dX11_source_48 : decode cX11_source 48 = .ok (.aload_n 0, 1) := by decide +kernel
theorem dX11_source_49 : decode cX11_source 49 = .ok (.getfield 26, 3) := by decide +kernel
theorem dX11_source_52 : decode cX11_source 52 = .ok (.getfield 82, 3) := by decide +kernel
theorem dX11_source_55 : decode cX11_source 55 = .ok (.bipush 10, 2) := by decide +kernel
theorem dX11_source_57 : decode cX11_source 57 = .ok (.if_icmp .lt 5, 3) := by decide +kernel
theorem dX11_source_60 : decode cX11_source 60 = .ok (.iconst (-1), 1) := by decide +kernel
theorem dX11_source_61 : decode cX11_source 61 = .ok (.ireturn, 1) := by decide +kernel
theorem dX11_source_62 : decode cX11_source 62 = .ok (.aload_n 0, 1) := by decide +kernel
theorem dX11_source_63 : decode cX11_source 63 = .ok (.getfield 33, 3) := by decide +kernel
theorem dX11_source_66 : decode cX11_source 66 = .ok (.invokevirtual 86, 3) := by decide +kernel
theorem dX11_source_69 : decode cX11_source 69 = .ok (.aload_n 0, 1) := by decide +kernel
theorem dX11_source_70 : decode cX11_source 70 = .ok (.getfield 26, 3) := by decide +kernel
theorem dX11_source_73 : decode cX11_source 73 = .ok (.new 89, 3) := by decide +kernel
theorem dX11_source_76 : decode cX11_source 76 = .ok (.dup, 1) := by decide +kernel
theorem dX11_source_77 : decode cX11_source 77 = .ok (.aload_n 0, 1) := by decide +kernel
theorem dX11_source_78 : decode cX11_source 78 = .ok (.getfield 26, 3) := by decide +kernel
theorem dX11_source_81 : decode cX11_source 81 = .ok (.getfield 82, 3) := by decide +kernel
theorem dX11_source_84 : decode cX11_source 84 = .ok (.iload_n 1, 1) := by decide +kernel
theorem dX11_source_85 : decode cX11_source 85 = .ok (.iload_n 2, 1) := by decide +kernel
theorem dX11_source_86 : decode cX11_source 86 = .ok (.iload_n 3, 1) := by decide +kernel
theorem dX11_source_87 : decode cX11_source 87 = .ok (.iload 4, 2) := by decide +kernel
theorem dX11_source_89 : decode cX11_source 89 = .ok (.iload 5, 2) := by decide +kernel
theorem dX11_source_91 : decode cX11_source 91 = .ok (.invokespecial 91, 3) := by decide +kernel
theorem dX11_source_94 : decode cX11_source 94 = .ok (.invokevirtual 94, 3) := by decide +kernel
theorem dX11_source_97 : decode cX11_source 97 = .ok (.ireturn, 1) := by decide +kernel
theorem dX11_law_0 : decode cX11_law 0 = .ok (.aload_n 0, 1) := by decide +kernel
theorem dX11_law_1 : decode cX11_law 1 = .ok (.getfield 26, 3) := by decide +kernel
theorem dX11_law_4 : decode cX11_law 4 = .ok (.iload_n 1, 1) := by decide +kernel
theorem dX11_law_5 : decode cX11_law 5 = .ok (.invokevirtual 108, 3) := by decide +kernel
theorem dX11_law_8 : decode cX11_law 8 = .ok (.astore_n 3, 1) := by decide +kernel
theorem dX11_law_9 : decode cX11_law 9 = .ok (.aload_n 3, 1) := by decide +kernel
theorem dX11_law_10 : decode cX11_law 10 = .ok (.ifnull 13, 3) := by decide +kernel
theorem dX11_law_13 : decode cX11_law 13 = .ok (.aload_n 0, 1) := by decide +kernel
theorem dX11_law_14 : decode cX11_law 14 = .ok (.iload_n 2, 1) := by decide +kernel
theorem dX11_law_15 : decode cX11_law 15 = .ok (.bipush 120, 2) := by decide +kernel
theorem dX11_law_17 : decode cX11_law 17 = .ok (.invokevirtual 112, 3) := by decide +kernel
theorem dX11_law_20 : decode cX11_law 20 = .ok (.ifCond .ne 5, 3) := by decide +kernel
theorem dX11_law_23 : decode cX11_law 23 = .ok (.iconst (-1), 1) := by decide +kernel
theorem dX11_law_24 : decode cX11_law 24 = .ok (.ireturn, 1) := by decide +kernel
theorem dX11_law_25 : decode cX11_law 25 = .ok (.aload_n 0, 1) := by decide +kernel
theorem dX11_law_26 : decode cX11_law 26 = .ok (.getfield 19, 3) := by decide +kernel
theorem dX11_law_29 : decode cX11_law 29 = .ok (.aload_n 0, 1) := by decide +kernel
theorem dX11_law_30 : decode cX11_law 30 = .ok (.getfield 10, 3) := by decide +kernel
theorem dX11_law_33 : decode cX11_law 33 = .ok (.getfield 116, 3) := by decide +kernel
theorem dX11_law_36 : decode cX11_law 36 = .ok (.iload_n 2, 1) := by decide +kernel
theorem dX11_law_37 : decode cX11_law 37 = .ok (.bipush 104, 2) := by decide +kernel
theorem dX11_law_39 : decode cX11_law 39 = .ok (.invokevirtual 120, 3) := by decide +kernel
theorem dX11_law_42 : decode cX11_law 42 = .ok (.astore 4, 2) := by decide +kernel
theorem dX11_law_44 : decode cX11_law 44 = .ok (.aload_n 0, 1) := by decide +kernel
theorem dX11_law_45 : decode cX11_law 45 = .ok (.getfield 10, 3) := by decide +kernel
theorem dX11_law_48 : decode cX11_law 48 = .ok (.invokevirtual 124, 3) := by decide +kernel
theorem dX11_law_51 : decode cX11_law 51 = .ok (.aload 4, 2) := by decide +kernel
theorem dX11_law_53 : decode cX11_law 53 = .ok (.ifnonnull 11, 3) := by decide +kernel
theorem dX11_law_56 : decode cX11_law 56 = .ok (.aload_n 0, 1) := by decide +kernel
theorem dX11_law_57 : decode cX11_law 57 = .ok (.getfield 19, 3) := by decide +kernel
theorem dX11_law_60 : decode cX11_law 60 = .ok (.invokevirtual 127, 3) := by decide +kernel
theorem dX11_law_63 : decode cX11_law 63 = .ok (.ireturn, 1) := by decide +kernel
theorem dX11_law_64 : decode cX11_law 64 = .ok (.aload_n 0, 1) := by decide +kernel
theorem dX11_law_65 : decode cX11_law 65 = .ok (.getfield 33, 3) := by decide +kernel
theorem dX11_law_68 : decode cX11_law 68 = .ok (.invokevirtual 86, 3) := by decide +kernel
theorem dX11_law_71 : decode cX11_law 71 = .ok (.aload_n 3, 1) := by decide +kernel
theorem dX11_law_72 : decode cX11_law 72 = .ok (.aload 4, 2) := by decide +kernel
theorem dX11_law_74 : decode cX11_law 74 = .ok (.putfield 131, 3) := by decide +kernel
theorem dX11_law_77 : decode cX11_law 77 = .ok (.aload 4, 2) := by decide +kernel
theorem dX11_law_79 : decode cX11_law 79 = .ok (.getfield 135, 3) := by decide +kernel
theorem dX11_law_82 : decode cX11_law 82 = .ok (.ireturn, 1) := by decide +kernel
theorem dX11_way_0 : decode cX11_way 0 = .ok (.iload_n 1, 1) := by decide +kernel
theorem dX11_way_1 : decode cX11_way 1 = .ok (.invokestatic 138, 3) := by decide +kernel
theorem dX11_way_4 : decode cX11_way 4 = .ok (.ifCond .eq 13, 3) := by decide +kernel
theorem dX11_way_7 : decode cX11_way 7 = .ok (.aload_n 0, 1) := by decide +kernel
theorem dX11_way_8 : decode cX11_way 8 = .ok (.iload_n 2, 1) := by decide +kernel
theorem dX11_way_9 : decode cX11_way 9 = .ok (.bipush 120, 2) := by decide +kernel
theorem dX11_way_11 : decode cX11_way 11 = .ok (.invokevirtual 112, 3) := by decide +kernel
theorem dX11_way_14 : decode cX11_way 14 = .ok (.ifCond .ne 5, 3) := by decide +kernel
theorem dX11_way_17 : decode cX11_way 17 = .ok (.iconst (-1), 1) := by decide +kernel
theorem dX11_way_18 : decode cX11_way 18 = .ok (.ireturn, 1) := by decide +kernel
theorem dX11_way_19 : decode cX11_way 19 = .ok (.aload_n 0, 1) := by decide +kernel
theorem dX11_way_20 : decode cX11_way 20 = .ok (.getfield 19, 3) := by decide +kernel
theorem dX11_way_23 : decode cX11_way 23 = .ok (.aload_n 0, 1) := by decide +kernel
theorem dX11_way_24 : decode cX11_way 24 = .ok (.getfield 10, 3) := by decide +kernel
theorem dX11_way_27 : decode cX11_way 27 = .ok (.getfield 116, 3) := by decide +kernel
theorem dX11_way_30 : decode cX11_way 30 = .ok (.iload_n 2, 1) := by decide +kernel
theorem dX11_way_31 : decode cX11_way 31 = .ok (.bipush 107, 2) := by decide +kernel
theorem dX11_way_33 : decode cX11_way 33 = .ok (.invokevirtual 120, 3) := by decide +kernel
theorem dX11_way_36 : decode cX11_way 36 = .ok (.astore_n 3, 1) := by decide +kernel
theorem dX11_way_37 : decode cX11_way 37 = .ok (.aload_n 0, 1) := by decide +kernel
theorem dX11_way_38 : decode cX11_way 38 = .ok (.getfield 10, 3) := by decide +kernel
theorem dX11_way_41 : decode cX11_way 41 = .ok (.invokevirtual 124, 3) := by decide +kernel
theorem dX11_way_44 : decode cX11_way 44 = .ok (.aload_n 3, 1) := by decide +kernel
theorem dX11_way_45 : decode cX11_way 45 = .ok (.ifnonnull 11, 3) := by decide +kernel
theorem dX11_way_48 : decode cX11_way 48 = .ok (.aload_n 0, 1) := by decide +kernel
theorem dX11_way_49 : decode cX11_way 49 = .ok (.getfield 19, 3) := by decide +kernel
theorem dX11_way_52 : decode cX11_way 52 = .ok (.invokevirtual 127, 3) := by decide +kernel
theorem dX11_way_55 : decode cX11_way 55 = .ok (.ireturn, 1) := by decide +kernel
theorem dX11_way_56 : decode cX11_way 56 = .ok (.aload_n 0, 1) := by decide +kernel
theorem dX11_way_57 : decode cX11_way 57 = .ok (.getfield 33, 3) := by decide +kernel
theorem dX11_way_60 : decode cX11_way 60 = .ok (.iload_n 1, 1) := by decide +kernel
theorem dX11_way_61 : decode cX11_way 61 = .ok (.invokevirtual 141, 3) := by decide +kernel
theorem dX11_way_64 : decode cX11_way 64 = .ok (.aload_n 0, 1) := by decide +kernel
theorem dX11_way_65 : decode cX11_way 65 = .ok (.getfield 39, 3) := by decide +kernel
theorem dX11_way_68 : decode cX11_way 68 = .ok (.iload_n 1, 1) := by decide +kernel
theorem dX11_way_69 : decode cX11_way 69 = .ok (.aload_n 3, 1) := by decide +kernel
theorem dX11_way_70 : decode cX11_way 70 = .ok (.aastore, 1) := by decide +kernel
theorem dX11_way_71 : decode cX11_way 71 = .ok (.aload_n 3, 1) := by decide +kernel
theorem dX11_way_72 : decode cX11_way 72 = .ok (.getfield 135, 3) := by decide +kernel
theorem dX11_way_75 : decode cX11_way 75 = .ok (.ireturn, 1) := by decide +kernel
theorem dX11_story_0 : decode cX11_story 0 = .ok (.iload_n 1, 1) := by decide +kernel
theorem dX11_story_1 : decode cX11_story 1 = .ok (.invokestatic 144, 3) := by decide +kernel
theorem dX11_story_4 : decode cX11_story 4 = .ok (.ifCond .eq 13, 3) := by decide +kernel
theorem dX11_story_7 : decode cX11_story 7 = .ok (.aload_n 0, 1) := by decide +kernel
theorem dX11_story_8 : decode cX11_story 8 = .ok (.iload_n 2, 1) := by decide +kernel
theorem dX11_story_9 : decode cX11_story 9 = .ok (.bipush 60, 2) := by decide +kernel
theorem dX11_story_11 : decode cX11_story 11 = .ok (.invokevirtual 112, 3) := by decide +kernel
theorem dX11_story_14 : decode cX11_story 14 = .ok (.ifCond .ne 5, 3) := by decide +kernel
theorem dX11_story_17 : decode cX11_story 17 = .ok (.iconst (-1), 1) := by decide +kernel
theorem dX11_story_18 : decode cX11_story 18 = .ok (.ireturn, 1) := by decide +kernel
theorem dX11_story_19 : decode cX11_story 19 = .ok (.aload_n 0, 1) := by decide +kernel
theorem dX11_story_20 : decode cX11_story 20 = .ok (.getfield 19, 3) := by decide +kernel
theorem dX11_story_23 : decode cX11_story 23 = .ok (.aload_n 0, 1) := by decide +kernel
theorem dX11_story_24 : decode cX11_story 24 = .ok (.getfield 10, 3) := by decide +kernel
theorem dX11_story_27 : decode cX11_story 27 = .ok (.getfield 116, 3) := by decide +kernel
theorem dX11_story_30 : decode cX11_story 30 = .ok (.iload_n 2, 1) := by decide +kernel
theorem dX11_story_31 : decode cX11_story 31 = .ok (.invokevirtual 147, 3) := by decide +kernel
theorem dX11_story_34 : decode cX11_story 34 = .ok (.astore_n 3, 1) := by decide +kernel
theorem dX11_story_35 : decode cX11_story 35 = .ok (.aload_n 0, 1) := by decide +kernel
theorem dX11_story_36 : decode cX11_story 36 = .ok (.getfield 10, 3) := by decide +kernel
theorem dX11_story_39 : decode cX11_story 39 = .ok (.invokevirtual 124, 3) := by decide +kernel
theorem dX11_story_42 : decode cX11_story 42 = .ok (.aload_n 3, 1) := by decide +kernel
theorem dX11_story_43 : decode cX11_story 43 = .ok (.ifnonnull 11, 3) := by decide +kernel
theorem dX11_story_46 : decode cX11_story 46 = .ok (.aload_n 0, 1) := by decide +kernel
theorem dX11_story_47 : decode cX11_story 47 = .ok (.getfield 19, 3) := by decide +kernel
theorem dX11_story_50 : decode cX11_story 50 = .ok (.invokevirtual 127, 3) := by decide +kernel
theorem dX11_story_53 : decode cX11_story 53 = .ok (.ireturn, 1) := by decide +kernel
theorem dX11_story_54 : decode cX11_story 54 = .ok (.aload_n 0, 1) := by decide +kernel
theorem dX11_story_55 : decode cX11_story 55 = .ok (.getfield 60, 3) := by decide +kernel
theorem dX11_story_58 : decode cX11_story 58 = .ok (.getfield 151, 3) := by decide +kernel
theorem dX11_story_61 : decode cX11_story 61 = .ok (.iload_n 1, 1) := by decide +kernel
theorem dX11_story_62 : decode cX11_story 62 = .ok (.aload_n 3, 1) := by decide +kernel
theorem dX11_story_63 : decode cX11_story 63 = .ok (.aastore, 1) := by decide +kernel
theorem dX11_story_64 : decode cX11_story 64 = .ok (.aload_n 3, 1) := by decide +kernel
theorem dX11_story_65 : decode cX11_story 65 = .ok (.getfield 135, 3) := by decide +kernel
theorem dX11_story_68 : decode cX11_story 68 = .ok (.ireturn, 1) := by decide +kernel
theorem dJ7_copyOf_59c91_0 : decode cJ7_copyOf_59c91 0 = .ok (.iload_n 1, 1) := by decide +kernel
theorem dJ7_copyOf_59c91_1 : decode cJ7_copyOf_59c91 1 = .ok (.aload_n 0, 1) := by decide +kernel
theorem dJ7_copyOf_59c91_2 : decode cJ7_copyOf_59c91 2 = .ok (.arraylength, 1) := by decide +kernel
theorem dJ7_copyOf_59c91_3 : decode cJ7_copyOf_59c91 3 = .ok (.if_icmp .ne 11, 3) := by decide +kernel
theorem dJ7_copyOf_59c91_6 : decode cJ7_copyOf_59c91 6 = .ok (.aload_n 0, 1) := by decide +kernel
theorem dJ7_copyOf_59c91_7 : decode cJ7_copyOf_59c91 7 = .ok (.invokevirtual 316, 3) := by decide +kernel
theorem dJ7_copyOf_59c91_10 : decode cJ7_copyOf_59c91 10 = .ok (.checkcast 317, 3) := by decide +kernel
theorem dJ7_copyOf_59c91_13 : decode cJ7_copyOf_59c91 13 = .ok (.areturn, 1) := by decide +kernel
theorem dJ7_copyOf_59c91_14 : decode cJ7_copyOf_59c91 14 = .ok (.iload_n 1, 1) := by decide +kernel
theorem dJ7_copyOf_59c91_15 : decode cJ7_copyOf_59c91 15 = .ok (.newarray .int, 2) := by decide +kernel
theorem dJ7_copyOf_59c91_17 : decode cJ7_copyOf_59c91 17 = .ok (.astore_n 2, 1) := by decide +kernel
theorem dJ7_copyOf_59c91_18 : decode cJ7_copyOf_59c91 18 = .ok (.aload_n 0, 1) := by decide +kernel
theorem dJ7_copyOf_59c91_19 : decode cJ7_copyOf_59c91 19 = .ok (.iconst 0, 1) := by decide +kernel
theorem dJ7_copyOf_59c91_20 : decode cJ7_copyOf_59c91 20 = .ok (.aload_n 2, 1) := by decide +kernel
theorem dJ7_copyOf_59c91_21 : decode cJ7_copyOf_59c91 21 = .ok (.iconst 0, 1) := by decide +kernel
theorem dJ7_copyOf_59c91_22 : decode cJ7_copyOf_59c91 22 = .ok (.aload_n 0, 1) := by decide +kernel
theorem dJ7_copyOf_59c91_23 : decode cJ7_copyOf_59c91 23 = .ok (.arraylength, 1) := by decide +kernel
theorem dJ7_copyOf_59c91_24 : decode cJ7_copyOf_59c91 24 = .ok (.iload_n 1, 1) := by decide +kernel
theorem dJ7_copyOf_59c91_25 : decode cJ7_copyOf_59c91 25 = .ok (.invokestatic 304, 3) := by decide +kernel
theorem dJ7_copyOf_59c91_28 : decode cJ7_copyOf_59c91 28 = .ok (.invokestatic 150, 3) := by decide +kernel
theorem dJ7_copyOf_59c91_31 : decode cJ7_copyOf_59c91 31 = .ok (.aload_n 2, 1) := by decide +kernel
theorem dJ7_copyOf_59c91_32 : decode cJ7_copyOf_59c91 32 = .ok (.areturn, 1) := by decide +kernel
