theorem dX2_storyAt_0 : decode cX2_storyAt 0 = .ok (.iload_n 1, 1) := by decide +kernel
theorem dX2_storyAt_1 : decode cX2_storyAt 1 = .ok (.invokestatic 38, 3) := by decide +kernel
theorem dX2_storyAt_4 : decode cX2_storyAt 4 = .ok (.ifCond .eq 12, 3) := by decide +kernel
theorem dX2_storyAt_7 : decode cX2_storyAt 7 = .ok (.aload_n 0, 1) := by decide +kernel
theorem dX2_storyAt_8 : decode cX2_storyAt 8 = .ok (.getfield 30, 3) := by decide +kernel
theorem dX2_storyAt_11 : decode cX2_storyAt 11 = .ok (.iload_n 1, 1) := by decide +kernel
theorem dX2_storyAt_12 : decode cX2_storyAt 12 = .ok (.aaload, 1) := by decide +kernel
theorem dX2_storyAt_13 : decode cX2_storyAt 13 = .ok (.goto 4, 3) := by decide +kernel
theorem dX2_storyAt_16 : decode cX2_storyAt 16 = .ok (.aconst_null, 1) := by decide +kernel
theorem dX2_storyAt_17 : decode cX2_storyAt 17 = .ok (.areturn, 1) := by decide +kernel
theorem dX2_alone_0 : decode cX2_alone 0 = .ok (.iconst 0, 1) := by decide +kernel
theorem dX2_alone_1 : decode cX2_alone 1 = .ok (.istore_n 3, 1) := by decide +kernel
theorem dX2_alone_2 : decode cX2_alone 2 = .ok (.iload_n 3, 1) := by decide +kernel
theorem dX2_alone_3 : decode cX2_alone 3 = .ok (.bipush 6, 2) := by decide +kernel
theorem dX2_alone_5 : decode cX2_alone 5 = .ok (.if_icmp .ge 39, 3) := by decide +kernel
theorem dX2_alone_8 : decode cX2_alone 8 = .ok (.aload_n 0, 1) := by decide +kernel
theorem dX2_alone_9 : decode cX2_alone 9 = .ok (.getfield 18, 3) := by decide +kernel
theorem dX2_alone_12 : decode cX2_alone 12 = .ok (.iload_n 3, 1) := by decide +kernel
theorem dX2_alone_13 : decode cX2_alone 13 = .ok (.aload_n 0, 1) := by decide +kernel
theorem dX2_alone_14 : decode cX2_alone 14 = .ok (.getfield 30, 3) := by decide +kernel
theorem dX2_alone_17 : decode cX2_alone 17 = .ok (.iload_n 3, 1) := by decide +kernel
theorem dX2_alone_18 : decode cX2_alone 18 = .ok (.aaload, 1) := by decide +kernel
theorem dX2_alone_19 : decode cX2_alone 19 = .ok (.ifnonnull 7, 3) := by decide +kernel
theorem dX2_alone_22 : decode cX2_alone 22 = .ok (.iconst 0, 1) := by decide +kernel
theorem dX2_alone_23 : decode cX2_alone 23 = .ok (.goto 14, 3) := by decide +kernel
theorem dX2_alone_26 : decode cX2_alone 26 = .ok (.aload_n 0, 1) := by decide +kernel
theorem dX2_alone_27 : decode cX2_alone 27 = .ok (.aload_n 0, 1) := by decide +kernel
theorem dX2_alone_28 : decode cX2_alone 28 = .ok (.getfield 30, 3) := by decide +kernel
theorem dX2_alone_31 : decode cX2_alone 31 = .ok (.iload_n 3, 1) := by decide +kernel
theorem dX2_alone_32 : decode cX2_alone 32 = .ok (.aaload, 1) := by decide +kernel
theorem dX2_alone_33 : decode cX2_alone 33 = .ok (.iload_n 1, 1) := by decide +kernel
theorem dX2_alone_34 : decode cX2_alone 34 = .ok (.invokevirtual 58, 3) := by decide +kernel
theorem dX2_alone_37 : decode cX2_alone 37 = .ok (.iastore, 1) := by decide +kernel
theorem dX2_alone_38 : decode cX2_alone 38 = .ok (.iinc 3 1, 3) := by decide +kernel
theorem dX2_alone_41 : decode cX2_alone 41 = .ok (.goto (-39), 3) := by decide +kernel
theorem dX2_alone_44 : decode cX2_alone 44 = .ok (.iconst 0, 1) := by decide +kernel
theorem dX2_alone_45 : decode cX2_alone 45 = .ok (.istore_n 3, 1) := by decide +kernel
theorem dX2_alone_46 : decode cX2_alone 46 = .ok (.iload_n 3, 1) := by decide +kernel
theorem dX2_alone_47 : decode cX2_alone 47 = .ok (.aload_n 0, 1) := by decide +kernel
theorem dX2_alone_48 : decode cX2_alone 48 = .ok (.getfield 34, 3) := by decide +kernel
theorem dX2_alone_51 : decode cX2_alone 51 = .ok (.if_icmp .ge 78, 3) := by decide +kernel
theorem dX2_alone_54 : decode cX2_alone 54 = .ok (.iconst 0, 1) := by decide +kernel
theorem dX2_alone_55 : decode cX2_alone 55 = .ok (.istore 4, 2) := by decide +kernel
theorem dX2_alone_57 : decode cX2_alone 57 = .ok (.iconst (-1), 1) := by decide +kernel
theorem dX2_alone_58 : decode cX2_alone 58 = .ok (.istore 5, 2) := by decide +kernel
theorem dX2_alone_60 : decode cX2_alone 60 = .ok (.iconst 0, 1) := by decide +kernel
theorem dX2_alone_61 : decode cX2_alone 61 = .ok (.istore 6, 2) := by decide +kernel
theorem dX2_alone_63 : decode cX2_alone 63 = .ok (.iload 6, 2) := by decide +kernel
theorem dX2_alone_65 : decode cX2_alone 65 = .ok (.bipush 6, 2) := by decide +kernel
theorem dX2_alone_67 : decode cX2_alone 67 = .ok (.if_icmp .ge 39, 3) := by decide +kernel
theorem dX2_alone_70 : decode cX2_alone 70 = .ok (.aload_n 0, 1) := by decide +kernel
theorem dX2_alone_71 : decode cX2_alone 71 = .ok (.getfield 18, 3) := by decide +kernel
theorem dX2_alone_74 : decode cX2_alone 74 = .ok (.iload 6, 2) := by decide +kernel
theorem dX2_alone_76 : decode cX2_alone 76 = .ok (.iaload, 1) := by decide +kernel
theorem dX2_alone_77 : decode cX2_alone 77 = .ok (.bipush (-2), 2) := by decide +kernel
theorem dX2_alone_79 : decode cX2_alone 79 = .ok (.if_icmp .eq 14, 3) := by decide +kernel
theorem dX2_alone_82 : decode cX2_alone 82 = .ok (.aload_n 0, 1) := by decide +kernel
theorem dX2_alone_83 : decode cX2_alone 83 = .ok (.getfield 18, 3) := by decide +kernel
theorem dX2_alone_86 : decode cX2_alone 86 = .ok (.iload 6, 2) := by decide +kernel
theorem dX2_alone_88 : decode cX2_alone 88 = .ok (.iaload, 1) := by decide +kernel
theorem dX2_alone_89 : decode cX2_alone 89 = .ok (.iload_n 3, 1) := by decide +kernel
theorem dX2_alone_90 : decode cX2_alone 90 = .ok (.if_icmp .le 10, 3) := by decide +kernel
theorem dX2_alone_93 : decode cX2_alone 93 = .ok (.iinc 4 1, 3) := by decide +kernel
theorem dX2_alone_96 : decode cX2_alone 96 = .ok (.iload 6, 2) := by decide +kernel
theorem dX2_alone_98 : decode cX2_alone 98 = .ok (.istore 5, 2) := by decide +kernel
theorem dX2_alone_100 : decode cX2_alone 100 = .ok (.iinc 6 1, 3) := by decide +kernel
theorem dX2_alone_103 : decode cX2_alone 103 = .ok (.goto (-40), 3) := by decide +kernel
theorem dX2_alone_106 : decode cX2_alone 106 = .ok (.iload 4, 2) := by decide +kernel
theorem dX2_alone_108 : decode cX2_alone 108 = .ok (.iconst 1, 1) := by decide +kernel
theorem dX2_alone_109 : decode cX2_alone 109 = .ok (.if_icmp .ne 14, 3) := by decide +kernel
theorem dX2_alone_112 : decode cX2_alone 112 = .ok (.iload_n 2, 1) := by decide +kernel
theorem dX2_alone_113 : decode cX2_alone 113 = .ok (.ifCond .ne 7, 3) := by decide +kernel
theorem dX2_alone_116 : decode cX2_alone 116 = .ok (.iload_n 3, 1) := by decide +kernel
theorem dX2_alone_117 : decode cX2_alone 117 = .ok (.goto 5, 3) := by decide +kernel
theorem dX2_alone_120 : decode cX2_alone 120 = .ok (.iload 5, 2) := by decide +kernel
theorem dX2_alone_122 : decode cX2_alone 122 = .ok (.ireturn, 1) := by decide +kernel
theorem dX2_alone_123 : decode cX2_alone 123 = .ok (.iinc 3 1, 3) := by decide +kernel
theorem dX2_alone_126 : decode cX2_alone 126 = .ok (.goto (-80), 3) := by decide +kernel
theorem dX2_alone_129 : decode cX2_alone 129 = .ok (.iconst (-1), 1) := by decide +kernel
theorem dX2_alone_130 : decode cX2_alone 130 = .ok (.ireturn, 1) := by decide +kernel
theorem dX7_sourceAt_0 : decode cX7_sourceAt 0 = .ok (.iload_n 1, 1) := by decide +kernel
theorem dX7_sourceAt_1 : decode cX7_sourceAt 1 = .ok (.iconst 0, 1) := by decide +kernel
theorem dX7_sourceAt_2 : decode cX7_sourceAt 2 = .ok (.aload_n 0, 1) := by decide +kernel
theorem dX7_sourceAt_3 : decode cX7_sourceAt 3 = .ok (.getfield 24, 3) := by decide +kernel
theorem dX7_sourceAt_6 : decode cX7_sourceAt 6 = .ok (.iconst 1, 1) := by decide +kernel
theorem dX7_sourceAt_7 : decode cX7_sourceAt 7 = .ok (.isub, 1) := by decide +kernel
theorem dX7_sourceAt_8 : decode cX7_sourceAt 8 = .ok (.invokestatic 31, 3) := by decide +kernel
theorem dX7_sourceAt_11 : decode cX7_sourceAt 11 = .ok (.ifCond .eq 12, 3) := by decide +kernel
theorem dX7_sourceAt_14 : decode cX7_sourceAt 14 = .ok (.aload_n 0, 1) := by decide +kernel
theorem dX7_sourceAt_15 : decode cX7_sourceAt 15 = .ok (.getfield 11, 3) := by decide +kernel
theorem dX7_sourceAt_18 : decode cX7_sourceAt 18 = .ok (.iload_n 1, 1) := by decide +kernel
theorem dX7_sourceAt_19 : decode cX7_sourceAt 19 = .ok (.aaload, 1) := by decide +kernel
theorem dX7_sourceAt_20 : decode cX7_sourceAt 20 = .ok (.goto 4, 3) := by decide +kernel
theorem dX7_sourceAt_23 : decode cX7_sourceAt 23 = .ok (.aconst_null, 1) := by decide +kernel
theorem dX7_sourceAt_24 : decode cX7_sourceAt 24 = .ok (.areturn, 1) := by decide +kernel
theorem dX7_lay_0 : decode cX7_lay 0 = .ok (.aload_n 1, 1) := by decide +kernel
theorem dX7_lay_1 : decode cX7_lay 1 = .ok (.getfield 87, 3) := by decide +kernel
theorem dX7_lay_4 : decode cX7_lay 4 = .ok (.iload_n 2, 1) := by decide +kernel
theorem dX7_lay_5 : decode cX7_lay 5 = .ok (.if_icmp .ne 4, 3) := by decide +kernel
theorem dX7_lay_8 : decode cX7_lay 8 = .ok (.return_, 1) := by decide +kernel
theorem dX7_lay_9 : decode cX7_lay 9 = .ok (.aload_n 1, 1) := by decide +kernel
theorem dX7_lay_10 : decode cX7_lay 10 = .ok (.iload_n 2, 1) := by decide +kernel
theorem dX7_lay_11 : decode cX7_lay 11 = .ok (.invokevirtual 92, 3) := by decide +kernel
theorem dX7_lay_14 : decode cX7_lay 14 = .ok (.iconst 0, 1) := by decide +kernel
theorem dX7_lay_15 : decode cX7_lay 15 = .ok (.istore_n 3, 1) := by decide +kernel
theorem dX7_lay_16 : decode cX7_lay 16 = .ok (.iload_n 3, 1) := by decide +kernel
theorem dX7_lay_17 : decode cX7_lay 17 = .ok (.aload_n 0, 1) := by decide +kernel
theorem dX7_lay_18 : decode cX7_lay 18 = .ok (.getfield 24, 3) := by decide +kernel
theorem dX7_lay_21 : decode cX7_lay 21 = .ok (.if_icmp .ge 46, 3) := by decide +kernel
theorem dX7_lay_24 : decode cX7_lay 24 = .ok (.aload_n 0, 1) := by decide +kernel
theorem dX7_lay_25 : decode cX7_lay 25 = .ok (.getfield 11, 3) := by decide +kernel
theorem dX7_lay_28 : decode cX7_lay 28 = .ok (.iload_n 3, 1) := by decide +kernel
theorem dX7_lay_29 : decode cX7_lay 29 = .ok (.aaload, 1) := by decide +kernel
theorem dX7_lay_30 : decode cX7_lay 30 = .ok (.astore 4, 2) := by decide +kernel
theorem dX7_lay_32 : decode cX7_lay 32 = .ok (.aload 4, 2) := by decide +kernel
theorem dX7_lay_34 : decode cX7_lay 34 = .ok (.ifnull 27, 3) := by decide +kernel
theorem dX7_lay_37 : decode cX7_lay 37 = .ok (.aload 4, 2) := by decide +kernel
theorem dX7_lay_39 : decode cX7_lay 39 = .ok (.getfield 56, 3) := by decide +kernel
theorem dX7_lay_42 : decode cX7_lay 42 = .ok (.ifnull 19, 3) := by decide +kernel
theorem dX7_lay_45 : decode cX7_lay 45 = .ok (.aload 4, 2) := by decide +kernel
theorem dX7_lay_47 : decode cX7_lay 47 = .ok (.iload_n 2, 1) := by decide +kernel
theorem dX7_lay_48 : decode cX7_lay 48 = .ok (.invokevirtual 52, 3) := by decide +kernel
theorem dX7_lay_51 : decode cX7_lay 51 = .ok (.ifCond .eq 10, 3) := by decide +kernel
theorem dX7_lay_54 : decode cX7_lay 54 = .ok (.aload_n 0, 1) := by decide +kernel
theorem dX7_lay_55 : decode cX7_lay 55 = .ok (.aload_n 1, 1) := by decide +kernel
theorem dX7_lay_56 : decode cX7_lay 56 = .ok (.aload 4, 2) := by decide +kernel
theorem dX7_lay_58 : decode cX7_lay 58 = .ok (.invokevirtual 96, 3) := by decide +kernel
theorem dX7_lay_61 : decode cX7_lay 61 = .ok (.iinc 3 1, 3) := by decide +kernel
theorem dX7_lay_64 : decode cX7_lay 64 = .ok (.goto (-48), 3) := by decide +kernel
theorem dX7_lay_67 : decode cX7_lay 67 = .ok (.return_, 1) := by decide +kernel
theorem dX11_height_0 : decode cX11_height 0 = .ok (.aload_n 0, 1) := by decide +kernel
theorem dX11_height_1 : decode cX11_height 1 = .ok (.getfield 26, 3) := by decide +kernel
theorem dX11_height_4 : decode cX11_height 4 = .ok (.iload_n 1, 1) := by decide +kernel
theorem dX11_height_5 : decode cX11_height 5 = .ok (.invokevirtual 108, 3) := by decide +kernel
theorem dX11_height_8 : decode cX11_height 8 = .ok (.astore 4, 2) := by decide +kernel
theorem dX11_height_10 : decode cX11_height 10 = .ok (.aload 4, 2) := by decide +kernel
theorem dX11_height_12 : decode cX11_height 12 = .ok (.ifnull 17, 3) := by decide +kernel
theorem dX11_height_15 : decode cX11_height 15 = .ok (.iload_n 2, 1) := by decide +kernel
theorem dX11_height_16 : decode cX11_height 16 = .ok (.invokestatic 154, 3) := by decide +kernel
theorem dX11_height_19 : decode cX11_height 19 = .ok (.ifCond .eq 10, 3) := by decide +kernel
theorem dX11_height_22 : decode cX11_height 22 = .ok (.iload_n 3, 1) := by decide +kernel
theorem dX11_height_23 : decode cX11_height 23 = .ok (.invokestatic 71, 3) := by decide +kernel
theorem dX11_height_26 : decode cX11_height 26 = .ok (.ifCond .ne 5, 3) := by decide +kernel
theorem dX11_height_29 : decode cX11_height 29 = .ok (.iconst (-1), 1) := by decide +kernel
theorem dX11_height_30 : decode cX11_height 30 = .ok (.ireturn, 1) := by decide +kernel
theorem dX11_height_31 : decode cX11_height 31 = .ok (.aload_n 0, 1) := by decide +kernel
theorem dX11_height_32 : decode cX11_height 32 = .ok (.getfield 26, 3) := by decide +kernel
theorem dX11_height_35 : decode cX11_height 35 = .ok (.aload 4, 2) := by decide +kernel
theorem dX11_height_37 : decode cX11_height 37 = .ok (.iload_n 2, 1) := by decide +kernel
theorem dX11_height_38 : decode cX11_height 38 = .ok (.iload_n 3, 1) := by decide +kernel
theorem dX11_height_39 : decode cX11_height 39 = .ok (.invokevirtual 161, 3) := by decide +kernel
theorem dX11_height_42 : decode cX11_height 42 = .ok (.ireturn, 1) := by decide +kernel
theorem dX11_paper_0 : decode cX11_paper 0 = .ok (.iload_n 1, 1) := by decide +kernel
theorem dX11_paper_1 : decode cX11_paper 1 = .ok (.invokestatic 154, 3) := by decide +kernel
theorem dX11_paper_4 : decode cX11_paper 4 = .ok (.ifCond .eq 19, 3) := by decide +kernel
theorem dX11_paper_7 : decode cX11_paper 7 = .ok (.iload_n 2, 1) := by decide +kernel
theorem dX11_paper_8 : decode cX11_paper 8 = .ok (.invokestatic 71, 3) := by decide +kernel
theorem dX11_paper_11 : decode cX11_paper 11 = .ok (.ifCond .eq 12, 3) := by decide +kernel
theorem dX11_paper_14 : decode cX11_paper 14 = .ok (.iload_n 3, 1) := by decide +kernel
theorem dX11_paper_15 : decode cX11_paper 15 = .ok (.iconst 0, 1) := by decide +kernel
theorem dX11_paper_16 : decode cX11_paper 16 = .ok (.iconst 1, 1) := by decide +kernel
theorem dX11_paper_17 : decode cX11_paper 17 = .ok (.invokestatic 75, 3) := by decide +kernel
theorem dX11_paper_20 : decode cX11_paper 20 = .ok (.ifCond .ne 5, 3) := by decide +kernel
theorem dX11_paper_23 : decode cX11_paper 23 = .ok (.iconst (-1), 1) := by decide +kernel
theorem dX11_paper_24 : decode cX11_paper 24 = .ok (.ireturn, 1) := by decide +kernel
theorem dX11_paper_25 : decode cX11_paper 25 = .ok (.aload_n 0, 1) := by decide +kernel
theorem dX11_paper_26 : decode cX11_paper 26 = .ok (.getfield 26, 3) := by decide +kernel
theorem dX11_paper_29 : decode cX11_paper 29 = .ok (.aload_n 0, 1) := by decide +kernel
theorem dX11_paper_30 : decode cX11_paper 30 = .ok (.getfield 33, 3) := by decide +kernel
theorem dX11_paper_33 : decode cX11_paper 33 = .ok (.iload_n 1, 1) := by decide +kernel
theorem dX11_paper_34 : decode cX11_paper 34 = .ok (.invokevirtual 165, 3) := by decide +kernel
theorem dX11_paper_37 : decode cX11_paper 37 = .ok (.iload_n 3, 1) := by decide +kernel
theorem dX11_paper_38 : decode cX11_paper 38 = .ok (.ifCond .ne 15, 3) := by decide +kernel
theorem dX11_paper_41 : decode cX11_paper 41 = .ok (.aload_n 0, 1) := by decide +kernel
theorem dX11_paper_42 : decode cX11_paper 42 = .ok (.getfield 33, 3) := by decide +kernel
theorem dX11_paper_45 : decode cX11_paper 45 = .ok (.getfield 169, 3) := by decide +kernel
theorem dX11_paper_48 : decode cX11_paper 48 = .ok (.iload_n 2, 1) := by decide +kernel
theorem dX11_paper_49 : decode cX11_paper 49 = .ok (.iaload, 1) := by decide +kernel
theorem dX11_paper_50 : decode cX11_paper 50 = .ok (.goto 12, 3) := by decide +kernel
theorem dX11_paper_53 : decode cX11_paper 53 = .ok (.aload_n 0, 1) := by decide +kernel
theorem dX11_paper_54 : decode cX11_paper 54 = .ok (.getfield 33, 3) := by decide +kernel
theorem dX11_paper_57 : decode cX11_paper 57 = .ok (.getfield 172, 3) := by decide +kernel
theorem dX11_paper_60 : decode cX11_paper 60 = .ok (.iload_n 2, 1) := by decide +kernel
theorem dX11_paper_61 : decode cX11_paper 61 = .ok (.iaload, 1) := by decide +kernel
theorem dX11_paper_62 : decode cX11_paper 62 = .ok (.ireturn, 1) := by decide +kernel
theorem dX11_marks_0 : decode cX11_marks 0 = .ok (.iload_n 1, 1) := by decide +kernel
theorem dX11_marks_1 : decode cX11_marks 1 = .ok (.invokestatic 138, 3) := by decide +kernel
theorem dX11_marks_4 : decode cX11_marks 4 = .ok (.ifCond .eq 15, 3) := by decide +kernel
theorem dX11_marks_7 : decode cX11_marks 7 = .ok (.iload_n 2, 1) := by decide +kernel
theorem dX11_marks_8 : decode cX11_marks 8 = .ok (.invokestatic 154, 3) := by decide +kernel
theorem dX11_marks_11 : decode cX11_marks 11 = .ok (.ifCond .eq 8, 3) := by decide +kernel
theorem dX11_marks_14 : decode cX11_marks 14 = .ok (.iload_n 3, 1) := by decide +kernel
theorem dX11_marks_15 : decode cX11_marks 15 = .ok (.iconst (-1), 1) := by decide +kernel
theorem dX11_marks_16 : decode cX11_marks 16 = .ok (.if_icmp .ge 5, 3) := by decide +kernel
theorem dX11_marks_19 : decode cX11_marks 19 = .ok (.iconst (-1), 1) := by decide +kernel
theorem dX11_marks_20 : decode cX11_marks 20 = .ok (.ireturn, 1) := by decide +kernel
theorem dX11_marks_21 : decode cX11_marks 21 = .ok (.aload_n 0, 1) := by decide +kernel
theorem dX11_marks_22 : decode cX11_marks 22 = .ok (.getfield 26, 3) := by decide +kernel
theorem dX11_marks_25 : decode cX11_marks 25 = .ok (.aload_n 0, 1) := by decide +kernel
theorem dX11_marks_26 : decode cX11_marks 26 = .ok (.getfield 33, 3) := by decide +kernel
theorem dX11_marks_29 : decode cX11_marks 29 = .ok (.iload_n 2, 1) := by decide +kernel
theorem dX11_marks_30 : decode cX11_marks 30 = .ok (.invokevirtual 165, 3) := by decide +kernel
theorem dX11_marks_33 : decode cX11_marks 33 = .ok (.aload_n 0, 1) := by decide +kernel
theorem dX11_marks_34 : decode cX11_marks 34 = .ok (.getfield 33, 3) := by decide +kernel
theorem dX11_marks_37 : decode cX11_marks 37 = .ok (.iload_n 1, 1) := by decide +kernel
theorem dX11_marks_38 : decode cX11_marks 38 = .ok (.aload_n 0, 1) := by decide +kernel
theorem dX11_marks_39 : decode cX11_marks 39 = .ok (.getfield 39, 3) := by decide +kernel
theorem dX11_marks_42 : decode cX11_marks 42 = .ok (.iload_n 1, 1) := by decide +kernel
theorem dX11_marks_43 : decode cX11_marks 43 = .ok (.aaload, 1) := by decide +kernel
theorem dX11_marks_44 : decode cX11_marks 44 = .ok (.invokevirtual 175, 3) := by decide +kernel
theorem dX11_marks_47 : decode cX11_marks 47 = .ok (.iload_n 3, 1) := by decide +kernel
theorem dX11_marks_48 : decode cX11_marks 48 = .ok (.iconst (-1), 1) := by decide +kernel
theorem dX11_marks_49 : decode cX11_marks 49 = .ok (.if_icmp .ne 14, 3) := by decide +kernel
theorem dX11_marks_52 : decode cX11_marks 52 = .ok (.aload_n 0, 1) := by decide +kernel
theorem dX11_marks_53 : decode cX11_marks 53 = .ok (.getfield 33, 3) := by decide +kernel
theorem dX11_marks_56 : decode cX11_marks 56 = .ok (.iload_n 1, 1) := by decide +kernel
theorem dX11_marks_57 : decode cX11_marks 57 = .ok (.invokevirtual 179, 3) := by decide +kernel
theorem dX11_marks_60 : decode cX11_marks 60 = .ok (.goto 12, 3) := by decide +kernel
theorem dX11_marks_63 : decode cX11_marks 63 = .ok (.aload_n 0, 1) := by decide +kernel
theorem dX11_marks_64 : decode cX11_marks 64 = .ok (.getfield 33, 3) := by decide +kernel
theorem dX11_marks_67 : decode cX11_marks 67 = .ok (.iload_n 1, 1) := by decide +kernel
theorem dX11_marks_68 : decode cX11_marks 68 = .ok (.iload_n 3, 1) := by decide +kernel
theorem dX11_marks_69 : decode cX11_marks 69 = .ok (.invokevirtual 183, 3) := by decide +kernel
theorem dX11_marks_72 : decode cX11_marks 72 = .ok (.ireturn, 1) := by decide +kernel
theorem dX11_passed_0 : decode cX11_passed 0 = .ok (.iload_n 1, 1) := by decide +kernel
theorem dX11_passed_1 : decode cX11_passed 1 = .ok (.invokestatic 138, 3) := by decide +kernel
theorem dX11_passed_4 : decode cX11_passed 4 = .ok (.ifCond .eq 39, 3) := by decide +kernel
theorem dX11_passed_7 : decode cX11_passed 7 = .ok (.iload_n 2, 1) := by decide +kernel
theorem dX11_passed_8 : decode cX11_passed 8 = .ok (.invokestatic 138, 3) := by decide +kernel
theorem dX11_passed_11 : decode cX11_passed 11 = .ok (.ifCond .eq 32, 3) := by decide +kernel
theorem dX11_passed_14 : decode cX11_passed 14 = .ok (.iload_n 3, 1) := by decide +kernel
theorem dX11_passed_15 : decode cX11_passed 15 = .ok (.invokestatic 154, 3) := by decide +kernel
theorem dX11_passed_18 : decode cX11_passed 18 = .ok (.ifCond .eq 25, 3) := by decide +kernel
theorem dX11_passed_21 : decode cX11_passed 21 = .ok (.iload 4, 2) := by decide +kernel
theorem dX11_passed_23 : decode cX11_passed 23 = .ok (.invokestatic 154, 3) := by decide +kernel
theorem dX11_passed_26 : decode cX11_passed 26 = .ok (.ifCond .eq 17, 3) := by decide +kernel
theorem dX11_passed_29 : decode cX11_passed 29 = .ok (.iload 5, 2) := by decide +kernel
theorem dX11_passed_31 : decode cX11_passed 31 = .ok (.iconst 0, 1) := by decide +kernel
theorem dX11_passed_32 : decode cX11_passed 32 = .ok (.iconst 2, 1) := by decide +kernel
theorem dX11_passed_33 : decode cX11_passed 33 = .ok (.invokestatic 75, 3) := by decide +kernel
theorem dX11_passed_36 : decode cX11_passed 36 = .ok (.ifCond .eq 7, 3) := by decide +kernel
theorem dX11_passed_39 : decode cX11_passed 39 = .ok (.iconst 1, 1) := by decide +kernel
theorem dX11_passed_40 : decode cX11_passed 40 = .ok (.goto 4, 3) := by decide +kernel
theorem dX11_passed_43 : decode cX11_passed 43 = .ok (.iconst 0, 1) := by decide +kernel
theorem dX11_passed_44 : decode cX11_passed 44 = .ok (.istore 6, 2) := by decide +kernel
theorem dX11_passed_46 : decode cX11_passed 46 = .ok (.iload 6, 2) := by decide +kernel
theorem dX11_passed_48 : decode cX11_passed 48 = .ok (.ifCond .eq 18, 3) := by decide +kernel
theorem dX11_passed_51 : decode cX11_passed 51 = .ok (.iload_n 3, 1) := by decide +kernel
theorem dX11_passed_52 : decode cX11_passed 52 = .ok (.iload 4, 2) := by decide +kernel
theorem dX11_passed_54 : decode cX11_passed 54 = .ok (.if_icmp .gt 12, 3) := by decide +kernel
theorem dX11_passed_57 : decode cX11_passed 57 = .ok (.iload 4, 2) := by decide +kernel
theorem dX11_passed_59 : decode cX11_passed 59 = .ok (.iload_n 3, 1) := by decide +kernel
theorem dX11_passed_60 : decode cX11_passed 60 = .ok (.isub, 1) := by decide +kernel
theorem dX11_passed_61 : decode cX11_passed 61 = .ok (.bipush 30, 2) := by decide +kernel
theorem dX11_passed_63 : decode cX11_passed 63 = .ok (.if_icmp .lt 5, 3) := by decide +kernel
theorem dX11_passed_66 : decode cX11_passed 66 = .ok (.iconst (-1), 1) := by decide +kernel
theorem dX11_passed_67 : decode cX11_passed 67 = .ok (.ireturn, 1) := by decide +kernel
theorem dX11_passed_68 : decode cX11_passed 68 = .ok (.iconst 0, 1) := by decide +kernel
theorem dX11_passed_69 : decode cX11_passed 69 = .ok (.istore 7, 2) := by decide +kernel
theorem dX11_passed_71 : decode cX11_passed 71 = .ok (.iload_n 3, 1) := by decide +kernel
theorem dX11_passed_72 : decode cX11_passed 72 = .ok (.istore 8, 2) := by decide +kernel
theorem dX11_passed_74 : decode cX11_passed 74 = .ok (.iload 8, 2) := by decide +kernel
theorem dX11_passed_76 : decode cX11_passed 76 = .ok (.iload 4, 2) := by decide +kernel
theorem dX11_passed_78 : decode cX11_passed 78 = .ok (.if_icmp .gt 99, 3) := by decide +kernel
theorem dX11_passed_81 : decode cX11_passed 81 = .ok (.aload_n 0, 1) := by decide +kernel
theorem dX11_passed_82 : decode cX11_passed 82 = .ok (.getfield 26, 3) := by decide +kernel
theorem dX11_passed_85 : decode cX11_passed 85 = .ok (.aload_n 0, 1) := by decide +kernel
theorem dX11_passed_86 : decode cX11_passed 86 = .ok (.getfield 33, 3) := by decide +kernel
theorem dX11_passed_89 : decode cX11_passed 89 = .ok (.iload 8, 2) := by decide +kernel
theorem dX11_passed_91 : decode cX11_passed 91 = .ok (.invokevirtual 165, 3) := by decide +kernel
theorem dX11_passed_94 : decode cX11_passed 94 = .ok (.aload_n 0, 1) := by decide +kernel
theorem dX11_passed_95 : decode cX11_passed 95 = .ok (.getfield 33, 3) := by decide +kernel
theorem dX11_passed_98 : decode cX11_passed 98 = .ok (.iload_n 1, 1) := by decide +kernel
theorem dX11_passed_99 : decode cX11_passed 99 = .ok (.aload_n 0, 1) := by decide +kernel
theorem dX11_passed_100 : decode cX11_passed 100 = .ok (.getfield 39, 3) := by decide +kernel
theorem dX11_passed_103 : decode cX11_passed 103 = .ok (.iload_n 1, 1) := by decide +kernel
theorem dX11_passed_104 : decode cX11_passed 104 = .ok (.aaload, 1) := by decide +kernel
theorem dX11_passed_105 : decode cX11_passed 105 = .ok (.invokevirtual 175, 3) := by decide +kernel
theorem dX11_passed_108 : decode cX11_passed 108 = .ok (.aload_n 0, 1) := by decide +kernel
theorem dX11_passed_109 : decode cX11_passed 109 = .ok (.getfield 33, 3) := by decide +kernel
theorem dX11_passed_112 : decode cX11_passed 112 = .ok (.iload_n 2, 1) := by decide +kernel
theorem dX11_passed_113 : decode cX11_passed 113 = .ok (.aload_n 0, 1) := by decide +kernel
theorem dX11_passed_114 : decode cX11_passed 114 = .ok (.getfield 39, 3) := by decide +kernel
theorem dX11_passed_117 : decode cX11_passed 117 = .ok (.iload_n 2, 1) := by decide +kernel
theorem dX11_passed_118 : decode cX11_passed 118 = .ok (.aaload, 1) := by decide +kernel
theorem dX11_passed_119 : decode cX11_passed 119 = .ok (.invokevirtual 175, 3) := by decide +kernel
theorem dX11_passed_122 : decode cX11_passed 122 = .ok (.aload_n 0, 1) := by decide +kernel
theorem dX11_passed_123 : decode cX11_passed 123 = .ok (.getfield 33, 3) := by decide +kernel
theorem dX11_passed_126 : decode cX11_passed 126 = .ok (.iload_n 1, 1) := by decide +kernel
theorem dX11_passed_127 : decode cX11_passed 127 = .ok (.iload_n 2, 1) := by decide +kernel
theorem dX11_passed_128 : decode cX11_passed 128 = .ok (.invokevirtual 186, 3) := by decide +kernel
theorem dX11_passed_131 : decode cX11_passed 131 = .ok (.istore 9, 2) := by decide +kernel
theorem dX11_passed_133 : decode cX11_passed 133 = .ok (.iload 9, 2) := by decide +kernel
theorem dX11_passed_135 : decode cX11_passed 135 = .ok (.ifCond .le 29, 3) := by decide +kernel
theorem dX11_passed_138 : decode cX11_passed 138 = .ok (.iload 5, 2) := by decide +kernel
theorem dX11_passed_140 : decode cX11_passed 140 = .ok (.ifCond .le 24, 3) := by decide +kernel
theorem dX11_passed_143 : decode cX11_passed 143 = .ok (.iload 5, 2) := by decide +kernel
theorem dX11_passed_145 : decode cX11_passed 145 = .ok (.iconst 1, 1) := by decide +kernel
theorem dX11_passed_146 : decode cX11_passed 146 = .ok (.if_icmp .ne 8, 3) := by decide +kernel
theorem dX11_passed_149 : decode cX11_passed 149 = .ok (.iload 8, 2) := by decide +kernel
theorem dX11_passed_151 : decode cX11_passed 151 = .ok (.goto 12, 3) := by decide +kernel
theorem dX11_passed_154 : decode cX11_passed 154 = .ok (.aload_n 0, 1) := by decide +kernel
theorem dX11_passed_155 : decode cX11_passed 155 = .ok (.getfield 33, 3) := by decide +kernel
theorem dX11_passed_158 : decode cX11_passed 158 = .ok (.iload_n 1, 1) := by decide +kernel
theorem dX11_passed_159 : decode cX11_passed 159 = .ok (.iload_n 2, 1) := by decide +kernel
theorem dX11_passed_160 : decode cX11_passed 160 = .ok (.invokevirtual 189, 3) := by decide +kernel
theorem dX11_passed_163 : decode cX11_passed 163 = .ok (.ireturn, 1) := by decide +kernel
theorem dX11_passed_164 : decode cX11_passed 164 = .ok (.iload 7, 2) := by decide +kernel
theorem dX11_passed_166 : decode cX11_passed 166 = .ok (.iload 9, 2) := by decide +kernel
theorem dX11_passed_168 : decode cX11_passed 168 = .ok (.iadd, 1) := by decide +kernel
theorem dX11_passed_169 : decode cX11_passed 169 = .ok (.istore 7, 2) := by decide +kernel
theorem dX11_passed_171 : decode cX11_passed 171 = .ok (.iinc 8 1, 3) := by decide +kernel
theorem dX11_passed_174 : decode cX11_passed 174 = .ok (.goto (-100), 3) := by decide +kernel
theorem dX11_passed_177 : decode cX11_passed 177 = .ok (.iload 5, 2) := by decide +kernel
theorem dX11_passed_179 : decode cX11_passed 179 = .ok (.ifCond .ne 8, 3) := by decide +kernel
theorem dX11_passed_182 : decode cX11_passed 182 = .ok (.iload 7, 2) := by decide +kernel
theorem dX11_passed_184 : decode cX11_passed 184 = .ok (.goto 4, 3) := by decide +kernel
theorem dX11_passed_187 : decode cX11_passed 187 = .ok (.iconst (-1), 1) := by decide +kernel
theorem dX11_passed_188 : decode cX11_passed 188 = .ok (.ireturn, 1) := by decide +kernel
theorem dX11_says_0 : decode cX11_says 0 = .ok (.aload_n 0, 1) := by decide +kernel
theorem dX11_says_1 : decode cX11_says 1 = .ok (.getfield 60, 3) := by decide +kernel
theorem dX11_says_4 : decode cX11_says 4 = .ok (.iload_n 1, 1) := by decide +kernel
theorem dX11_says_5 : decode cX11_says 5 = .ok (.invokevirtual 243, 3) := by decide +kernel
theorem dX11_says_8 : decode cX11_says 8 = .ok (.astore_n 3, 1) := by decide +kernel
theorem dX11_says_9 : decode cX11_says 9 = .ok (.aload_n 3, 1) := by decide +kernel
theorem dX11_says_10 : decode cX11_says 10 = .ok (.ifnull 20, 3) := by decide +kernel
theorem dX11_says_13 : decode cX11_says 13 = .ok (.iload_n 2, 1) := by decide +kernel
theorem dX11_says_14 : decode cX11_says 14 = .ok (.iconst 0, 1) := by decide +kernel
theorem dX11_says_15 : decode cX11_says 15 = .ok (.aload_n 0, 1) := by decide +kernel
theorem dX11_says_16 : decode cX11_says 16 = .ok (.getfield 60, 3) := by decide +kernel
theorem dX11_says_19 : decode cX11_says 19 = .ok (.getfield 247, 3) := by decide +kernel
theorem dX11_says_22 : decode cX11_says 22 = .ok (.iconst 1, 1) := by decide +kernel
theorem dX11_says_23 : decode cX11_says 23 = .ok (.isub, 1) := by decide +kernel
theorem dX11_says_24 : decode cX11_says 24 = .ok (.invokestatic 75, 3) := by decide +kernel
theorem dX11_says_27 : decode cX11_says 27 = .ok (.ifCond .ne 6, 3) := by decide +kernel
theorem dX11_says_30 : decode cX11_says 30 = .ok (.ldc 248, 2) := by decide +kernel
theorem dX11_says_32 : decode cX11_says 32 = .ok (.ireturn, 1) := by decide +kernel
theorem dX11_says_33 : decode cX11_says 33 = .ok (.aload_n 0, 1) := by decide +kernel
theorem dX11_says_34 : decode cX11_says 34 = .ok (.getfield 60, 3) := by decide +kernel
theorem dX11_says_37 : decode cX11_says 37 = .ok (.aload_n 3, 1) := by decide +kernel
theorem dX11_says_38 : decode cX11_says 38 = .ok (.iload_n 2, 1) := by decide +kernel
theorem dX11_says_39 : decode cX11_says 39 = .ok (.invokevirtual 249, 3) := by decide +kernel
theorem dX11_says_42 : decode cX11_says 42 = .ok (.ireturn, 1) := by decide +kernel
theorem dX11_falls_0 : decode cX11_falls 0 = .ok (.aload_n 0, 1) := by decide +kernel
theorem dX11_falls_1 : decode cX11_falls 1 = .ok (.getfield 60, 3) := by decide +kernel
theorem dX11_falls_4 : decode cX11_falls 4 = .ok (.iload_n 1, 1) := by decide +kernel
theorem dX11_falls_5 : decode cX11_falls 5 = .ok (.invokevirtual 243, 3) := by decide +kernel
theorem dX11_falls_8 : decode cX11_falls 8 = .ok (.astore_n 3, 1) := by decide +kernel
theorem dX11_falls_9 : decode cX11_falls 9 = .ok (.aload_n 3, 1) := by decide +kernel
theorem dX11_falls_10 : decode cX11_falls 10 = .ok (.ifnull 10, 3) := by decide +kernel
theorem dX11_falls_13 : decode cX11_falls 13 = .ok (.iload_n 2, 1) := by decide +kernel
theorem dX11_falls_14 : decode cX11_falls 14 = .ok (.invokestatic 253, 3) := by decide +kernel
theorem dX11_falls_17 : decode cX11_falls 17 = .ok (.ifCond .ne 7, 3) := by decide +kernel
theorem dX11_falls_20 : decode cX11_falls 20 = .ok (.iconst (-1), 1) := by decide +kernel
theorem dX11_falls_21 : decode cX11_falls 21 = .ok (.goto 12, 3) := by decide +kernel
theorem dX11_falls_24 : decode cX11_falls 24 = .ok (.aload_n 0, 1) := by decide +kernel
theorem dX11_falls_25 : decode cX11_falls 25 = .ok (.getfield 60, 3) := by decide +kernel
theorem dX11_falls_28 : decode cX11_falls 28 = .ok (.aload_n 3, 1) := by decide +kernel
theorem dX11_falls_29 : decode cX11_falls 29 = .ok (.iload_n 2, 1) := by decide +kernel
theorem dX11_falls_30 : decode cX11_falls 30 = .ok (.invokevirtual 256, 3) := by decide +kernel
theorem dX11_falls_33 : decode cX11_falls 33 = .ok (.ireturn, 1) := by decide +kernel
theorem dX11_told_0 : decode cX11_told 0 = .ok (.iload_n 1, 1) := by decide +kernel
theorem dX11_told_1 : decode cX11_told 1 = .ok (.invokestatic 253, 3) := by decide +kernel
theorem dX11_told_4 : decode cX11_told 4 = .ok (.ifCond .eq 24, 3) := by decide +kernel
theorem dX11_told_7 : decode cX11_told 7 = .ok (.iload_n 2, 1) := by decide +kernel
theorem dX11_told_8 : decode cX11_told 8 = .ok (.iconst 0, 1) := by decide +kernel
theorem dX11_told_9 : decode cX11_told 9 = .ok (.iconst 1, 1) := by decide +kernel
theorem dX11_told_10 : decode cX11_told 10 = .ok (.invokestatic 75, 3) := by decide +kernel
theorem dX11_told_13 : decode cX11_told 13 = .ok (.ifCond .eq 15, 3) := by decide +kernel
theorem dX11_told_16 : decode cX11_told 16 = .ok (.aload_n 0, 1) := by decide +kernel
theorem dX11_told_17 : decode cX11_told 17 = .ok (.getfield 60, 3) := by decide +kernel
theorem dX11_told_20 : decode cX11_told 20 = .ok (.iload_n 1, 1) := by decide +kernel
theorem dX11_told_21 : decode cX11_told 21 = .ok (.iload_n 2, 1) := by decide +kernel
theorem dX11_told_22 : decode cX11_told 22 = .ok (.invokevirtual 259, 3) := by decide +kernel
theorem dX11_told_25 : decode cX11_told 25 = .ok (.goto 4, 3) := by decide +kernel
theorem dX11_told_28 : decode cX11_told 28 = .ok (.iconst (-1), 1) := by decide +kernel
theorem dX11_told_29 : decode cX11_told 29 = .ok (.ireturn, 1) := by decide +kernel
theorem dX11_check_0 : decode cX11_check 0 = .ok (.iload_n 1, 1) := by decide +kernel
theorem dX11_check_1 : decode cX11_check 1 = .ok (.invokestatic 138, 3) := by decide +kernel
theorem dX11_check_4 : decode cX11_check 4 = .ok (.ifCond .eq 28, 3) := by decide +kernel
theorem dX11_check_7 : decode cX11_check 7 = .ok (.iload_n 2, 1) := by decide +kernel
theorem dX11_check_8 : decode cX11_check 8 = .ok (.invokestatic 154, 3) := by decide +kernel
theorem dX11_check_11 : decode cX11_check 11 = .ok (.ifCond .eq 21, 3) := by decide +kernel
theorem dX11_check_14 : decode cX11_check 14 = .ok (.iload_n 3, 1) := by decide +kernel
theorem dX11_check_15 : decode cX11_check 15 = .ok (.iconst 0, 1) := by decide +kernel
theorem dX11_check_16 : decode cX11_check 16 = .ok (.aload_n 0, 1) := by decide +kernel
theorem dX11_check_17 : decode cX11_check 17 = .ok (.getfield 10, 3) := by decide +kernel
theorem dX11_check_20 : decode cX11_check 20 = .ok (.getfield 101, 3) := by decide +kernel
theorem dX11_check_23 : decode cX11_check 23 = .ok (.bipush 12, 2) := by decide +kernel
theorem dX11_check_25 : decode cX11_check 25 = .ok (.idiv, 1) := by decide +kernel
theorem dX11_check_26 : decode cX11_check 26 = .ok (.invokestatic 75, 3) := by decide +kernel
theorem dX11_check_29 : decode cX11_check 29 = .ok (.ifCond .ne 6, 3) := by decide +kernel
theorem dX11_check_32 : decode cX11_check 32 = .ok (.bipush (-2), 2) := by decide +kernel
theorem dX11_check_34 : decode cX11_check 34 = .ok (.ireturn, 1) := by decide +kernel
theorem dX11_check_35 : decode cX11_check 35 = .ok (.aload_n 0, 1) := by decide +kernel
theorem dX11_check_36 : decode cX11_check 36 = .ok (.getfield 26, 3) := by decide +kernel
theorem dX11_check_39 : decode cX11_check 39 = .ok (.aload_n 0, 1) := by decide +kernel
theorem dX11_check_40 : decode cX11_check 40 = .ok (.getfield 33, 3) := by decide +kernel
theorem dX11_check_43 : decode cX11_check 43 = .ok (.iload_n 2, 1) := by decide +kernel
theorem dX11_check_44 : decode cX11_check 44 = .ok (.invokevirtual 165, 3) := by decide +kernel
theorem dX11_check_47 : decode cX11_check 47 = .ok (.aload_n 0, 1) := by decide +kernel
theorem dX11_check_48 : decode cX11_check 48 = .ok (.getfield 33, 3) := by decide +kernel
theorem dX11_check_51 : decode cX11_check 51 = .ok (.iload_n 1, 1) := by decide +kernel
theorem dX11_check_52 : decode cX11_check 52 = .ok (.aload_n 0, 1) := by decide +kernel
theorem dX11_check_53 : decode cX11_check 53 = .ok (.getfield 39, 3) := by decide +kernel
theorem dX11_check_56 : decode cX11_check 56 = .ok (.iload_n 1, 1) := by decide +kernel
theorem dX11_check_57 : decode cX11_check 57 = .ok (.aaload, 1) := by decide +kernel
theorem dX11_check_58 : decode cX11_check 58 = .ok (.invokevirtual 175, 3) := by decide +kernel
theorem dX11_check_61 : decode cX11_check 61 = .ok (.aload_n 0, 1) := by decide +kernel
theorem dX11_check_62 : decode cX11_check 62 = .ok (.getfield 33, 3) := by decide +kernel
theorem dX11_check_65 : decode cX11_check 65 = .ok (.iload_n 1, 1) := by decide +kernel
theorem dX11_check_66 : decode cX11_check 66 = .ok (.aload_n 0, 1) := by decide +kernel
theorem dX11_check_67 : decode cX11_check 67 = .ok (.getfield 10, 3) := by decide +kernel
theorem dX11_check_70 : decode cX11_check 70 = .ok (.iload_n 3, 1) := by decide +kernel
theorem dX11_check_71 : decode cX11_check 71 = .ok (.invokevirtual 297, 3) := by decide +kernel
theorem dX11_check_74 : decode cX11_check 74 = .ok (.istore 4, 2) := by decide +kernel
theorem dX11_check_76 : decode cX11_check 76 = .ok (.aload_n 0, 1) := by decide +kernel
theorem dX11_check_77 : decode cX11_check 77 = .ok (.getfield 10, 3) := by decide +kernel
theorem dX11_check_80 : decode cX11_check 80 = .ok (.invokevirtual 124, 3) := by decide +kernel
theorem dX11_check_83 : decode cX11_check 83 = .ok (.iload 4, 2) := by decide +kernel
theorem dX11_check_85 : decode cX11_check 85 = .ok (.ireturn, 1) := by decide +kernel
theorem dX11_count_0 : decode cX11_count 0 = .ok (.iload_n 1, 1) := by decide +kernel
theorem dX11_count_1 : decode cX11_count 1 = .ok (.tableswitch 87 0 5 #[39, 47, 55, 63, 71, 79], 39) := by decide +kernel
theorem dX11_count_40 : decode cX11_count 40 = .ok (.aload_n 0, 1) := by decide +kernel
theorem dX11_count_41 : decode cX11_count 41 = .ok (.getfield 26, 3) := by decide +kernel
theorem dX11_count_44 : decode cX11_count 44 = .ok (.getfield 82, 3) := by decide +kernel
theorem dX11_count_47 : decode cX11_count 47 = .ok (.ireturn, 1) := by decide +kernel
theorem dX11_count_48 : decode cX11_count 48 = .ok (.aload_n 0, 1) := by decide +kernel
theorem dX11_count_49 : decode cX11_count 49 = .ok (.getfield 46, 3) := by decide +kernel
theorem dX11_count_52 : decode cX11_count 52 = .ok (.getfield 301, 3) := by decide +kernel
theorem dX11_count_55 : decode cX11_count 55 = .ok (.ireturn, 1) := by decide +kernel
theorem dX11_count_56 : decode cX11_count 56 = .ok (.aload_n 0, 1) := by decide +kernel
theorem dX11_count_57 : decode cX11_count 57 = .ok (.getfield 53, 3) := by decide +kernel
theorem dX11_count_60 : decode cX11_count 60 = .ok (.getfield 210, 3) := by decide +kernel
theorem dX11_count_63 : decode cX11_count 63 = .ok (.ireturn, 1) := by decide +kernel
theorem dX11_count_64 : decode cX11_count 64 = .ok (.aload_n 0, 1) := by decide +kernel
theorem dX11_count_65 : decode cX11_count 65 = .ok (.getfield 60, 3) := by decide +kernel
theorem dX11_count_68 : decode cX11_count 68 = .ok (.getfield 247, 3) := by decide +kernel
theorem dX11_count_71 : decode cX11_count 71 = .ok (.ireturn, 1) := by decide +kernel
theorem dX11_count_72 : decode cX11_count 72 = .ok (.aload_n 0, 1) := by decide +kernel
theorem dX11_count_73 : decode cX11_count 73 = .ok (.getfield 26, 3) := by decide +kernel
theorem dX11_count_76 : decode cX11_count 76 = .ok (.getfield 98, 3) := by decide +kernel
theorem dX11_count_79 : decode cX11_count 79 = .ok (.ireturn, 1) := by decide +kernel
theorem dX11_count_80 : decode cX11_count 80 = .ok (.aload_n 0, 1) := by decide +kernel
theorem dX11_count_81 : decode cX11_count 81 = .ok (.getfield 10, 3) := by decide +kernel
theorem dX11_count_84 : decode cX11_count 84 = .ok (.getfield 101, 3) := by decide +kernel
theorem dX11_count_87 : decode cX11_count 87 = .ok (.ireturn, 1) := by decide +kernel
theorem dX11_count_88 : decode cX11_count 88 = .ok (.aload_n 0, 1) := by decide +kernel
theorem dX11_count_89 : decode cX11_count 89 = .ok (.iload_n 1, 1) := by decide +kernel
theorem dX11_count_90 : decode cX11_count 90 = .ok (.invokevirtual 302, 3) := by decide +kernel
theorem dX11_count_93 : decode cX11_count 93 = .ok (.ireturn, 1) := by decide +kernel
theorem dX11_textCount_0 : decode cX11_textCount 0 = .ok (.iload_n 1, 1) := by decide +kernel
theorem dX11_textCount_1 : decode cX11_textCount 1 = .ok (.bipush 10, 2) := by decide +kernel
theorem dX11_textCount_3 : decode cX11_textCount 3 = .ok (.bipush 10, 2) := by decide +kernel
theorem dX11_textCount_5 : decode cX11_textCount 5 = .ok (.aload_n 0, 1) := by decide +kernel
theorem dX11_textCount_6 : decode cX11_textCount 6 = .ok (.getfield 26, 3) := by decide +kernel
theorem dX11_textCount_9 : decode cX11_textCount 9 = .ok (.getfield 82, 3) := by decide +kernel
theorem dX11_textCount_12 : decode cX11_textCount 12 = .ok (.iadd, 1) := by decide +kernel
theorem dX11_textCount_13 : decode cX11_textCount 13 = .ok (.iconst 1, 1) := by decide +kernel
theorem dX11_textCount_14 : decode cX11_textCount 14 = .ok (.isub, 1) := by decide +kernel
theorem dX11_textCount_15 : decode cX11_textCount 15 = .ok (.invokestatic 75, 3) := by decide +kernel
theorem dX11_textCount_18 : decode cX11_textCount 18 = .ok (.ifCond .eq 31, 3) := by decide +kernel
theorem dX11_textCount_21 : decode cX11_textCount 21 = .ok (.aload_n 0, 1) := by decide +kernel
theorem dX11_textCount_22 : decode cX11_textCount 22 = .ok (.getfield 26, 3) := by decide +kernel
theorem dX11_textCount_25 : decode cX11_textCount 25 = .ok (.iload_n 1, 1) := by decide +kernel
theorem dX11_textCount_26 : decode cX11_textCount 26 = .ok (.bipush 10, 2) := by decide +kernel
theorem dX11_textCount_28 : decode cX11_textCount 28 = .ok (.isub, 1) := by decide +kernel
theorem dX11_textCount_29 : decode cX11_textCount 29 = .ok (.invokevirtual 108, 3) := by decide +kernel
theorem dX11_textCount_32 : decode cX11_textCount 32 = .ok (.astore_n 2, 1) := by decide +kernel
theorem dX11_textCount_33 : decode cX11_textCount 33 = .ok (.aload_n 2, 1) := by decide +kernel
theorem dX11_textCount_34 : decode cX11_textCount 34 = .ok (.ifnonnull 7, 3) := by decide +kernel
theorem dX11_textCount_37 : decode cX11_textCount 37 = .ok (.iconst (-1), 1) := by decide +kernel
theorem dX11_textCount_38 : decode cX11_textCount 38 = .ok (.goto 10, 3) := by decide +kernel
theorem dX11_textCount_41 : decode cX11_textCount 41 = .ok (.aload_n 2, 1) := by decide +kernel
theorem dX11_textCount_42 : decode cX11_textCount 42 = .ok (.getfield 131, 3) := by decide +kernel
theorem dX11_textCount_45 : decode cX11_textCount 45 = .ok (.invokestatic 305, 3) := by decide +kernel
theorem dX11_textCount_48 : decode cX11_textCount 48 = .ok (.ireturn, 1) := by decide +kernel
theorem dX11_textCount_49 : decode cX11_textCount 49 = .ok (.iload_n 1, 1) := by decide +kernel
theorem dX11_textCount_50 : decode cX11_textCount 50 = .ok (.bipush 20, 2) := by decide +kernel
theorem dX11_textCount_52 : decode cX11_textCount 52 = .ok (.bipush 23, 2) := by decide +kernel
theorem dX11_textCount_54 : decode cX11_textCount 54 = .ok (.invokestatic 75, 3) := by decide +kernel
theorem dX11_textCount_57 : decode cX11_textCount 57 = .ok (.ifCond .eq 16, 3) := by decide +kernel
theorem dX11_textCount_60 : decode cX11_textCount 60 = .ok (.aload_n 0, 1) := by decide +kernel
theorem dX11_textCount_61 : decode cX11_textCount 61 = .ok (.getfield 39, 3) := by decide +kernel
theorem dX11_textCount_64 : decode cX11_textCount 64 = .ok (.iload_n 1, 1) := by decide +kernel
theorem dX11_textCount_65 : decode cX11_textCount 65 = .ok (.bipush 20, 2) := by decide +kernel
theorem dX11_textCount_67 : decode cX11_textCount 67 = .ok (.isub, 1) := by decide +kernel
theorem dX11_textCount_68 : decode cX11_textCount 68 = .ok (.aaload, 1) := by decide +kernel
theorem dX11_textCount_69 : decode cX11_textCount 69 = .ok (.invokestatic 305, 3) := by decide +kernel
theorem dX11_textCount_72 : decode cX11_textCount 72 = .ok (.ireturn, 1) := by decide +kernel
theorem dX11_textCount_73 : decode cX11_textCount 73 = .ok (.iload_n 1, 1) := by decide +kernel
theorem dX11_textCount_74 : decode cX11_textCount 74 = .ok (.bipush 30, 2) := by decide +kernel
theorem dX11_textCount_76 : decode cX11_textCount 76 = .ok (.bipush 35, 2) := by decide +kernel
theorem dX11_textCount_78 : decode cX11_textCount 78 = .ok (.invokestatic 75, 3) := by decide +kernel
theorem dX11_textCount_81 : decode cX11_textCount 81 = .ok (.ifCond .eq 19, 3) := by decide +kernel
theorem dX11_textCount_84 : decode cX11_textCount 84 = .ok (.aload_n 0, 1) := by decide +kernel
theorem dX11_textCount_85 : decode cX11_textCount 85 = .ok (.getfield 60, 3) := by decide +kernel
theorem dX11_textCount_88 : decode cX11_textCount 88 = .ok (.getfield 151, 3) := by decide +kernel
theorem dX11_textCount_91 : decode cX11_textCount 91 = .ok (.iload_n 1, 1) := by decide +kernel
theorem dX11_textCount_92 : decode cX11_textCount 92 = .ok (.bipush 30, 2) := by decide +kernel
theorem dX11_textCount_94 : decode cX11_textCount 94 = .ok (.isub, 1) := by decide +kernel
theorem dX11_textCount_95 : decode cX11_textCount 95 = .ok (.aaload, 1) := by decide +kernel
theorem dX11_textCount_96 : decode cX11_textCount 96 = .ok (.invokestatic 305, 3) := by decide +kernel
theorem dX11_textCount_99 : decode cX11_textCount 99 = .ok (.ireturn, 1) := by decide +kernel
theorem dX11_textCount_100 : decode cX11_textCount 100 = .ok (.iconst (-1), 1) := by decide +kernel
theorem dX11_textCount_101 : decode cX11_textCount 101 = .ok (.ireturn, 1) := by decide +kernel
