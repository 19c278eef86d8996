theorem dX11_paper_7 : decode cX11_paper 7 = .ok (.iload_n 2, 1) := by decide +kernel
theorem dX11_paper_8 : decode cX11_paper 8 = .ok (.invokestatic 71, 3) := by decide +kernel
theorem dX11_paper_11 : decode cX11_paper 11 = .ok (.ifCond .eq 12, 3) := by decide +kernel
theorem dX11_paper_14 : decode cX11_paper 14 = .ok (.iload_n 3, 1) := by decide +kernel
theorem dX11_paper_15 : decode cX11_paper 15 = .ok (.iconst 0, 1) := by decide +kernel
theorem dX11_paper_16 : decode cX11_paper 16 = .ok (.iconst 1, 1) := by decide +kernel
theorem dX11_paper_17 : decode cX11_paper 17 = .ok (.invokestatic 75, 3) := by decide +kernel
theorem dX11_paper_20 : decode cX11_paper 20 = .ok (.ifCond .ne 5, 3) := by decide +kernel
theorem dX11_paper_23 : decode cX11_paper 23 = .ok (.iconst (-1), 1) := by decide +kernel
theorem dX11_paper_24 : decode cX11_paper 24 = .ok (.ireturn, 1) := by decide +kernel
theorem dX11_paper_25 : decode cX11_paper 25 = .ok (.aload_n 0, 1) := by decide +kernel
theorem dX11_paper_26 : decode cX11_paper 26 = .ok (.getfield 26, 3) := by decide +kernel
theorem dX11_paper_29 : decode cX11_paper 29 = .ok (.aload_n 0, 1) := by decide +kernel
theorem dX11_paper_30 : decode cX11_paper 30 = .ok (.getfield 33, 3) := by decide +kernel
theorem dX11_paper_33 : decode cX11_paper 33 = .ok (.iload_n 1, 1) := by decide +kernel
theorem dX11_paper_34 : decode cX11_paper 34 = .ok (.invokevirtual 165, 3) := by decide +kernel
theorem dX11_paper_37 : decode cX11_paper 37 = .ok (.iload_n 3, 1) := by decide +kernel
theorem dX11_paper_38 : decode cX11_paper 38 = .ok (.ifCond .ne 15, 3) := by decide +kernel
theorem dX11_paper_41 : decode cX11_paper 41 = .ok (.aload_n 0, 1) := by decide +kernel
theorem dX11_paper_42 : decode cX11_paper 42 = .ok (.getfield 33, 3) := by decide +kernel
theorem dX11_paper_45 : decode cX11_paper 45 = .ok (.getfield 169, 3) := by decide +kernel
theorem dX11_paper_48 : decode cX11_paper 48 = .ok (.iload_n 2, 1) := by decide +kernel
theorem dX11_paper_49 : decode cX11_paper 49 = .ok (.iaload, 1) := by decide +kernel
theorem dX11_paper_50 : decode cX11_paper 50 = .ok (.goto 12, 3) := by decide +kernel
theorem dX11_paper_53 : decode cX11_paper 53 = .ok (.aload_n 0, 1) := by decide +kernel
theorem dX11_paper_54 : decode cX11_paper 54 = .ok (.getfield 33, 3) := by decide +kernel
theorem dX11_paper_57 : decode cX11_paper 57 = .ok (.getfield 172, 3) := by decide +kernel
theorem dX11_paper_60 : decode cX11_paper 60 = .ok (.iload_n 2, 1) := by decide +kernel
theorem dX11_paper_61 : decode cX11_paper 61 = .ok (.iaload, 1) := by decide +kernel
theorem dX11_paper_62 : decode cX11_paper 62 = .ok (.ireturn, 1) := by decide +kernel
theorem dX11_marks_0 : decode cX11_marks 0 = .ok (.iload_n 1, 1) := by decide +kernel
theorem dX11_marks_1 : decode cX11_marks 1 = .ok (.invokestatic 138, 3) := by decide +kernel
theorem dX11_marks_4 : decode cX11_marks 4 = .ok (.ifCond .eq 15, 3) := by decide +kernel
theorem dX11_marks_7 : decode cX11_marks 7 = .ok (.iload_n 2, 1) := by decide +kernel
theorem dX11_marks_8 : decode cX11_marks 8 = .ok (.invokestatic 154, 3) := by decide +kernel
theorem dX11_marks_11 : decode cX11_marks 11 = .ok (.ifCond .eq 8, 3) := by decide +kernel
theorem dX11_marks_14 : decode cX11_marks 14 = .ok (.iload_n 3, 1) := by decide +kernel
theorem dX11_marks_15 : decode cX11_marks 15 = .ok (.iconst (-1), 1) := by decide +kernel
theorem dX11_marks_16 : decode cX11_marks 16 = .ok (.if_icmp .ge 5, 3) := by decide +kernel
theorem dX11_marks_19 : decode cX11_marks 19 = .ok (.iconst (-1), 1) := by decide +kernel
theorem dX11_marks_20 : decode cX11_marks 20 = .ok (.ireturn, 1) := by decide +kernel
theorem dX11_marks_21 : decode cX11_marks 21 = .ok (.aload_n 0, 1) := by decide +kernel
theorem dX11_marks_22 : decode cX11_marks 22 = .ok (.getfield 26, 3) := by decide +kernel
theorem dX11_marks_25 : decode cX11_marks 25 = .ok (.aload_n 0, 1) := by decide +kernel
theorem dX11_marks_26 : decode cX11_marks 26 = .ok (.getfield 33, 3) := by decide +kernel
theorem dX11_marks_29 : decode cX11_marks 29 = .ok (.iload_n 2, 1) := by decide +kernel
theorem dX11_marks_30 : decode cX11_marks 30 = .ok (.invokevirtual 165, 3) := by decide +kernel
theorem dX11_marks_33 : decode cX11_marks 33 = .ok (.aload_n 0, 1) := by decide +kernel
theorem dX11_marks_34 : decode cX11_marks 34 = .ok (.getfield 33, 3) := by decide +kernel
theorem dX11_marks_37 : decode cX11_marks 37 = .ok (.iload_n 1, 1) := by decide +kernel
theorem dX11_marks_38 : decode cX11_marks 38 = .ok (.aload_n 0, 1) := by decide +kernel
theorem dX11_marks_39 : decode cX11_marks 39 = .ok (.getfield 39, 3) := by decide +kernel
theorem dX11_marks_42 : decode cX11_marks 42 = .ok (.iload_n 1, 1) := by decide +kernel
theorem dX11_marks_43 : decode cX11_marks 43 = .ok (.aaload, 1) := by decide +kernel
theorem dX11_marks_44 : decode cX11_marks 44 = .ok (.invokevirtual 175, 3) := by decide +kernel
theorem dX11_marks_47 : decode cX11_marks 47 = .ok (.iload_n 3, 1) := by decide +kernel
theorem dX11_marks_48 : decode cX11_marks 48 = .ok (.iconst (-1), 1) := by decide +kernel
theorem dX11_marks_49 : decode cX11_marks 49 = .ok (.if_icmp .ne 14, 3) := by decide +kernel
theorem dX11_marks_52 : decode cX11_marks 52 = .ok (.aload_n 0, 1) := by decide +kernel
theorem dX11_marks_53 : decode cX11_marks 53 = .ok (.getfield 33, 3) := by decide +kernel
theorem dX11_marks_56 : decode cX11_marks 56 = .ok (.iload_n 1, 1) := by decide +kernel
theorem dX11_marks_57 : decode cX11_marks 57 = .ok (.invokevirtual 179, 3) := by decide +kernel
theorem dX11_marks_60 : decode cX11_marks 60 = .ok (.goto 12, 3) := by decide +kernel
theorem dX11_marks_63 : decode cX11_marks 63 = .ok (.aload_n 0, 1) := by decide +kernel
theorem dX11_marks_64 : decode cX11_marks 64 = .ok (.getfield 33, 3) := by decide +kernel
theorem dX11_marks_67 : decode cX11_marks 67 = .ok (.iload_n 1, 1) := by decide +kernel
theorem dX11_marks_68 : decode cX11_marks 68 = .ok (.iload_n 3, 1) := by decide +kernel
theorem dX11_marks_69 : decode cX11_marks 69 = .ok (.invokevirtual 183, 3) := by decide +kernel
theorem dX11_marks_72 : decode cX11_marks 72 = .ok (.ireturn, 1) := by decide +kernel
theorem dX11_passed_0 : decode cX11_passed 0 = .ok (.iload_n 1, 1) := by decide +kernel
theorem dX11_passed_1 : decode cX11_passed 1 = .ok (.invokestatic 138, 3) := by decide +kernel
theorem dX11_passed_4 : decode cX11_passed 4 = .ok (.ifCond .eq 39, 3) := by decide +kernel
theorem dX11_passed_7 : decode cX11_passed 7 = .ok (.iload_n 2, 1) := by decide +kernel
theorem dX11_passed_8 : decode cX11_passed 8 = .ok (.invokestatic 138, 3) := by decide +kernel
theorem dX11_passed_11 : decode cX11_passed 11 = .ok (.ifCond .eq 32, 3) := by decide +kernel
theorem dX11_passed_14 : decode cX11_passed 14 = .ok (.iload_n 3, 1) := by decide +kernel
theorem dX11_passed_15 : decode cX11_passed 15 = .ok (.invokestatic 154, 3) := by decide +kernel
theorem dX11_passed_18 : decode cX11_passed 18 = .ok (.ifCond .eq 25, 3) := by decide +kernel
theorem dX11_passed_21 : decode cX11_passed 21 = .ok (.iload 4, 2) := by decide +kernel
theorem dX11_passed_23 : decode cX11_passed 23 = .ok (.invokestatic 154, 3) := by decide +kernel
theorem dX11_passed_26 : decode cX11_passed 26 = .ok (.ifCond .eq 17, 3) := by decide +kernel
theorem dX11_passed_29 : decode cX11_passed 29 = .ok (.iload 5, 2) := by decide +kernel
theorem dX11_passed_31 : decode cX11_passed 31 = .ok (.iconst 0, 1) := by decide +kernel
theorem dX11_passed_32 : decode cX11_passed 32 = .ok (.iconst 2, 1) := by decide +kernel
theorem dX11_passed_33 : decode cX11_passed 33 = .ok (.invokestatic 75, 3) := by decide +kernel
theorem dX11_passed_36 : decode cX11_passed 36 = .ok (.ifCond .eq 7, 3) := by decide +kernel
theorem dX11_passed_39 : decode cX11_passed 39 = .ok (.iconst 1, 1) := by decide +kernel
theorem dX11_passed_40 : decode cX11_passed 40 = .ok (.goto 4, 3) := by decide +kernel
theorem dX11_passed_43 : decode cX11_passed 43 = .ok (.iconst 0, 1) := by decide +kernel
theorem dX11_passed_44 : decode cX11_passed 44 = .ok (.istore 6, 2) := by decide +kernel
theorem dX11_passed_46 : decode cX11_passed 46 = .ok (.iload 6, 2) := by decide +kernel
theorem dX11_passed_48 : decode cX11_passed 48 = .ok (.ifCond .eq 18, 3) := by decide +kernel
theorem dX11_passed_51 : decode cX11_passed 51 = .ok (.iload_n 3, 1) := by decide +kernel
theorem dX11_passed_52 : decode cX11_passed 52 = .ok (.iload 4, 2) := by decide +kernel
theorem dX11_passed_54 : decode cX11_passed 54 = .ok (.if_icmp .gt 12, 3) := by decide +kernel
theorem dX11_passed_57 : decode cX11_passed 57 = .ok (.iload 4, 2) := by decide +kernel
theorem dX11_passed_59 : decode cX11_passed 59 = .ok (.iload_n 3, 1) := by decide +kernel
theorem dX11_passed_60 : decode cX11_passed 60 = .ok (.isub, 1) := by decide +kernel
theorem dX11_passed_61 : decode cX11_passed 61 = .ok (.bipush 30, 2) := by decide +kernel
theorem dX11_passed_63 : decode cX11_passed 63 = .ok (.if_icmp .lt 5, 3) := by decide +kernel
theorem dX11_passed_66 : decode cX11_passed 66 = .ok (.iconst (-1), 1) := by decide +kernel
theorem dX11_passed_67 : decode cX11_passed 67 = .ok (.ireturn, 1) := by decide +kernel
theorem dX11_passed_68 : decode cX11_passed 68 = .ok (.iconst 0, 1) := by decide +kernel
theorem dX11_passed_69 : decode cX11_passed 69 = .ok (.istore 7, 2) := by decide +kernel
theorem dX11_passed_71 : decode cX11_passed 71 = .ok (.iload_n 3, 1) := by decide +kernel
theorem dX11_passed_72 : decode cX11_passed 72 = .ok (.istore 8, 2) := by decide +kernel
theorem dX11_passed_74 : decode cX11_passed 74 = .ok (.iload 8, 2) := by decide +kernel
theorem dX11_passed_76 : decode cX11_passed 76 = .ok (.iload 4, 2) := by decide +kernel
theorem dX11_passed_78 : decode cX11_passed 78 = .ok (.if_icmp .gt 99, 3) := by decide +kernel
theorem dX11_passed_81 : decode cX11_passed 81 = .ok (.aload_n 0, 1) := by decide +kernel
theorem dX11_passed_82 : decode cX11_passed 82 = .ok (.getfield 26, 3) := by decide +kernel
theorem dX11_passed_85 : decode cX11_passed 85 = .ok (.aload_n 0, 1) := by decide +kernel
theorem dX11_passed_86 : decode cX11_passed 86 = .ok (.getfield 33, 3) := by decide +kernel
theorem dX11_passed_89 : decode cX11_passed 89 = .ok (.iload 8, 2) := by decide +kernel
theorem dX11_passed_91 : decode cX11_passed 91 = .ok (.invokevirtual 165, 3) := by decide +kernel
theorem dX11_passed_94 : decode cX11_passed 94 = .ok (.aload_n 0, 1) := by decide +kernel
theorem dX11_passed_95 : decode cX11_passed 95 = .ok (.getfield 33, 3) := by decide +kernel
theorem dX11_passed_98 : decode cX11_passed 98 = .ok (.iload_n 1, 1) := by decide +kernel
theorem dX11_passed_99 : decode cX11_passed 99 = .ok (.aload_n 0, 1) := by decide +kernel
theorem dX11_passed_100 : decode cX11_passed 100 = .ok (.getfield 39, 3) := by decide +kernel
theorem dX11_passed_103 : decode cX11_passed 103 = .ok (.iload_n 1, 1) := by decide +kernel
theorem dX11_passed_104 : decode cX11_passed 104 = .ok (.aaload, 1) := by decide +kernel
theorem dX11_passed_105 : decode cX11_passed 105 = .ok (.invokevirtual 175, 3) := by decide +kernel
theorem dX11_passed_108 : decode cX11_passed 108 = .ok (.aload_n 0, 1) := by decide +kernel
theorem dX11_passed_109 : decode cX11_passed 109 = .ok (.getfield 33, 3) := by decide +kernel
theorem dX11_passed_112 : decode cX11_passed 112 = .ok (.iload_n 2, 1) := by decide +kernel
theorem dX11_passed_113 : decode cX11_passed 113 = .ok (.aload_n 0, 1) := by decide +kernel
theorem dX11_passed_114 : decode cX11_passed 114 = .ok (.getfield 39, 3) := by decide +kernel
theorem dX11_passed_117 : decode cX11_passed 117 = .ok (.iload_n 2, 1) := by decide +kernel
theorem dX11_passed_118 : decode cX11_passed 118 = .ok (.aaload, 1) := by decide +kernel
theorem dX11_passed_119 : decode cX11_passed 119 = .ok (.invokevirtual 175, 3) := by decide +kernel
theorem dX11_passed_122 : decode cX11_passed 122 = .ok (.aload_n 0, 1) := by decide +kernel
theorem dX11_passed_123 : decode cX11_passed 123 = .ok (.getfield 33, 3) := by decide +kernel
theorem dX11_passed_126 : decode cX11_passed 126 = .ok (.iload_n 1, 1) := by decide +kernel
theorem dX11_passed_127 : decode cX11_passed 127 = .ok (.iload_n 2, 1) := by decide +kernel
theorem dX11_passed_128 : decode cX11_passed 128 = .ok (.invokevirtual 186, 3) := by decide +kernel
theorem dX11_passed_131 : decode cX11_passed 131 = .ok (.istore 9, 2) := by decide +kernel
theorem dX11_passed_133 : decode cX11_passed 133 = .ok (.iload 9, 2) := by decide +kernel
theorem dX11_passed_135 : decode cX11_passed 135 = .ok (.ifCond .le 29, 3) := by decide +kernel
theorem dX11_passed_138 : decode cX11_passed 138 = .ok (.iload 5, 2) := by decide +kernel
theorem dX11_passed_140 : decode cX11_passed 140 = .ok (.ifCond .le 24, 3) := by decide +kernel
theorem dX11_passed_143 : decode cX11_passed 143 = .ok (.iload 5, 2) := by decide +kernel
theorem dX11_passed_145 : decode cX11_passed 145 = .ok (.iconst 1, 1) := by decide +kernel
theorem dX11_passed_146 : decode cX11_passed 146 = .ok (.if_icmp .ne 8, 3) := by decide +kernel
theorem dX11_passed_149 : decode cX11_passed 149 = .ok (.iload 8, 2) := by decide +kernel
theorem dX11_passed_151 : decode cX11_passed 151 = .ok (.goto 12, 3) := by decide +kernel
theorem dX11_passed_154 : decode cX11_passed 154 = .ok (.aload_n 0, 1) := by decide +kernel
theorem dX11_passed_155 : decode cX11_passed 155 = .ok (.getfield 33, 3) := by decide +kernel
theorem dX11_passed_158 : decode cX11_passed 158 = .ok (.iload_n 1, 1) := by decide +kernel
theorem dX11_passed_159 : decode cX11_passed 159 = .ok (.iload_n 2, 1) := by decide +kernel
theorem dX11_passed_163 : decode cX11_passed 163 = .ok (.ireturn, 1) := by decide +kernel
theorem dX11_passed_164 : decode cX11_passed 164 = .ok (.iload 7, 2) := by decide +kernel
theorem dX11_passed_166 : decode cX11_passed 166 = .ok (.iload 9, 2) := by decide +kernel
theorem dX11_passed_168 : decode cX11_passed 168 = .ok (.iadd, 1) := by decide +kernel
theorem dX11_passed_169 : decode cX11_passed 169 = .ok (.istore 7, 2) := by decide +kernel
theorem dX11_passed_171 : decode cX11_passed 171 = .ok (.iinc 8 1, 3) := by decide +kernel
theorem dX11_passed_174 : decode cX11_passed 174 = .ok (.goto (-100), 3) := by decide +kernel
theorem dX11_passed_177 : decode cX11_passed 177 = .ok (.iload 5, 2) := by decide +kernel
theorem dX11_passed_179 : decode cX11_passed 179 = .ok (.ifCond .ne 8, 3) := by decide +kernel
theorem dX11_passed_182 : decode cX11_passed 182 = .ok (.iload 7, 2) := by decide +kernel
theorem dX11_passed_184 : decode cX11_passed 184 = .ok (.goto 4, 3) := by decide +kernel
theorem dX11_passed_187 : decode cX11_passed 187 = .ok (.iconst (-1), 1) := by decide +kernel
theorem dX11_passed_188 : decode cX11_passed 188 = .ok (.ireturn, 1) := by decide +kernel
theorem dX11_note_0 : decode cX11_note 0 = .ok (.iload_n 1, 1) := by decide +kernel
theorem dX11_note_1 : decode cX11_note 1 = .ok (.invokestatic 154, 3) := by decide +kernel
theorem dX11_note_4 : decode cX11_note 4 = .ok (.ifCond .eq 21, 3) := by decide +kernel
theorem dX11_note_7 : decode cX11_note 7 = .ok (.iload_n 2, 1) := by decide +kernel
theorem dX11_note_8 : decode cX11_note 8 = .ok (.invokestatic 71, 3) := by decide +kernel
theorem dX11_note_11 : decode cX11_note 11 = .ok (.ifCond .eq 14, 3) := by decide +kernel
theorem dX11_note_14 : decode cX11_note 14 = .ok (.iload_n 3, 1) := by decide +kernel
theorem dX11_note_15 : decode cX11_note 15 = .ok (.invokestatic 79, 3) := by decide +kernel
theorem dX11_note_18 : decode cX11_note 18 = .ok (.ifCond .eq 7, 3) := by decide +kernel
theorem dX11_note_21 : decode cX11_note 21 = .ok (.iconst 1, 1) := by decide +kernel
theorem dX11_note_22 : decode cX11_note 22 = .ok (.goto 4, 3) := by decide +kernel
theorem dX11_note_25 : decode cX11_note 25 = .ok (.iconst 0, 1) := by decide +kernel
theorem dX11_note_26 : decode cX11_note 26 = .ok (.istore 4, 2) := by decide +kernel
theorem dX11_note_28 : decode cX11_note 28 = .ok (.iload 4, 2) := by decide +kernel
theorem dX11_note_30 : decode cX11_note 30 = .ok (.ifCond .eq 16, 3) := by decide +kernel
theorem dX11_note_33 : decode cX11_note 33 = .ok (.aload_n 0, 1) := by decide +kernel
theorem dX11_note_34 : decode cX11_note 34 = .ok (.getfield 46, 3) := by decide +kernel
theorem dX11_note_37 : decode cX11_note 37 = .ok (.iload_n 1, 1) := by decide +kernel
theorem dX11_note_38 : decode cX11_note 38 = .ok (.iload_n 2, 1) := by decide +kernel
theorem dX11_note_39 : decode cX11_note 39 = .ok (.iload_n 3, 1) := by decide +kernel
theorem dX11_note_40 : decode cX11_note 40 = .ok (.invokevirtual 192, 3) := by decide +kernel
theorem dX11_note_43 : decode cX11_note 43 = .ok (.goto 4, 3) := by decide +kernel
theorem dX11_note_46 : decode cX11_note 46 = .ok (.iconst (-1), 1) := by decide +kernel
theorem dX11_note_47 : decode cX11_note 47 = .ok (.ireturn, 1) := by decide +kernel
theorem dX11_one_0 : decode cX11_one 0 = .ok (.iload_n 1, 1) := by decide +kernel
theorem dX11_one_1 : decode cX11_one 1 = .ok (.invokestatic 79, 3) := by decide +kernel
theorem dX11_one_4 : decode cX11_one 4 = .ok (.ifCond .eq 14, 3) := by decide +kernel
theorem dX11_one_7 : decode cX11_one 7 = .ok (.iload_n 2, 1) := by decide +kernel
theorem dX11_one_8 : decode cX11_one 8 = .ok (.iconst 0, 1) := by decide +kernel
theorem dX11_one_9 : decode cX11_one 9 = .ok (.sipush 700, 3) := by decide +kernel
theorem dX11_one_12 : decode cX11_one 12 = .ok (.invokestatic 75, 3) := by decide +kernel
theorem dX11_one_15 : decode cX11_one 15 = .ok (.ifCond .ne 5, 3) := by decide +kernel
theorem dX11_one_18 : decode cX11_one 18 = .ok (.iconst (-1), 1) := by decide +kernel
theorem dX11_one_19 : decode cX11_one 19 = .ok (.ireturn, 1) := by decide +kernel
theorem dX11_one_20 : decode cX11_one 20 = .ok (.aload_n 0, 1) := by decide +kernel
theorem dX11_one_21 : decode cX11_one 21 = .ok (.getfield 46, 3) := by decide +kernel
theorem dX11_one_24 : decode cX11_one 24 = .ok (.iload_n 1, 1) := by decide +kernel
theorem dX11_one_25 : decode cX11_one 25 = .ok (.iload_n 2, 1) := by decide +kernel
theorem dX11_one_26 : decode cX11_one 26 = .ok (.sipush 400, 3) := by decide +kernel
theorem dX11_one_29 : decode cX11_one 29 = .ok (.invokevirtual 195, 3) := by decide +kernel
theorem dX11_one_32 : decode cX11_one 32 = .ok (.ireturn, 1) := by decide +kernel
theorem dX11_known_0 : decode cX11_known 0 = .ok (.iload_n 1, 1) := by decide +kernel
theorem dX11_known_1 : decode cX11_known 1 = .ok (.invokestatic 79, 3) := by decide +kernel
theorem dX11_known_4 : decode cX11_known 4 = .ok (.ifCond .eq 14, 3) := by decide +kernel
theorem dX11_known_7 : decode cX11_known 7 = .ok (.iload_n 2, 1) := by decide +kernel
theorem dX11_known_8 : decode cX11_known 8 = .ok (.iconst 0, 1) := by decide +kernel
theorem dX11_known_9 : decode cX11_known 9 = .ok (.sipush 700, 3) := by decide +kernel
theorem dX11_known_12 : decode cX11_known 12 = .ok (.invokestatic 75, 3) := by decide +kernel
theorem dX11_known_15 : decode cX11_known 15 = .ok (.ifCond .ne 5, 3) := by decide +kernel
theorem dX11_known_18 : decode cX11_known 18 = .ok (.iconst (-1), 1) := by decide +kernel
theorem dX11_known_19 : decode cX11_known 19 = .ok (.ireturn, 1) := by decide +kernel
theorem dX11_known_20 : decode cX11_known 20 = .ok (.aload_n 0, 1) := by decide +kernel
theorem dX11_known_21 : decode cX11_known 21 = .ok (.getfield 46, 3) := by decide +kernel
theorem dX11_known_24 : decode cX11_known 24 = .ok (.iload_n 1, 1) := by decide +kernel
theorem dX11_known_25 : decode cX11_known 25 = .ok (.iload_n 2, 1) := by decide +kernel
theorem dX11_known_26 : decode cX11_known 26 = .ok (.invokevirtual 198, 3) := by decide +kernel
theorem dX11_known_29 : decode cX11_known 29 = .ok (.ireturn, 1) := by decide +kernel
theorem dX11_row_0 : decode cX11_row 0 = .ok (.iload_n 1, 1) := by decide +kernel
theorem dX11_row_1 : decode cX11_row 1 = .ok (.invokestatic 79, 3) := by decide +kernel
theorem dX11_row_4 : decode cX11_row 4 = .ok (.ifCond .eq 23, 3) := by decide +kernel
theorem dX11_row_7 : decode cX11_row 7 = .ok (.iload_n 2, 1) := by decide +kernel
theorem dX11_row_8 : decode cX11_row 8 = .ok (.iconst 0, 1) := by decide +kernel
theorem dX11_row_9 : decode cX11_row 9 = .ok (.sipush 700, 3) := by decide +kernel
theorem dX11_row_12 : decode cX11_row 12 = .ok (.invokestatic 75, 3) := by decide +kernel
theorem dX11_row_15 : decode cX11_row 15 = .ok (.ifCond .eq 12, 3) := by decide +kernel
theorem dX11_row_18 : decode cX11_row 18 = .ok (.iload_n 3, 1) := by decide +kernel
theorem dX11_row_19 : decode cX11_row 19 = .ok (.iconst 0, 1) := by decide +kernel
theorem dX11_row_20 : decode cX11_row 20 = .ok (.iconst 1, 1) := by decide +kernel
theorem dX11_row_21 : decode cX11_row 21 = .ok (.invokestatic 75, 3) := by decide +kernel
theorem dX11_row_24 : decode cX11_row 24 = .ok (.ifCond .ne 5, 3) := by decide +kernel
theorem dX11_row_27 : decode cX11_row 27 = .ok (.iconst (-1), 1) := by decide +kernel
theorem dX11_row_28 : decode cX11_row 28 = .ok (.ireturn, 1) := by decide +kernel
theorem dX11_row_29 : decode cX11_row 29 = .ok (.aload_n 0, 1) := by decide +kernel
theorem dX11_row_30 : decode cX11_row 30 = .ok (.getfield 46, 3) := by decide +kernel
theorem dX11_row_33 : decode cX11_row 33 = .ok (.iload_n 1, 1) := by decide +kernel
theorem dX11_row_34 : decode cX11_row 34 = .ok (.iload_n 2, 1) := by decide +kernel
theorem dX11_row_35 : decode cX11_row 35 = .ok (.iload_n 3, 1) := by decide +kernel
theorem dX11_row_36 : decode cX11_row 36 = .ok (.invokevirtual 201, 3) := by decide +kernel
theorem dX11_row_39 : decode cX11_row 39 = .ok (.ireturn, 1) := by decide +kernel
theorem dX11_blip_0 : decode cX11_blip 0 = .ok (.iload_n 1, 1) := by decide +kernel
theorem dX11_blip_1 : decode cX11_blip 1 = .ok (.iconst 0, 1) := by decide +kernel
theorem dX11_blip_2 : decode cX11_blip 2 = .ok (.ldc 204, 2) := by decide +kernel
theorem dX11_blip_4 : decode cX11_blip 4 = .ok (.invokestatic 75, 3) := by decide +kernel
theorem dX11_blip_7 : decode cX11_blip 7 = .ok (.ifCond .eq 14, 3) := by decide +kernel
theorem dX11_blip_10 : decode cX11_blip 10 = .ok (.aload_n 0, 1) := by decide +kernel
theorem dX11_blip_11 : decode cX11_blip 11 = .ok (.getfield 53, 3) := by decide +kernel
theorem dX11_blip_14 : decode cX11_blip 14 = .ok (.iload_n 1, 1) := by decide +kernel
theorem dX11_blip_15 : decode cX11_blip 15 = .ok (.invokevirtual 205, 3) := by decide +kernel
theorem dX11_blip_18 : decode cX11_blip 18 = .ok (.goto 4, 3) := by decide +kernel
theorem dX11_blip_21 : decode cX11_blip 21 = .ok (.iconst (-1), 1) := by decide +kernel
theorem dX11_blip_22 : decode cX11_blip 22 = .ok (.ireturn, 1) := by decide +kernel
theorem dX11_fits_0 : decode cX11_fits 0 = .ok (.iload_n 1, 1) := by decide +kernel
theorem dX11_fits_1 : decode cX11_fits 1 = .ok (.invokestatic 207, 3) := by decide +kernel
theorem dX11_fits_4 : decode cX11_fits 4 = .ok (.ifCond .eq 32, 3) := by decide +kernel
theorem dX11_fits_7 : decode cX11_fits 7 = .ok (.iload_n 2, 1) := by decide +kernel
theorem dX11_fits_8 : decode cX11_fits 8 = .ok (.iconst 0, 1) := by decide +kernel
theorem dX11_fits_9 : decode cX11_fits 9 = .ok (.sipush 1000, 3) := by decide +kernel
theorem dX11_fits_12 : decode cX11_fits 12 = .ok (.invokestatic 75, 3) := by decide +kernel
theorem dX11_fits_15 : decode cX11_fits 15 = .ok (.ifCond .eq 21, 3) := by decide +kernel
theorem dX11_fits_18 : decode cX11_fits 18 = .ok (.iconst 2, 1) := by decide +kernel
theorem dX11_fits_19 : decode cX11_fits 19 = .ok (.iload_n 2, 1) := by decide +kernel
theorem dX11_fits_20 : decode cX11_fits 20 = .ok (.imul, 1) := by decide +kernel
theorem dX11_fits_21 : decode cX11_fits 21 = .ok (.iload_n 1, 1) := by decide +kernel
theorem dX11_fits_22 : decode cX11_fits 22 = .ok (.if_icmp .ge 14, 3) := by decide +kernel
theorem dX11_fits_25 : decode cX11_fits 25 = .ok (.aload_n 0, 1) := by decide +kernel
theorem dX11_fits_26 : decode cX11_fits 26 = .ok (.getfield 53, 3) := by decide +kernel
theorem dX11_fits_29 : decode cX11_fits 29 = .ok (.getfield 210, 3) := by decide +kernel
theorem dX11_fits_32 : decode cX11_fits 32 = .ok (.iconst 2, 1) := by decide +kernel
theorem dX11_fits_33 : decode cX11_fits 33 = .ok (.if_icmp .ge 5, 3) := by decide +kernel
theorem dX11_fits_36 : decode cX11_fits 36 = .ok (.iconst (-1), 1) := by decide +kernel
theorem dX11_fits_37 : decode cX11_fits 37 = .ok (.ireturn, 1) := by decide +kernel
theorem dX11_fits_38 : decode cX11_fits 38 = .ok (.aload_n 0, 1) := by decide +kernel
theorem dX11_fits_39 : decode cX11_fits 39 = .ok (.getfield 53, 3) := by decide +kernel
theorem dX11_fits_42 : decode cX11_fits 42 = .ok (.iload_n 1, 1) := by decide +kernel
theorem dX11_fits_43 : decode cX11_fits 43 = .ok (.iload_n 2, 1) := by decide +kernel
theorem dX11_beats_0 : decode cX11_beats 0 = .ok (.aload_n 0, 1) := by decide +kernel
theorem dX11_beats_1 : decode cX11_beats 1 = .ok (.iload_n 1, 1) := by decide +kernel
theorem dX11_beats_2 : decode cX11_beats 2 = .ok (.iload_n 2, 1) := by decide +kernel
theorem dX11_beats_3 : decode cX11_beats 3 = .ok (.iload_n 3, 1) := by decide +kernel
theorem dX11_beats_4 : decode cX11_beats 4 = .ok (.invokevirtual 214, 3) := by decide +kernel
theorem dX11_beats_7 : decode cX11_beats 7 = .ok (.ifCond .eq 13, 3) := by decide +kernel
theorem dX11_beats_10 : decode cX11_beats 10 = .ok (.iload 4, 2) := by decide +kernel
theorem dX11_beats_12 : decode cX11_beats 12 = .ok (.iconst 0, 1) := by decide +kernel
theorem dX11_beats_13 : decode cX11_beats 13 = .ok (.iconst 2, 1) := by decide +kernel
theorem dX11_beats_14 : decode cX11_beats 14 = .ok (.invokestatic 75, 3) := by decide +kernel
theorem dX11_beats_17 : decode cX11_beats 17 = .ok (.ifCond .ne 5, 3) := by decide +kernel
theorem dX11_beats_20 : decode cX11_beats 20 = .ok (.iconst (-1), 1) := by decide +kernel
theorem dX11_beats_21 : decode cX11_beats 21 = .ok (.ireturn, 1) := by decide +kernel
theorem dX11_beats_22 : decode cX11_beats 22 = .ok (.aload_n 0, 1) := by decide +kernel
theorem dX11_beats_23 : decode cX11_beats 23 = .ok (.getfield 53, 3) := by decide +kernel
theorem dX11_beats_26 : decode cX11_beats 26 = .ok (.iload_n 1, 1) := by decide +kernel
theorem dX11_beats_27 : decode cX11_beats 27 = .ok (.iload_n 2, 1) := by decide +kernel
theorem dX11_beats_28 : decode cX11_beats 28 = .ok (.iload_n 3, 1) := by decide +kernel
theorem dX11_counted_0 : decode cX11_counted 0 = .ok (.iload_n 2, 1) := by decide +kernel
theorem dX11_counted_1 : decode cX11_counted 1 = .ok (.invokestatic 207, 3) := by decide +kernel
theorem dX11_counted_4 : decode cX11_counted 4 = .ok (.ifCond .eq 32, 3) := by decide +kernel
theorem dX11_counted_7 : decode cX11_counted 7 = .ok (.iload_n 1, 1) := by decide +kernel
theorem dX11_counted_8 : decode cX11_counted 8 = .ok (.iconst 0, 1) := by decide +kernel
theorem dX11_counted_9 : decode cX11_counted 9 = .ok (.aload_n 0, 1) := by decide +kernel
theorem dX11_counted_10 : decode cX11_counted 10 = .ok (.getfield 53, 3) := by decide +kernel
theorem dX11_counted_13 : decode cX11_counted 13 = .ok (.getfield 210, 3) := by decide +kernel
theorem dX11_counted_16 : decode cX11_counted 16 = .ok (.iconst 1, 1) := by decide +kernel
theorem dX11_counted_17 : decode cX11_counted 17 = .ok (.isub, 1) := by decide +kernel
theorem dX11_counted_18 : decode cX11_counted 18 = .ok (.invokestatic 75, 3) := by decide +kernel
theorem dX11_counted_21 : decode cX11_counted 21 = .ok (.ifCond .eq 15, 3) := by decide +kernel
theorem dX11_counted_24 : decode cX11_counted 24 = .ok (.aload_n 0, 1) := by decide +kernel
theorem dX11_counted_25 : decode cX11_counted 25 = .ok (.getfield 53, 3) := by decide +kernel
theorem dX11_counted_28 : decode cX11_counted 28 = .ok (.iload_n 1, 1) := by decide +kernel
theorem dX11_counted_29 : decode cX11_counted 29 = .ok (.iload_n 2, 1) := by decide +kernel
theorem dX11_counted_36 : decode cX11_counted 36 = .ok (.iconst (-1), 1) := by decide +kernel
theorem dX11_counted_37 : decode cX11_counted 37 = .ok (.ireturn, 1) := by decide +kernel
theorem dX11_sure_0 : decode cX11_sure 0 = .ok (.aload_n 0, 1) := by decide +kernel
theorem dX11_sure_1 : decode cX11_sure 1 = .ok (.iload_n 1, 1) := by decide +kernel
theorem dX11_sure_2 : decode cX11_sure 2 = .ok (.iload_n 2, 1) := by decide +kernel
theorem dX11_sure_3 : decode cX11_sure 3 = .ok (.iload_n 3, 1) := by decide +kernel
theorem dX11_sure_4 : decode cX11_sure 4 = .ok (.invokevirtual 214, 3) := by decide +kernel
theorem dX11_sure_7 : decode cX11_sure 7 = .ok (.ifCond .ne 5, 3) := by decide +kernel
theorem dX11_sure_10 : decode cX11_sure 10 = .ok (.iconst (-1), 1) := by decide +kernel
theorem dX11_sure_11 : decode cX11_sure 11 = .ok (.ireturn, 1) := by decide +kernel
theorem dX11_sure_12 : decode cX11_sure 12 = .ok (.aload_n 0, 1) := by decide +kernel
theorem dX11_sure_13 : decode cX11_sure 13 = .ok (.getfield 53, 3) := by decide +kernel
theorem dX11_sure_16 : decode cX11_sure 16 = .ok (.iload_n 1, 1) := by decide +kernel
theorem dX11_sure_17 : decode cX11_sure 17 = .ok (.iload_n 2, 1) := by decide +kernel
theorem dX11_sure_18 : decode cX11_sure 18 = .ok (.iload_n 3, 1) := by decide +kernel
theorem dX11_lost_0 : decode cX11_lost 0 = .ok (.aload_n 0, 1) := by decide +kernel
theorem dX11_lost_1 : decode cX11_lost 1 = .ok (.iload_n 1, 1) := by decide +kernel
theorem dX11_lost_2 : decode cX11_lost 2 = .ok (.iload_n 2, 1) := by decide +kernel
theorem dX11_lost_3 : decode cX11_lost 3 = .ok (.iload_n 3, 1) := by decide +kernel
theorem dX11_lost_4 : decode cX11_lost 4 = .ok (.invokevirtual 214, 3) := by decide +kernel
theorem dX11_lost_7 : decode cX11_lost 7 = .ok (.ifCond .ne 5, 3) := by decide +kernel
theorem dX11_lost_10 : decode cX11_lost 10 = .ok (.iconst (-1), 1) := by decide +kernel
theorem dX11_lost_11 : decode cX11_lost 11 = .ok (.ireturn, 1) := by decide +kernel
theorem dX11_lost_12 : decode cX11_lost 12 = .ok (.aload_n 0, 1) := by decide +kernel
theorem dX11_lost_13 : decode cX11_lost 13 = .ok (.getfield 53, 3) := by decide +kernel
theorem dX11_lost_16 : decode cX11_lost 16 = .ok (.iload_n 1, 1) := by decide +kernel
theorem dX11_lost_17 : decode cX11_lost 17 = .ok (.iload_n 2, 1) := by decide +kernel
theorem dX11_lost_18 : decode cX11_lost 18 = .ok (.iload_n 3, 1) := by decide +kernel
theorem dX11_night_0 : decode cX11_night 0 = .ok (.iload_n 1, 1) := by decide +kernel
theorem dX11_night_1 : decode cX11_night 1 = .ok (.invokestatic 154, 3) := by decide +kernel
theorem dX11_night_4 : decode cX11_night 4 = .ok (.ifCond .eq 26, 3) := by decide +kernel
theorem dX11_night_7 : decode cX11_night 7 = .ok (.iload_n 2, 1) := by decide +kernel
theorem dX11_night_8 : decode cX11_night 8 = .ok (.ldc 239, 2) := by decide +kernel
theorem dX11_night_10 : decode cX11_night 10 = .ok (.ldc 240, 2) := by decide +kernel
theorem dX11_night_12 : decode cX11_night 12 = .ok (.invokestatic 75, 3) := by decide +kernel
theorem dX11_night_15 : decode cX11_night 15 = .ok (.ifCond .eq 15, 3) := by decide +kernel
theorem dX11_night_18 : decode cX11_night 18 = .ok (.aload_n 0, 1) := by decide +kernel
theorem dX11_night_19 : decode cX11_night 19 = .ok (.getfield 60, 3) := by decide +kernel
theorem dX11_night_22 : decode cX11_night 22 = .ok (.iload_n 1, 1) := by decide +kernel
theorem dX11_night_23 : decode cX11_night 23 = .ok (.iload_n 2, 1) := by decide +kernel
theorem dX11_night_24 : decode cX11_night 24 = .ok (.invokevirtual 241, 3) := by decide +kernel
theorem dX11_night_27 : decode cX11_night 27 = .ok (.goto 4, 3) := by decide +kernel
theorem dX11_night_30 : decode cX11_night 30 = .ok (.iconst (-1), 1) := by decide +kernel
theorem dX11_night_31 : decode cX11_night 31 = .ok (.ireturn, 1) := by decide +kernel
theorem dX11_says_0 : decode cX11_says 0 = .ok (.aload_n 0, 1) := by decide +kernel
theorem dX11_says_1 : decode cX11_says 1 = .ok (.getfield 60, 3) := by decide +kernel
theorem dX11_says_4 : decode cX11_says 4 = .ok (.iload_n 1, 1) := by decide +kernel
theorem dX11_says_5 : decode cX11_says 5 = .ok (.invokevirtual 243, 3) := by decide +kernel
theorem dX11_says_8 : decode cX11_says 8 = .ok (.astore_n 3, 1) := by decide +kernel
theorem dX11_says_9 : decode cX11_says 9 = .ok (.aload_n 3, 1) := by decide +kernel
theorem dX11_says_10 : decode cX11_says 10 = .ok (.ifnull 20, 3) := by decide +kernel
theorem dX11_says_30 : decode cX11_says 30 = .ok (.ldc 248, 2) := by decide +kernel
theorem dX11_says_32 : decode cX11_says 32 = .ok (.ireturn, 1) := by decide +kernel
theorem dX11_falls_0 : decode cX11_falls 0 = .ok (.aload_n 0, 1) := by decide +kernel
theorem dX11_falls_1 : decode cX11_falls 1 = .ok (.getfield 60, 3) := by decide +kernel
theorem dX11_falls_4 : decode cX11_falls 4 = .ok (.iload_n 1, 1) := by decide +kernel
theorem dX11_falls_5 : decode cX11_falls 5 = .ok (.invokevirtual 243, 3) := by decide +kernel
theorem dX11_falls_8 : decode cX11_falls 8 = .ok (.astore_n 3, 1) := by decide +kernel
theorem dX11_falls_9 : decode cX11_falls 9 = .ok (.aload_n 3, 1) := by decide +kernel
theorem dX11_falls_10 : decode cX11_falls 10 = .ok (.ifnull 10, 3) := by decide +kernel
theorem dX11_falls_20 : decode cX11_falls 20 = .ok (.iconst (-1), 1) := by decide +kernel
theorem dX11_falls_21 : decode cX11_falls 21 = .ok (.goto 12, 3) := by decide +kernel
theorem dX11_falls_33 : decode cX11_falls 33 = .ok (.ireturn, 1) := by decide +kernel
theorem dX11_told_0 : decode cX11_told 0 = .ok (.iload_n 1, 1) := by decide +kernel
theorem dX11_told_1 : decode cX11_told 1 = .ok (.invokestatic 253, 3) := by decide +kernel
theorem dX11_told_4 : decode cX11_told 4 = .ok (.ifCond .eq 24, 3) := by decide +kernel
theorem dX11_told_7 : decode cX11_told 7 = .ok (.iload_n 2, 1) := by decide +kernel
theorem dX11_told_8 : decode cX11_told 8 = .ok (.iconst 0, 1) := by decide +kernel
theorem dX11_told_9 : decode cX11_told 9 = .ok (.iconst 1, 1) := by decide +kernel
theorem dX11_told_10 : decode cX11_told 10 = .ok (.invokestatic 75, 3) := by decide +kernel
theorem dX11_told_13 : decode cX11_told 13 = .ok (.ifCond .eq 15, 3) := by decide +kernel
theorem dX11_told_16 : decode cX11_told 16 = .ok (.aload_n 0, 1) := by decide +kernel
theorem dX11_told_17 : decode cX11_told 17 = .ok (.getfield 60, 3) := by decide +kernel
theorem dX11_told_20 : decode cX11_told 20 = .ok (.iload_n 1, 1) := by decide +kernel
theorem dX11_told_21 : decode cX11_told 21 = .ok (.iload_n 2, 1) := by decide +kernel
theorem dX11_told_22 : decode cX11_told 22 = .ok (.invokevirtual 259, 3) := by decide +kernel
theorem dX11_told_25 : decode cX11_told 25 = .ok (.goto 4, 3) := by decide +kernel
theorem dX11_told_28 : decode cX11_told 28 = .ok (.iconst (-1), 1) := by decide +kernel
theorem dX11_told_29 : decode cX11_told 29 = .ok (.ireturn, 1) := by decide +kernel
theorem dX11_bound_0 : decode cX11_bound 0 = .ok (.iload_n 1, 1) := by decide +kernel
theorem dX11_bound_1 : decode cX11_bound 1 = .ok (.iconst 4, 1) := by decide +kernel
theorem dX11_bound_2 : decode cX11_bound 2 = .ok (.sipush 400, 3) := by decide +kernel
theorem dX11_bound_5 : decode cX11_bound 5 = .ok (.invokestatic 75, 3) := by decide +kernel
theorem dX11_bound_8 : decode cX11_bound 8 = .ok (.ifCond .eq 10, 3) := by decide +kernel
theorem dX11_bound_11 : decode cX11_bound 11 = .ok (.iload_n 2, 1) := by decide +kernel
theorem dX11_bound_12 : decode cX11_bound 12 = .ok (.invokestatic 253, 3) := by decide +kernel
theorem dX11_bound_15 : decode cX11_bound 15 = .ok (.ifCond .ne 5, 3) := by decide +kernel
theorem dX11_bound_18 : decode cX11_bound 18 = .ok (.iconst (-1), 1) := by decide +kernel
theorem dX11_bound_19 : decode cX11_bound 19 = .ok (.ireturn, 1) := by decide +kernel
theorem dX11_bound_20 : decode cX11_bound 20 = .ok (.aload_n 0, 1) := by decide +kernel
theorem dX11_bound_21 : decode cX11_bound 21 = .ok (.getfield 60, 3) := by decide +kernel
theorem dX11_bound_24 : decode cX11_bound 24 = .ok (.iload_n 1, 1) := by decide +kernel
theorem dX11_bound_25 : decode cX11_bound 25 = .ok (.iload_n 2, 1) := by decide +kernel
theorem dX11_bound_26 : decode cX11_bound 26 = .ok (.invokevirtual 262, 3) := by decide +kernel
theorem dX11_bound_29 : decode cX11_bound 29 = .ok (.ireturn, 1) := by decide +kernel
theorem dX11_there_0 : decode cX11_there 0 = .ok (.iload_n 1, 1) := by decide +kernel
theorem dX11_there_1 : decode cX11_there 1 = .ok (.iconst 0, 1) := by decide +kernel
theorem dX11_there_2 : decode cX11_there 2 = .ok (.bipush 39, 2) := by decide +kernel
theorem dX11_there_4 : decode cX11_there 4 = .ok (.invokestatic 75, 3) := by decide +kernel
theorem dX11_there_7 : decode cX11_there 7 = .ok (.ifCond .eq 13, 3) := by decide +kernel
theorem dX11_there_10 : decode cX11_there 10 = .ok (.iload_n 2, 1) := by decide +kernel
theorem dX11_there_11 : decode cX11_there 11 = .ok (.iconst 0, 1) := by decide +kernel
theorem dX11_there_12 : decode cX11_there 12 = .ok (.bipush 10, 2) := by decide +kernel
theorem dX11_there_14 : decode cX11_there 14 = .ok (.invokestatic 75, 3) := by decide +kernel
theorem dX11_there_17 : decode cX11_there 17 = .ok (.ifCond .ne 5, 3) := by decide +kernel
theorem dX11_there_20 : decode cX11_there 20 = .ok (.iconst 0, 1) := by decide +kernel
theorem dX11_there_21 : decode cX11_there 21 = .ok (.ireturn, 1) := by decide +kernel
theorem dX11_there_22 : decode cX11_there 22 = .ok (.aload_n 0, 1) := by decide +kernel
theorem dX11_there_23 : decode cX11_there 23 = .ok (.getfield 67, 3) := by decide +kernel
theorem dX11_there_26 : decode cX11_there 26 = .ok (.getfield 265, 3) := by decide +kernel
theorem dX11_there_29 : decode cX11_there 29 = .ok (.iload_n 1, 1) := by decide +kernel
theorem dX11_there_30 : decode cX11_there 30 = .ok (.iload_n 2, 1) := by decide +kernel
theorem dX11_there_31 : decode cX11_there 31 = .ok (.iastore, 1) := by decide +kernel
theorem dX11_there_32 : decode cX11_there 32 = .ok (.iconst 1, 1) := by decide +kernel
theorem dX11_there_33 : decode cX11_there 33 = .ok (.ireturn, 1) := by decide +kernel
theorem dX11_pen_0 : decode cX11_pen 0 = .ok (.iload_n 1, 1) := by decide +kernel
theorem dX11_pen_1 : decode cX11_pen 1 = .ok (.iconst 1, 1) := by decide +kernel
theorem dX11_pen_2 : decode cX11_pen 2 = .ok (.bipush 6, 2) := by decide +kernel
theorem dX11_pen_4 : decode cX11_pen 4 = .ok (.invokestatic 75, 3) := by decide +kernel
theorem dX11_pen_7 : decode cX11_pen 7 = .ok (.ifCond .eq 34, 3) := by decide +kernel
theorem dX11_pen_10 : decode cX11_pen 10 = .ok (.iload_n 2, 1) := by decide +kernel
theorem dX11_pen_11 : decode cX11_pen 11 = .ok (.iconst 1, 1) := by decide +kernel
theorem dX11_pen_12 : decode cX11_pen 12 = .ok (.bipush 10, 2) := by decide +kernel
theorem dX11_pen_14 : decode cX11_pen 14 = .ok (.invokestatic 75, 3) := by decide +kernel
theorem dX11_pen_17 : decode cX11_pen 17 = .ok (.ifCond .eq 24, 3) := by decide +kernel
theorem dX11_pen_20 : decode cX11_pen 20 = .ok (.iload_n 3, 1) := by decide +kernel
theorem dX11_pen_21 : decode cX11_pen 21 = .ok (.bipush 6, 2) := by decide +kernel
theorem dX11_pen_23 : decode cX11_pen 23 = .ok (.if_icmp .eq 14, 3) := by decide +kernel
theorem dX11_pen_26 : decode cX11_pen 26 = .ok (.iload_n 3, 1) := by decide +kernel
theorem dX11_pen_27 : decode cX11_pen 27 = .ok (.iconst 0, 1) := by decide +kernel
theorem dX11_pen_28 : decode cX11_pen 28 = .ok (.iload_n 1, 1) := by decide +kernel
theorem dX11_pen_29 : decode cX11_pen 29 = .ok (.iconst 1, 1) := by decide +kernel
theorem dX11_pen_30 : decode cX11_pen 30 = .ok (.isub, 1) := by decide +kernel
theorem dX11_pen_31 : decode cX11_pen 31 = .ok (.invokestatic 75, 3) := by decide +kernel
theorem dX11_pen_34 : decode cX11_pen 34 = .ok (.ifCond .eq 7, 3) := by decide +kernel
theorem dX11_pen_37 : decode cX11_pen 37 = .ok (.iconst 1, 1) := by decide +kernel
theorem dX11_pen_38 : decode cX11_pen 38 = .ok (.goto 4, 3) := by decide +kernel
theorem dX11_pen_41 : decode cX11_pen 41 = .ok (.iconst 0, 1) := by decide +kernel
theorem dX11_pen_42 : decode cX11_pen 42 = .ok (.istore 4, 2) := by decide +kernel
theorem dX11_pen_44 : decode cX11_pen 44 = .ok (.iload 4, 2) := by decide +kernel
theorem dX11_pen_46 : decode cX11_pen 46 = .ok (.ifCond .eq 13, 3) := by decide +kernel
theorem dX11_pen_49 : decode cX11_pen 49 = .ok (.iload_n 1, 1) := by decide +kernel
theorem dX11_pen_50 : decode cX11_pen 50 = .ok (.iconst 1, 1) := by decide +kernel
theorem dX11_pen_51 : decode cX11_pen 51 = .ok (.isub, 1) := by decide +kernel
theorem dX11_pen_52 : decode cX11_pen 52 = .ok (.iload_n 2, 1) := by decide +kernel
theorem dX11_pen_53 : decode cX11_pen 53 = .ok (.imul, 1) := by decide +kernel
theorem dX11_pen_54 : decode cX11_pen 54 = .ok (.bipush 40, 2) := by decide +kernel
theorem dX11_pen_56 : decode cX11_pen 56 = .ok (.if_icmp .lt 5, 3) := by decide +kernel
theorem dX11_pen_59 : decode cX11_pen 59 = .ok (.iconst (-1), 1) := by decide +kernel
theorem dX11_pen_60 : decode cX11_pen 60 = .ok (.ireturn, 1) := by decide +kernel
theorem dX11_pen_61 : decode cX11_pen 61 = .ok (.aload_n 0, 1) := by decide +kernel
theorem dX11_pen_62 : decode cX11_pen 62 = .ok (.getfield 67, 3) := by decide +kernel
theorem dX11_pen_65 : decode cX11_pen 65 = .ok (.iload_n 1, 1) := by decide +kernel
theorem dX11_pen_66 : decode cX11_pen 66 = .ok (.iload_n 2, 1) := by decide +kernel
theorem dX11_pen_67 : decode cX11_pen 67 = .ok (.invokevirtual 268, 3) := by decide +kernel
theorem dX11_pen_70 : decode cX11_pen 70 = .ok (.iload_n 3, 1) := by decide +kernel
theorem dX11_pen_71 : decode cX11_pen 71 = .ok (.bipush 6, 2) := by decide +kernel
theorem dX11_pen_73 : decode cX11_pen 73 = .ok (.if_icmp .ne 13, 3) := by decide +kernel
theorem dX11_pen_76 : decode cX11_pen 76 = .ok (.aload_n 0, 1) := by decide +kernel
theorem dX11_pen_77 : decode cX11_pen 77 = .ok (.getfield 67, 3) := by decide +kernel
theorem dX11_pen_80 : decode cX11_pen 80 = .ok (.getfield 272, 3) := by decide +kernel
theorem dX11_pen_83 : decode cX11_pen 83 = .ok (.goto 12, 3) := by decide +kernel
theorem dX11_pen_86 : decode cX11_pen 86 = .ok (.aload_n 0, 1) := by decide +kernel
theorem dX11_pen_87 : decode cX11_pen 87 = .ok (.getfield 67, 3) := by decide +kernel
theorem dX11_pen_90 : decode cX11_pen 90 = .ok (.getfield 275, 3) := by decide +kernel
theorem dX11_pen_93 : decode cX11_pen 93 = .ok (.iload_n 3, 1) := by decide +kernel
theorem dX11_pen_94 : decode cX11_pen 94 = .ok (.iaload, 1) := by decide +kernel
theorem dX11_pen_95 : decode cX11_pen 95 = .ok (.ireturn, 1) := by decide +kernel
theorem dX11_odds_0 : decode cX11_odds 0 = .ok (.iload_n 1, 1) := by decide +kernel
theorem dX11_odds_1 : decode cX11_odds 1 = .ok (.iload_n 2, 1) := by decide +kernel
theorem dX11_odds_2 : decode cX11_odds 2 = .ok (.iload_n 3, 1) := by decide +kernel
theorem dX11_odds_3 : decode cX11_odds 3 = .ok (.invokestatic 278, 3) := by decide +kernel
theorem dX11_odds_6 : decode cX11_odds 6 = .ok (.ifCond .eq 28, 3) := by decide +kernel
theorem dX11_odds_9 : decode cX11_odds 9 = .ok (.iload 4, 2) := by decide +kernel
theorem dX11_odds_11 : decode cX11_odds 11 = .ok (.iload_n 1, 1) := by decide +kernel
theorem dX11_odds_12 : decode cX11_odds 12 = .ok (.iload_n 2, 1) := by decide +kernel
theorem dX11_odds_13 : decode cX11_odds 13 = .ok (.iadd, 1) := by decide +kernel
theorem dX11_odds_14 : decode cX11_odds 14 = .ok (.iload_n 3, 1) := by decide +kernel
theorem dX11_odds_15 : decode cX11_odds 15 = .ok (.isub, 1) := by decide +kernel
theorem dX11_odds_16 : decode cX11_odds 16 = .ok (.bipush 40, 2) := by decide +kernel
theorem dX11_odds_18 : decode cX11_odds 18 = .ok (.invokestatic 75, 3) := by decide +kernel
theorem dX11_odds_21 : decode cX11_odds 21 = .ok (.ifCond .eq 13, 3) := by decide +kernel
theorem dX11_odds_24 : decode cX11_odds 24 = .ok (.iload 5, 2) := by decide +kernel
theorem dX11_odds_26 : decode cX11_odds 26 = .ok (.iconst 0, 1) := by decide +kernel
theorem dX11_odds_27 : decode cX11_odds 27 = .ok (.iconst 1, 1) := by decide +kernel
theorem dX11_odds_28 : decode cX11_odds 28 = .ok (.invokestatic 75, 3) := by decide +kernel
theorem dX11_odds_31 : decode cX11_odds 31 = .ok (.ifCond .ne 7, 3) := by decide +kernel
theorem dX11_odds_34 : decode cX11_odds 34 = .ok (.ldc2_w 281, 3) := by decide +kernel
theorem dX11_odds_37 : decode cX11_odds 37 = .ok (.lreturn, 1) := by decide +kernel
theorem dX11_odds_38 : decode cX11_odds 38 = .ok (.iload_n 1, 1) := by decide +kernel
theorem dX11_odds_39 : decode cX11_odds 39 = .ok (.iload_n 2, 1) := by decide +kernel
theorem dX11_odds_40 : decode cX11_odds 40 = .ok (.iload_n 3, 1) := by decide +kernel
theorem dX11_odds_41 : decode cX11_odds 41 = .ok (.iload 4, 2) := by decide +kernel
theorem dX11_odds_43 : decode cX11_odds 43 = .ok (.invokestatic 283, 3) := by decide +kernel
theorem dX11_odds_46 : decode cX11_odds 46 = .ok (.lstore 6, 2) := by decide +kernel
theorem dX11_odds_48 : decode cX11_odds 48 = .ok (.iload 4, 2) := by decide +kernel
theorem dX11_odds_50 : decode cX11_odds 50 = .ok (.iload_n 2, 1) := by decide +kernel
theorem dX11_odds_51 : decode cX11_odds 51 = .ok (.invokestatic 287, 3) := by decide +kernel
theorem dX11_odds_54 : decode cX11_odds 54 = .ok (.lstore 8, 2) := by decide +kernel
theorem dX11_odds_56 : decode cX11_odds 56 = .ok (.lload 6, 2) := by decide +kernel
theorem dX11_odds_58 : decode cX11_odds 58 = .ok (.lload 8, 2) := by decide +kernel
theorem dX11_odds_60 : decode cX11_odds 60 = .ok (.invokestatic 291, 3) := by decide +kernel
theorem dX11_odds_63 : decode cX11_odds 63 = .ok (.lstore 10, 2) := by decide +kernel
theorem dX11_odds_65 : decode cX11_odds 65 = .ok (.iload 5, 2) := by decide +kernel
theorem dX11_odds_67 : decode cX11_odds 67 = .ok (.ifCond .ne 8, 3) := by decide +kernel
theorem dX11_odds_70 : decode cX11_odds 70 = .ok (.lload 6, 2) := by decide +kernel
theorem dX11_odds_72 : decode cX11_odds 72 = .ok (.goto 5, 3) := by decide +kernel
theorem dX11_odds_75 : decode cX11_odds 75 = .ok (.lload 8, 2) := by decide +kernel
theorem dX11_odds_77 : decode cX11_odds 77 = .ok (.lload 10, 2) := by decide +kernel
theorem dX11_odds_79 : decode cX11_odds 79 = .ok (.ldiv, 1) := by decide +kernel
theorem dX11_odds_80 : decode cX11_odds 80 = .ok (.lreturn, 1) := by decide +kernel
theorem dX11_more_0 : decode cX11_more 0 = .ok (.iload_n 1, 1) := by decide +kernel
theorem dX11_more_1 : decode cX11_more 1 = .ok (.iload_n 2, 1) := by decide +kernel
theorem dX11_more_2 : decode cX11_more 2 = .ok (.iload_n 3, 1) := by decide +kernel
theorem dX11_more_3 : decode cX11_more 3 = .ok (.invokestatic 278, 3) := by decide +kernel
theorem dX11_more_6 : decode cX11_more 6 = .ok (.ifCond .eq 25, 3) := by decide +kernel
theorem dX11_more_9 : decode cX11_more 9 = .ok (.iload 4, 2) := by decide +kernel
theorem dX11_more_11 : decode cX11_more 11 = .ok (.iconst 1, 1) := by decide +kernel
theorem dX11_more_12 : decode cX11_more 12 = .ok (.sipush 1000, 3) := by decide +kernel
theorem dX11_more_15 : decode cX11_more 15 = .ok (.invokestatic 75, 3) := by decide +kernel
theorem dX11_more_18 : decode cX11_more 18 = .ok (.ifCond .eq 13, 3) := by decide +kernel
theorem dX11_more_21 : decode cX11_more 21 = .ok (.iload 5, 2) := by decide +kernel
theorem dX11_more_23 : decode cX11_more 23 = .ok (.iconst 0, 1) := by decide +kernel
theorem dX11_more_24 : decode cX11_more 24 = .ok (.iconst 1, 1) := by decide +kernel
theorem dX11_more_25 : decode cX11_more 25 = .ok (.invokestatic 75, 3) := by decide +kernel
theorem dX11_more_28 : decode cX11_more 28 = .ok (.ifCond .ne 5, 3) := by decide +kernel
theorem dX11_more_31 : decode cX11_more 31 = .ok (.iconst (-1), 1) := by decide +kernel
theorem dX11_more_32 : decode cX11_more 32 = .ok (.ireturn, 1) := by decide +kernel
theorem dX11_more_33 : decode cX11_more 33 = .ok (.bipush (-2), 2) := by decide +kernel
theorem dX11_more_35 : decode cX11_more 35 = .ok (.istore 6, 2) := by decide +kernel
theorem dX11_more_37 : decode cX11_more 37 = .ok (.iload_n 1, 1) := by decide +kernel
theorem dX11_more_38 : decode cX11_more 38 = .ok (.iload_n 2, 1) := by decide +kernel
theorem dX11_more_39 : decode cX11_more 39 = .ok (.iadd, 1) := by decide +kernel
theorem dX11_more_40 : decode cX11_more 40 = .ok (.iload_n 3, 1) := by decide +kernel
theorem dX11_more_41 : decode cX11_more 41 = .ok (.isub, 1) := by decide +kernel
theorem dX11_more_42 : decode cX11_more 42 = .ok (.istore 7, 2) := by decide +kernel
theorem dX11_more_44 : decode cX11_more 44 = .ok (.iload 7, 2) := by decide +kernel
theorem dX11_more_46 : decode cX11_more 46 = .ok (.bipush 40, 2) := by decide +kernel
theorem dX11_more_48 : decode cX11_more 48 = .ok (.if_icmp .gt 47, 3) := by decide +kernel
theorem dX11_more_51 : decode cX11_more 51 = .ok (.iload_n 1, 1) := by decide +kernel
theorem dX11_more_52 : decode cX11_more 52 = .ok (.iload_n 2, 1) := by decide +kernel
theorem dX11_more_53 : decode cX11_more 53 = .ok (.iload_n 3, 1) := by decide +kernel
theorem dX11_more_54 : decode cX11_more 54 = .ok (.iload 7, 2) := by decide +kernel
theorem dX11_more_56 : decode cX11_more 56 = .ok (.invokestatic 283, 3) := by decide +kernel
theorem dX11_more_59 : decode cX11_more 59 = .ok (.ldc2_w 295, 3) := by decide +kernel
theorem dX11_more_62 : decode cX11_more 62 = .ok (.lmul, 1) := by decide +kernel
theorem dX11_more_63 : decode cX11_more 63 = .ok (.iload 7, 2) := by decide +kernel
theorem dX11_more_65 : decode cX11_more 65 = .ok (.iload_n 2, 1) := by decide +kernel
theorem dX11_more_66 : decode cX11_more 66 = .ok (.invokestatic 287, 3) := by decide +kernel
theorem dX11_more_69 : decode cX11_more 69 = .ok (.iload 4, 2) := by decide +kernel
theorem dX11_more_71 : decode cX11_more 71 = .ok (.i2l, 1) := by decide +kernel
theorem dX11_more_72 : decode cX11_more 72 = .ok (.lmul, 1) := by decide +kernel
theorem dX11_more_73 : decode cX11_more 73 = .ok (.lcmp, 1) := by decide +kernel
theorem dX11_more_74 : decode cX11_more 74 = .ok (.ifCond .lt 15, 3) := by decide +kernel
theorem dX11_more_77 : decode cX11_more 77 = .ok (.iload 5, 2) := by decide +kernel
theorem dX11_more_79 : decode cX11_more 79 = .ok (.ifCond .ne 6, 3) := by decide +kernel
theorem dX11_more_82 : decode cX11_more 82 = .ok (.iload 7, 2) := by decide +kernel
theorem dX11_more_84 : decode cX11_more 84 = .ok (.ireturn, 1) := by decide +kernel
theorem dX11_more_85 : decode cX11_more 85 = .ok (.iload 7, 2) := by decide +kernel
theorem dX11_more_87 : decode cX11_more 87 = .ok (.istore 6, 2) := by decide +kernel
theorem dX11_more_89 : decode cX11_more 89 = .ok (.iinc 7 1, 3) := by decide +kernel
theorem dX11_more_92 : decode cX11_more 92 = .ok (.goto (-48), 3) := by decide +kernel
theorem dX11_more_95 : decode cX11_more 95 = .ok (.iload 6, 2) := by decide +kernel
theorem dX11_more_97 : decode cX11_more 97 = .ok (.ireturn, 1) := by decide +kernel
theorem dX11_check_0 : decode cX11_check 0 = .ok (.iload_n 1, 1) := by decide +kernel
theorem dX11_check_1 : decode cX11_check 1 = .ok (.invokestatic 138, 3) := by decide +kernel
theorem dX11_check_4 : decode cX11_check 4 = .ok (.ifCond .eq 28, 3) := by decide +kernel
theorem dX11_check_7 : decode cX11_check 7 = .ok (.iload_n 2, 1) := by decide +kernel
theorem dX11_check_8 : decode cX11_check 8 = .ok (.invokestatic 154, 3) := by decide +kernel
theorem dX11_check_11 : decode cX11_check 11 = .ok (.ifCond .eq 21, 3) := by decide +kernel
theorem dX11_check_14 : decode cX11_check 14 = .ok (.iload_n 3, 1) := by decide +kernel
theorem dX11_check_15 : decode cX11_check 15 = .ok (.iconst 0, 1) := by decide +kernel
theorem dX11_check_16 : decode cX11_check 16 = .ok (.aload_n 0, 1) := by decide +kernel
theorem dX11_check_17 : decode cX11_check 17 = .ok (.getfield 10, 3) := by decide +kernel
theorem dX11_check_20 : decode cX11_check 20 = .ok (.getfield 101, 3) := by decide +kernel
theorem dX11_check_23 : decode cX11_check 23 = .ok (.bipush 12, 2) := by decide +kernel
theorem dX11_check_25 : decode cX11_check 25 = .ok (.idiv, 1) := by decide +kernel
theorem dX11_check_26 : decode cX11_check 26 = .ok (.invokestatic 75, 3) := by decide +kernel
theorem dX11_check_29 : decode cX11_check 29 = .ok (.ifCond .ne 6, 3) := by decide +kernel
theorem dX11_check_32 : decode cX11_check 32 = .ok (.bipush (-2), 2) := by decide +kernel
theorem dX11_check_34 : decode cX11_check 34 = .ok (.ireturn, 1) := by decide +kernel
theorem dX11_check_35 : decode cX11_check 35 = .ok (.aload_n 0, 1) := by decide +kernel
theorem dX11_check_36 : decode cX11_check 36 = .ok (.getfield 26, 3) := by decide +kernel
theorem dX11_check_39 : decode cX11_check 39 = .ok (.aload_n 0, 1) := by decide +kernel
theorem dX11_check_40 : decode cX11_check 40 = .ok (.getfield 33, 3) := by decide +kernel
theorem dX11_check_43 : decode cX11_check 43 = .ok (.iload_n 2, 1) := by decide +kernel
theorem dX11_check_44 : decode cX11_check 44 = .ok (.invokevirtual 165, 3) := by decide +kernel
theorem dX11_check_47 : decode cX11_check 47 = .ok (.aload_n 0, 1) := by decide +kernel
theorem dX11_check_48 : decode cX11_check 48 = .ok (.getfield 33, 3) := by decide +kernel
theorem dX11_check_51 : decode cX11_check 51 = .ok (.iload_n 1, 1) := by decide +kernel
theorem dX11_check_52 : decode cX11_check 52 = .ok (.aload_n 0, 1) := by decide +kernel
theorem dX11_check_53 : decode cX11_check 53 = .ok (.getfield 39, 3) := by decide +kernel
theorem dX11_check_56 : decode cX11_check 56 = .ok (.iload_n 1, 1) := by decide +kernel
theorem dX11_check_57 : decode cX11_check 57 = .ok (.aaload, 1) := by decide +kernel
theorem dX11_check_58 : decode cX11_check 58 = .ok (.invokevirtual 175, 3) := by decide +kernel
theorem dX11_check_61 : decode cX11_check 61 = .ok (.aload_n 0, 1) := by decide +kernel
theorem dX11_check_62 : decode cX11_check 62 = .ok (.getfield 33, 3) := by decide +kernel
theorem dX11_check_65 : decode cX11_check 65 = .ok (.iload_n 1, 1) := by decide +kernel
theorem dX11_check_66 : decode cX11_check 66 = .ok (.aload_n 0, 1) := by decide +kernel
theorem dX11_check_67 : decode cX11_check 67 = .ok (.getfield 10, 3) := by decide +kernel
theorem dX11_check_70 : decode cX11_check 70 = .ok (.iload_n 3, 1) := by decide +kernel
theorem dX11_check_71 : decode cX11_check 71 = .ok (.invokevirtual 297, 3) := by decide +kernel
theorem dX11_check_74 : decode cX11_check 74 = .ok (.istore 4, 2) := by decide +kernel
theorem dX11_check_76 : decode cX11_check 76 = .ok (.aload_n 0, 1) := by decide +kernel
theorem dX11_check_77 : decode cX11_check 77 = .ok (.getfield 10, 3) := by decide +kernel
theorem dX11_check_80 : decode cX11_check 80 = .ok (.invokevirtual 124, 3) := by decide +kernel
theorem dX11_check_83 : decode cX11_check 83 = .ok (.iload 4, 2) := by decide +kernel
theorem dX11_check_85 : decode cX11_check 85 = .ok (.ireturn, 1) := by decide +kernel
theorem dX11_count_0 : decode cX11_count 0 = .ok (.iload_n 1, 1) := by decide +kernel
theorem dX11_count_1 : decode cX11_count 1 = .ok (.tableswitch 87 0 5 #[39, 47, 55, 63, 71, 79], 39) := by decide +kernel
theorem dX11_count_40 : decode cX11_count 40 = .ok (.aload_n 0, 1) := by decide +kernel
theorem dX11_count_41 : decode cX11_count 41 = .ok (.getfield 26, 3) := by decide +kernel
theorem dX11_count_44 : decode cX11_count 44 = .ok (.getfield 82, 3) := by decide +kernel
theorem dX11_count_47 : decode cX11_count 47 = .ok (.ireturn, 1) := by decide +kernel
theorem dX11_count_48 : decode cX11_count 48 = .ok (.aload_n 0, 1) := by decide +kernel
theorem dX11_count_49 : decode cX11_count 49 = .ok (.getfield 46, 3) := by decide +kernel
theorem dX11_count_52 : decode cX11_count 52 = .ok (.getfield 301, 3) := by decide +kernel
theorem dX11_count_55 : decode cX11_count 55 = .ok (.ireturn, 1) := by decide +kernel
theorem dX11_count_56 : decode cX11_count 56 = .ok (.aload_n 0, 1) := by decide +kernel
theorem dX11_count_57 : decode cX11_count 57 = .ok (.getfield 53, 3) := by decide +kernel
theorem dX11_count_60 : decode cX11_count 60 = .ok (.getfield 210, 3) := by decide +kernel
theorem dX11_count_63 : decode cX11_count 63 = .ok (.ireturn, 1) := by decide +kernel
theorem dX11_count_64 : decode cX11_count 64 = .ok (.aload_n 0, 1) := by decide +kernel
theorem dX11_count_65 : decode cX11_count 65 = .ok (.getfield 60, 3) := by decide +kernel
theorem dX11_count_68 : decode cX11_count 68 = .ok (.getfield 247, 3) := by decide +kernel
theorem dX11_count_71 : decode cX11_count 71 = .ok (.ireturn, 1) := by decide +kernel
theorem dX11_count_72 : decode cX11_count 72 = .ok (.aload_n 0, 1) := by decide +kernel
theorem dX11_count_73 : decode cX11_count 73 = .ok (.getfield 26, 3) := by decide +kernel
theorem dX11_count_76 : decode cX11_count 76 = .ok (.getfield 98, 3) := by decide +kernel
theorem dX11_count_79 : decode cX11_count 79 = .ok (.ireturn, 1) := by decide +kernel
theorem dX11_count_80 : decode cX11_count 80 = .ok (.aload_n 0, 1) := by decide +kernel
theorem dX11_count_81 : decode cX11_count 81 = .ok (.getfield 10, 3) := by decide +kernel
theorem dX11_count_84 : decode cX11_count 84 = .ok (.getfield 101, 3) := by decide +kernel
theorem dX11_count_87 : decode cX11_count 87 = .ok (.ireturn, 1) := by decide +kernel
theorem dX11_count_88 : decode cX11_count 88 = .ok (.aload_n 0, 1) := by decide +kernel
theorem dX11_count_89 : decode cX11_count 89 = .ok (.iload_n 1, 1) := by decide +kernel
theorem dX11_count_90 : decode cX11_count 90 = .ok (.invokevirtual 302, 3) := by decide +kernel
theorem dX11_count_93 : decode cX11_count 93 = .ok (.ireturn, 1) := by decide +kernel
theorem dX11_textCount_0 : decode cX11_textCount 0 = .ok (.iload_n 1, 1) := by decide +kernel
theorem dX11_textCount_1 : decode cX11_textCount 1 = .ok (.bipush 10, 2) := by decide +kernel
theorem dX11_textCount_3 : decode cX11_textCount 3 = .ok (.bipush 10, 2) := by decide +kernel
theorem dX11_textCount_5 : decode cX11_textCount 5 = .ok (.aload_n 0, 1) := by decide +kernel
theorem dX11_textCount_6 : decode cX11_textCount 6 = .ok (.getfield 26, 3) := by decide +kernel
theorem dX11_textCount_9 : decode cX11_textCount 9 = .ok (.getfield 82, 3) := by decide +kernel
theorem dX11_textCount_12 : decode cX11_textCount 12 = .ok (.iadd, 1) := by decide +kernel
theorem dX11_textCount_13 : decode cX11_textCount 13 = .ok (.iconst 1, 1) := by decide +kernel
theorem dX11_textCount_14 : decode cX11_textCount 14 = .ok (.isub, 1) := by decide +kernel
theorem dX11_textCount_15 : decode cX11_textCount 15 = .ok (.invokestatic 75, 3) := by decide +kernel
theorem dX11_textCount_18 : decode cX11_textCount 18 = .ok (.ifCond .eq 31, 3) := by decide +kernel
theorem dX11_textCount_21 : decode cX11_textCount 21 = .ok (.aload_n 0, 1) := by decide +kernel
theorem dX11_textCount_22 : decode cX11_textCount 22 = .ok (.getfield 26, 3) := by decide +kernel
theorem dX11_textCount_25 : decode cX11_textCount 25 = .ok (.iload_n 1, 1) := by decide +kernel
theorem dX11_textCount_26 : decode cX11_textCount 26 = .ok (.bipush 10, 2) := by decide +kernel
theorem dX11_textCount_28 : decode cX11_textCount 28 = .ok (.isub, 1) := by decide +kernel
theorem dX11_textCount_29 : decode cX11_textCount 29 = .ok (.invokevirtual 108, 3) := by decide +kernel
theorem dX11_textCount_32 : decode cX11_textCount 32 = .ok (.astore_n 2, 1) := by decide +kernel
theorem dX11_textCount_33 : decode cX11_textCount 33 = .ok (.aload_n 2, 1) := by decide +kernel
theorem dX11_textCount_34 : decode cX11_textCount 34 = .ok (.ifnonnull 7, 3) := by decide +kernel
theorem dX11_textCount_37 : decode cX11_textCount 37 = .ok (.iconst (-1), 1) := by decide +kernel
theorem dX11_textCount_38 : decode cX11_textCount 38 = .ok (.goto 10, 3) := by decide +kernel
theorem dX11_textCount_48 : decode cX11_textCount 48 = .ok (.ireturn, 1) := by decide +kernel
theorem dX11_textCount_49 : decode cX11_textCount 49 = .ok (.iload_n 1, 1) := by decide +kernel
theorem dX11_textCount_50 : decode cX11_textCount 50 = .ok (.bipush 20, 2) := by decide +kernel
theorem dX11_textCount_52 : decode cX11_textCount 52 = .ok (.bipush 23, 2) := by decide +kernel
theorem dX11_textCount_54 : decode cX11_textCount 54 = .ok (.invokestatic 75, 3) := by decide +kernel
theorem dX11_textCount_57 : decode cX11_textCount 57 = .ok (.ifCond .eq 16, 3) := by decide +kernel
theorem dX11_textCount_60 : decode cX11_textCount 60 = .ok (.aload_n 0, 1) := by decide +kernel
theorem dX11_textCount_61 : decode cX11_textCount 61 = .ok (.getfield 39, 3) := by decide +kernel
theorem dX11_textCount_64 : decode cX11_textCount 64 = .ok (.iload_n 1, 1) := by decide +kernel
theorem dX11_textCount_65 : decode cX11_textCount 65 = .ok (.bipush 20, 2) := by decide +kernel
theorem dX11_textCount_67 : decode cX11_textCount 67 = .ok (.isub, 1) := by decide +kernel
theorem dX11_textCount_68 : decode cX11_textCount 68 = .ok (.aaload, 1) := by decide +kernel
theorem dX11_textCount_69 : decode cX11_textCount 69 = .ok (.invokestatic 305, 3) := by decide +kernel
theorem dX11_textCount_72 : decode cX11_textCount 72 = .ok (.ireturn, 1) := by decide +kernel
theorem dX11_textCount_73 : decode cX11_textCount 73 = .ok (.iload_n 1, 1) := by decide +kernel
theorem dX11_textCount_74 : decode cX11_textCount 74 = .ok (.bipush 30, 2) := by decide +kernel
theorem dX11_textCount_76 : decode cX11_textCount 76 = .ok (.bipush 35, 2) := by decide +kernel
theorem dX11_textCount_78 : decode cX11_textCount 78 = .ok (.invokestatic 75, 3) := by decide +kernel
theorem dX11_textCount_81 : decode cX11_textCount 81 = .ok (.ifCond .eq 19, 3) := by decide +kernel
theorem dX11_textCount_84 : decode cX11_textCount 84 = .ok (.aload_n 0, 1) := by decide +kernel
theorem dX11_textCount_85 : decode cX11_textCount 85 = .ok (.getfield 60, 3) := by decide +kernel
theorem dX11_textCount_88 : decode cX11_textCount 88 = .ok (.getfield 151, 3) := by decide +kernel
theorem dX11_textCount_91 : decode cX11_textCount 91 = .ok (.iload_n 1, 1) := by decide +kernel
theorem dX11_textCount_92 : decode cX11_textCount 92 = .ok (.bipush 30, 2) := by decide +kernel
theorem dX11_textCount_94 : decode cX11_textCount 94 = .ok (.isub, 1) := by decide +kernel
theorem dX11_textCount_95 : decode cX11_textCount 95 = .ok (.aaload, 1) := by decide +kernel
theorem dX11_textCount_96 : decode cX11_textCount 96 = .ok (.invokestatic 305, 3) := by decide +kernel
theorem dX11_textCount_99 : decode cX11_textCount 99 = .ok (.ireturn, 1) := by decide +kernel
theorem dX11_textCount_100 : decode cX11_textCount 100 = .ok (.iconst (-1), 1) := by decide +kernel
theorem dX11_textCount_101 : decode cX11_textCount 101 = .ok (.ireturn, 1) := by decide +kernel
theorem dX11_tapeHas_0 : decode cX11_tapeHas 0 = .ok (.iload_n 1, 1) := by decide +kernel
theorem dX11_tapeHas_1 : decode cX11_tapeHas 1 = .ok (.iconst 1, 1) := by decide +kernel
theorem dX11_tapeHas_2 : decode cX11_tapeHas 2 = .ok (.iload_n 2, 1) := by decide +kernel
theorem dX11_tapeHas_3 : decode cX11_tapeHas 3 = .ok (.invokestatic 75, 3) := by decide +kernel
theorem dX11_tapeHas_6 : decode cX11_tapeHas 6 = .ok (.ifCond .eq 18, 3) := by decide +kernel
theorem dX11_tapeHas_9 : decode cX11_tapeHas 9 = .ok (.iload_n 1, 1) := by decide +kernel
theorem dX11_tapeHas_10 : decode cX11_tapeHas 10 = .ok (.aload_n 0, 1) := by decide +kernel
theorem dX11_tapeHas_11 : decode cX11_tapeHas 11 = .ok (.getfield 10, 3) := by decide +kernel
theorem dX11_tapeHas_14 : decode cX11_tapeHas 14 = .ok (.getfield 101, 3) := by decide +kernel
theorem dX11_tapeHas_17 : decode cX11_tapeHas 17 = .ok (.if_icmp .gt 7, 3) := by decide +kernel
theorem dX11_tapeHas_20 : decode cX11_tapeHas 20 = .ok (.iconst 1, 1) := by decide +kernel
theorem dX11_tapeHas_21 : decode cX11_tapeHas 21 = .ok (.goto 4, 3) := by decide +kernel
theorem dX11_tapeHas_24 : decode cX11_tapeHas 24 = .ok (.iconst 0, 1) := by decide +kernel
theorem dX11_tapeHas_25 : decode cX11_tapeHas 25 = .ok (.ireturn, 1) := by decide +kernel
theorem dX11_canScan_0 : decode cX11_canScan 0 = .ok (.iload_n 1, 1) := by decide +kernel
theorem dX11_canScan_1 : decode cX11_canScan 1 = .ok (.invokestatic 207, 3) := by decide +kernel
theorem dX11_canScan_4 : decode cX11_canScan 4 = .ok (.ifCond .eq 25, 3) := by decide +kernel
theorem dX11_canScan_7 : decode cX11_canScan 7 = .ok (.iload_n 2, 1) := by decide +kernel
theorem dX11_canScan_8 : decode cX11_canScan 8 = .ok (.invokestatic 207, 3) := by decide +kernel
theorem dX11_canScan_11 : decode cX11_canScan 11 = .ok (.ifCond .eq 18, 3) := by decide +kernel
theorem dX11_canScan_14 : decode cX11_canScan 14 = .ok (.iload_n 3, 1) := by decide +kernel
theorem dX11_canScan_15 : decode cX11_canScan 15 = .ok (.iconst 0, 1) := by decide +kernel
theorem dX11_canScan_16 : decode cX11_canScan 16 = .ok (.sipush 1000, 3) := by decide +kernel
theorem dX11_canScan_19 : decode cX11_canScan 19 = .ok (.invokestatic 75, 3) := by decide +kernel
theorem dX11_canScan_22 : decode cX11_canScan 22 = .ok (.ifCond .eq 7, 3) := by decide +kernel
theorem dX11_canScan_25 : decode cX11_canScan 25 = .ok (.iconst 1, 1) := by decide +kernel
theorem dX11_canScan_26 : decode cX11_canScan 26 = .ok (.goto 4, 3) := by decide +kernel
theorem dX11_canScan_29 : decode cX11_canScan 29 = .ok (.iconst 0, 1) := by decide +kernel
theorem dX11_canScan_30 : decode cX11_canScan 30 = .ok (.istore 4, 2) := by decide +kernel
theorem dX11_canScan_32 : decode cX11_canScan 32 = .ok (.iload 4, 2) := by decide +kernel
theorem dX11_canScan_34 : decode cX11_canScan 34 = .ok (.ifCond .eq 39, 3) := by decide +kernel
theorem dX11_canScan_37 : decode cX11_canScan 37 = .ok (.iload_n 1, 1) := by decide +kernel
theorem dX11_canScan_38 : decode cX11_canScan 38 = .ok (.iload_n 2, 1) := by decide +kernel
theorem dX11_canScan_39 : decode cX11_canScan 39 = .ok (.if_icmp .gt 34, 3) := by decide +kernel
theorem dX11_canScan_42 : decode cX11_canScan 42 = .ok (.iload_n 2, 1) := by decide +kernel
theorem dX11_canScan_43 : decode cX11_canScan 43 = .ok (.iload_n 1, 1) := by decide +kernel
theorem dX11_canScan_44 : decode cX11_canScan 44 = .ok (.isub, 1) := by decide +kernel
theorem dX11_canScan_45 : decode cX11_canScan 45 = .ok (.sipush 2000, 3) := by decide +kernel
theorem dX11_canScan_48 : decode cX11_canScan 48 = .ok (.if_icmp .gt 25, 3) := by decide +kernel
theorem dX11_canScan_51 : decode cX11_canScan 51 = .ok (.iconst 2, 1) := by decide +kernel
theorem dX11_canScan_52 : decode cX11_canScan 52 = .ok (.iload_n 3, 1) := by decide +kernel
theorem dX11_canScan_53 : decode cX11_canScan 53 = .ok (.imul, 1) := by decide +kernel
theorem dX11_canScan_54 : decode cX11_canScan 54 = .ok (.iload_n 1, 1) := by decide +kernel
theorem dX11_canScan_55 : decode cX11_canScan 55 = .ok (.if_icmp .ge 18, 3) := by decide +kernel
theorem dX11_canScan_58 : decode cX11_canScan 58 = .ok (.aload_n 0, 1) := by decide +kernel
theorem dX11_canScan_59 : decode cX11_canScan 59 = .ok (.getfield 53, 3) := by decide +kernel
theorem dX11_canScan_62 : decode cX11_canScan 62 = .ok (.getfield 210, 3) := by decide +kernel
theorem dX11_canScan_65 : decode cX11_canScan 65 = .ok (.iconst 2, 1) := by decide +kernel
theorem dX11_canScan_66 : decode cX11_canScan 66 = .ok (.if_icmp .lt 7, 3) := by decide +kernel
theorem dX11_canScan_69 : decode cX11_canScan 69 = .ok (.iconst 1, 1) := by decide +kernel
theorem dX11_canScan_70 : decode cX11_canScan 70 = .ok (.goto 4, 3) := by decide +kernel
theorem dX11_canScan_73 : decode cX11_canScan 73 = .ok (.iconst 0, 1) := by decide +kernel
theorem dX11_canScan_74 : decode cX11_canScan 74 = .ok (.ireturn, 1) := by decide +kernel
theorem dX11_clausesOf_0 : decode cX11_clausesOf 0 = .ok (.aload_n 0, 1) := by decide +kernel
theorem dX11_clausesOf_1 : decode cX11_clausesOf 1 = .ok (.ifnonnull 7, 3) := by decide +kernel
theorem dX11_clausesOf_4 : decode cX11_clausesOf 4 = .ok (.iconst 0, 1) := by decide +kernel
theorem dX11_clausesOf_5 : decode cX11_clausesOf 5 = .ok (.goto 7, 3) := by decide +kernel
theorem dX11_clausesOf_12 : decode cX11_clausesOf 12 = .ok (.ireturn, 1) := by decide +kernel
theorem dX11_isWithin_0 : decode cX11_isWithin 0 = .ok (.iload_n 0, 1) := by decide +kernel
theorem dX11_isWithin_1 : decode cX11_isWithin 1 = .ok (.iload_n 1, 1) := by decide +kernel
theorem dX11_isWithin_2 : decode cX11_isWithin 2 = .ok (.if_icmp .lt 12, 3) := by decide +kernel
theorem dX11_isWithin_5 : decode cX11_isWithin 5 = .ok (.iload_n 0, 1) := by decide +kernel
theorem dX11_isWithin_6 : decode cX11_isWithin 6 = .ok (.iload_n 2, 1) := by decide +kernel
theorem dX11_isWithin_7 : decode cX11_isWithin 7 = .ok (.if_icmp .gt 7, 3) := by decide +kernel
theorem dX11_isWithin_10 : decode cX11_isWithin 10 = .ok (.iconst 1, 1) := by decide +kernel
theorem dX11_isWithin_11 : decode cX11_isWithin 11 = .ok (.goto 4, 3) := by decide +kernel
theorem dX11_isWithin_14 : decode cX11_isWithin 14 = .ok (.iconst 0, 1) := by decide +kernel
theorem dX11_isWithin_15 : decode cX11_isWithin 15 = .ok (.ireturn, 1) := by decide +kernel
theorem dX11_isDay_0 : decode cX11_isDay 0 = .ok (.iload_n 0, 1) := by decide +kernel
theorem dX11_isDay_1 : decode cX11_isDay 1 = .ok (.iconst 0, 1) := by decide +kernel
theorem dX11_isDay_2 : decode cX11_isDay 2 = .ok (.sipush 399, 3) := by decide +kernel
theorem dX11_isDay_5 : decode cX11_isDay 5 = .ok (.invokestatic 75, 3) := by decide +kernel
theorem dX11_isDay_8 : decode cX11_isDay 8 = .ok (.ireturn, 1) := by decide +kernel
theorem dX11_isMinute_0 : decode cX11_isMinute 0 = .ok (.iload_n 0, 1) := by decide +kernel
theorem dX11_isMinute_1 : decode cX11_isMinute 1 = .ok (.iconst 0, 1) := by decide +kernel
theorem dX11_isMinute_2 : decode cX11_isMinute 2 = .ok (.sipush 1439, 3) := by decide +kernel
theorem dX11_isMinute_5 : decode cX11_isMinute 5 = .ok (.invokestatic 75, 3) := by decide +kernel
theorem dX11_isMinute_8 : decode cX11_isMinute 8 = .ok (.ireturn, 1) := by decide +kernel
theorem dX11_isShape_0 : decode cX11_isShape 0 = .ok (.iload_n 0, 1) := by decide +kernel
theorem dX11_isShape_1 : decode cX11_isShape 1 = .ok (.iconst 0, 1) := by decide +kernel
theorem dX11_isShape_2 : decode cX11_isShape 2 = .ok (.iconst 3, 1) := by decide +kernel
theorem dX11_isShape_3 : decode cX11_isShape 3 = .ok (.invokestatic 75, 3) := by decide +kernel
theorem dX11_isShape_6 : decode cX11_isShape 6 = .ok (.ireturn, 1) := by decide +kernel
theorem dX11_isReader_0 : decode cX11_isReader 0 = .ok (.iload_n 0, 1) := by decide +kernel
theorem dX11_isReader_1 : decode cX11_isReader 1 = .ok (.iconst 0, 1) := by decide +kernel
theorem dX11_isReader_2 : decode cX11_isReader 2 = .ok (.iconst 3, 1) := by decide +kernel
theorem dX11_isReader_3 : decode cX11_isReader 3 = .ok (.invokestatic 75, 3) := by decide +kernel
theorem dX11_isReader_6 : decode cX11_isReader 6 = .ok (.ireturn, 1) := by decide +kernel
theorem dX11_isStory_0 : decode cX11_isStory 0 = .ok (.iload_n 0, 1) := by decide +kernel
theorem dX11_isStory_1 : decode cX11_isStory 1 = .ok (.iconst 0, 1) := by decide +kernel
theorem dX11_isStory_2 : decode cX11_isStory 2 = .ok (.iconst 5, 1) := by decide +kernel
theorem dX11_isStory_3 : decode cX11_isStory 3 = .ok (.invokestatic 75, 3) := by decide +kernel
theorem dX11_isStory_6 : decode cX11_isStory 6 = .ok (.ireturn, 1) := by decide +kernel
theorem dX11_isBeat_0 : decode cX11_isBeat 0 = .ok (.iload_n 0, 1) := by decide +kernel
theorem dX11_isBeat_1 : decode cX11_isBeat 1 = .ok (.iconst 1, 1) := by decide +kernel
theorem dX11_isBeat_2 : decode cX11_isBeat 2 = .ok (.ldc_w 309, 3) := by decide +kernel
theorem dX11_isBeat_5 : decode cX11_isBeat 5 = .ok (.invokestatic 75, 3) := by decide +kernel
theorem dX11_isBeat_8 : decode cX11_isBeat 8 = .ok (.ireturn, 1) := by decide +kernel
theorem dX11_isNightError_0 : decode cX11_isNightError 0 = .ok (.iload_n 0, 1) := by decide +kernel
theorem dX11_isNightError_1 : decode cX11_isNightError 1 = .ok (.iconst 0, 1) := by decide +kernel
theorem dX11_isNightError_2 : decode cX11_isNightError 2 = .ok (.ldc 240, 2) := by decide +kernel
theorem dX11_isNightError_4 : decode cX11_isNightError 4 = .ok (.invokestatic 75, 3) := by decide +kernel
theorem dX11_isNightError_7 : decode cX11_isNightError 7 = .ok (.ireturn, 1) := by decide +kernel
theorem dX11_isLook_0 : decode cX11_isLook 0 = .ok (.iload_n 0, 1) := by decide +kernel
theorem dX11_isLook_1 : decode cX11_isLook 1 = .ok (.iconst 0, 1) := by decide +kernel
theorem dX11_isLook_2 : decode cX11_isLook 2 = .ok (.bipush 20, 2) := by decide +kernel
theorem dX11_isLook_4 : decode cX11_isLook 4 = .ok (.invokestatic 75, 3) := by decide +kernel
theorem dX11_isLook_7 : decode cX11_isLook 7 = .ok (.ifCond .eq 30, 3) := by decide +kernel
theorem dX11_isLook_10 : decode cX11_isLook 10 = .ok (.iload_n 1, 1) := by decide +kernel
theorem dX11_isLook_11 : decode cX11_isLook 11 = .ok (.iconst 0, 1) := by decide +kernel
theorem dX11_isLook_12 : decode cX11_isLook 12 = .ok (.bipush 20, 2) := by decide +kernel
theorem dX11_isLook_14 : decode cX11_isLook 14 = .ok (.invokestatic 75, 3) := by decide +kernel
theorem dX11_isLook_17 : decode cX11_isLook 17 = .ok (.ifCond .eq 20, 3) := by decide +kernel
theorem dX11_isLook_20 : decode cX11_isLook 20 = .ok (.iload_n 2, 1) := by decide +kernel
theorem dX11_isLook_21 : decode cX11_isLook 21 = .ok (.iconst 0, 1) := by decide +kernel
theorem dX11_isLook_22 : decode cX11_isLook 22 = .ok (.iload_n 0, 1) := by decide +kernel
theorem dX11_isLook_23 : decode cX11_isLook 23 = .ok (.iload_n 1, 1) := by decide +kernel
theorem dX11_isLook_24 : decode cX11_isLook 24 = .ok (.invokestatic 310, 3) := by decide +kernel
theorem dX11_isLook_27 : decode cX11_isLook 27 = .ok (.invokestatic 75, 3) := by decide +kernel
theorem dX11_isLook_30 : decode cX11_isLook 30 = .ok (.ifCond .eq 7, 3) := by decide +kernel
theorem dX11_isLook_33 : decode cX11_isLook 33 = .ok (.iconst 1, 1) := by decide +kernel
theorem dX11_isLook_34 : decode cX11_isLook 34 = .ok (.goto 4, 3) := by decide +kernel
theorem dX11_isLook_37 : decode cX11_isLook 37 = .ok (.iconst 0, 1) := by decide +kernel
theorem dX11_isLook_38 : decode cX11_isLook 38 = .ok (.ireturn, 1) := by decide +kernel
theorem dX11_starMinute_0 : decode cX11_starMinute 0 = .ok (.iload_n 1, 1) := by decide +kernel
theorem dX11_starMinute_1 : decode cX11_starMinute 1 = .ok (.iconst 4, 1) := by decide +kernel
theorem dX11_starMinute_2 : decode cX11_starMinute 2 = .ok (.iload_n 0, 1) := by decide +kernel
theorem dX11_starMinute_3 : decode cX11_starMinute 3 = .ok (.imul, 1) := by decide +kernel
theorem dX11_starMinute_4 : decode cX11_starMinute 4 = .ok (.iadd, 1) := by decide +kernel
theorem dX11_starMinute_5 : decode cX11_starMinute 5 = .ok (.sipush 1440, 3) := by decide +kernel
theorem dX11_starMinute_8 : decode cX11_starMinute 8 = .ok (.irem, 1) := by decide +kernel
theorem dX11_starMinute_9 : decode cX11_starMinute 9 = .ok (.ireturn, 1) := by decide +kernel
theorem dX12_init_0 : decode cX12_init 0 = .ok (.aload_n 0, 1) := by decide +kernel
theorem dX12_init_1 : decode cX12_init 1 = .ok (.invokespecial 1, 3) := by decide +kernel
theorem dX12_init_4 : decode cX12_init 4 = .ok (.aload_n 0, 1) := by decide +kernel
theorem dX12_init_5 : decode cX12_init 5 = .ok (.sipush 200, 3) := by decide +kernel
theorem dX12_init_8 : decode cX12_init 8 = .ok (.newarray .byte, 2) := by decide +kernel
theorem dX12_init_10 : decode cX12_init 10 = .ok (.putfield 7, 3) := by decide +kernel
theorem dX12_init_13 : decode cX12_init 13 = .ok (.aload_n 0, 1) := by decide +kernel
theorem dX12_init_14 : decode cX12_init 14 = .ok (.bipush 20, 2) := by decide +kernel
theorem dX12_init_16 : decode cX12_init 16 = .ok (.newarray .int, 2) := by decide +kernel
theorem dX12_init_18 : decode cX12_init 18 = .ok (.putfield 13, 3) := by decide +kernel
theorem dX12_init_21 : decode cX12_init 21 = .ok (.aload_n 0, 1) := by decide +kernel
theorem dX12_init_22 : decode cX12_init 22 = .ok (.sipush 240, 3) := by decide +kernel
theorem dX12_init_25 : decode cX12_init 25 = .ok (.newarray .int, 2) := by decide +kernel
theorem dX12_init_27 : decode cX12_init 27 = .ok (.putfield 17, 3) := by decide +kernel
theorem dX12_init_30 : decode cX12_init 30 = .ok (.aload_n 0, 1) := by decide +kernel
theorem dX12_init_31 : decode cX12_init 31 = .ok (.sipush 240, 3) := by decide +kernel
theorem dX12_init_34 : decode cX12_init 34 = .ok (.newarray .int, 2) := by decide +kernel
theorem dX12_init_36 : decode cX12_init 36 = .ok (.putfield 20, 3) := by decide +kernel
theorem dX12_init_39 : decode cX12_init 39 = .ok (.aload_n 0, 1) := by decide +kernel
theorem dX12_init_40 : decode cX12_init 40 = .ok (.sipush 240, 3) := by decide +kernel
theorem dX12_init_43 : decode cX12_init 43 = .ok (.newarray .int, 2) := by decide +kernel
theorem dX12_init_45 : decode cX12_init 45 = .ok (.putfield 23, 3) := by decide +kernel
theorem dX12_init_48 : decode cX12_init 48 = .ok (.aload_n 0, 1) := by decide +kernel
theorem dX12_init_49 : decode cX12_init 49 = .ok (.sipush 2400, 3) := by decide +kernel
theorem dX12_init_52 : decode cX12_init 52 = .ok (.newarray .int, 2) := by decide +kernel
theorem dX12_init_54 : decode cX12_init 54 = .ok (.putfield 26, 3) := by decide +kernel
theorem dX12_init_57 : decode cX12_init 57 = .ok (.aload_n 0, 1) := by decide +kernel
theorem dX12_init_58 : decode cX12_init 58 = .ok (.sipush 2400, 3) := by decide +kernel
theorem dX12_init_61 : decode cX12_init 61 = .ok (.newarray .int, 2) := by decide +kernel
theorem dX12_init_63 : decode cX12_init 63 = .ok (.putfield 29, 3) := by decide +kernel
theorem dX12_init_66 : decode cX12_init 66 = .ok (.aload_n 0, 1) := by decide +kernel
theorem dX12_init_67 : decode cX12_init 67 = .ok (.bipush 12, 2) := by decide +kernel
theorem dX12_init_69 : decode cX12_init 69 = .ok (.newarray .int, 2) := by decide +kernel
theorem dX12_init_71 : decode cX12_init 71 = .ok (.putfield 32, 3) := by decide +kernel
theorem dX12_init_74 : decode cX12_init 74 = .ok (.aload_n 0, 1) := by decide +kernel
theorem dX12_init_75 : decode cX12_init 75 = .ok (.bipush 12, 2) := by decide +kernel
theorem dX12_init_77 : decode cX12_init 77 = .ok (.newarray .int, 2) := by decide +kernel
theorem dX12_init_79 : decode cX12_init 79 = .ok (.putfield 35, 3) := by decide +kernel
theorem dX12_init_82 : decode cX12_init 82 = .ok (.aload_n 0, 1) := by decide +kernel
theorem dX12_init_83 : decode cX12_init 83 = .ok (.bipush 12, 2) := by decide +kernel
theorem dX12_init_85 : decode cX12_init 85 = .ok (.newarray .int, 2) := by decide +kernel
theorem dX12_init_87 : decode cX12_init 87 = .ok (.putfield 38, 3) := by decide +kernel
theorem dX12_init_90 : decode cX12_init 90 = .ok (.aload_n 0, 1) := by decide +kernel
theorem dX12_init_91 : decode cX12_init 91 = .ok (.bipush 120, 2) := by decide +kernel
theorem dX12_init_93 : decode cX12_init 93 = .ok (.newarray .int, 2) := by decide +kernel
theorem dX12_init_95 : decode cX12_init 95 = .ok (.putfield 41, 3) := by decide +kernel
theorem dX12_init_98 : decode cX12_init 98 = .ok (.aload_n 0, 1) := by decide +kernel
theorem dX12_init_99 : decode cX12_init 99 = .ok (.bipush 120, 2) := by decide +kernel
theorem dX12_init_101 : decode cX12_init 101 = .ok (.newarray .int, 2) := by decide +kernel
theorem dX12_init_103 : decode cX12_init 103 = .ok (.putfield 44, 3) := by decide +kernel
theorem dX12_init_106 : decode cX12_init 106 = .ok (.aload_n 0, 1) := by decide +kernel
theorem dX12_init_107 : decode cX12_init 107 = .ok (.sipush 160, 3) := by decide +kernel
theorem dX12_init_110 : decode cX12_init 110 = .ok (.newarray .int, 2) := by decide +kernel
theorem dX12_init_112 : decode cX12_init 112 = .ok (.putfield 47, 3) := by decide +kernel
theorem dX12_init_115 : decode cX12_init 115 = .ok (.aload_n 0, 1) := by decide +kernel
theorem dX12_init_116 : decode cX12_init 116 = .ok (.sipush 200, 3) := by decide +kernel
theorem dX12_init_119 : decode cX12_init 119 = .ok (.newarray .int, 2) := by decide +kernel
theorem dX12_init_121 : decode cX12_init 121 = .ok (.putfield 50, 3) := by decide +kernel
theorem dX12_init_124 : decode cX12_init 124 = .ok (.aload_n 0, 1) := by decide +kernel
theorem dX12_init_125 : decode cX12_init 125 = .ok (.sipush 200, 3) := by decide +kernel
theorem dX12_init_128 : decode cX12_init 128 = .ok (.newarray .boolean, 2) := by decide +kernel
theorem dX12_init_130 : decode cX12_init 130 = .ok (.putfield 53, 3) := by decide +kernel
theorem dX12_init_133 : decode cX12_init 133 = .ok (.aload_n 0, 1) := by decide +kernel
theorem dX12_init_134 : decode cX12_init 134 = .ok (.bipush 10, 2) := by decide +kernel
theorem dX12_init_136 : decode cX12_init 136 = .ok (.newarray .boolean, 2) := by decide +kernel
theorem dX12_init_138 : decode cX12_init 138 = .ok (.putfield 57, 3) := by decide +kernel
theorem dX12_init_141 : decode cX12_init 141 = .ok (.aload_n 0, 1) := by decide +kernel
theorem dX12_init_142 : decode cX12_init 142 = .ok (.bipush 10, 2) := by decide +kernel
theorem dX12_init_144 : decode cX12_init 144 = .ok (.newarray .int, 2) := by decide +kernel
theorem dX12_init_146 : decode cX12_init 146 = .ok (.putfield 60, 3) := by decide +kernel
theorem dX12_init_149 : decode cX12_init 149 = .ok (.aload_n 0, 1) := by decide +kernel
theorem dX12_init_150 : decode cX12_init 150 = .ok (.bipush 10, 2) := by decide +kernel
theorem dX12_init_152 : decode cX12_init 152 = .ok (.newarray .int, 2) := by decide +kernel
theorem dX12_init_154 : decode cX12_init 154 = .ok (.putfield 63, 3) := by decide +kernel
theorem dX12_init_157 : decode cX12_init 157 = .ok (.aload_n 0, 1) := by decide +kernel
theorem dX12_init_158 : decode cX12_init 158 = .ok (.bipush 10, 2) := by decide +kernel
theorem dX12_init_160 : decode cX12_init 160 = .ok (.newarray .int, 2) := by decide +kernel
theorem dX12_init_162 : decode cX12_init 162 = .ok (.putfield 66, 3) := by decide +kernel
theorem dX12_init_165 : decode cX12_init 165 = .ok (.aload_n 0, 1) := by decide +kernel
theorem dX12_init_166 : decode cX12_init 166 = .ok (.bipush 10, 2) := by decide +kernel
theorem dX12_init_168 : decode cX12_init 168 = .ok (.newarray .int, 2) := by decide +kernel
theorem dX12_init_170 : decode cX12_init 170 = .ok (.putfield 69, 3) := by decide +kernel
theorem dX12_init_173 : decode cX12_init 173 = .ok (.aload_n 0, 1) := by decide +kernel
theorem dX12_init_174 : decode cX12_init 174 = .ok (.sipush 1440, 3) := by decide +kernel
theorem dX12_init_177 : decode cX12_init 177 = .ok (.newarray .int, 2) := by decide +kernel
theorem dX12_init_179 : decode cX12_init 179 = .ok (.putfield 72, 3) := by decide +kernel
theorem dX12_init_182 : decode cX12_init 182 = .ok (.aload_n 0, 1) := by decide +kernel
theorem dX12_init_183 : decode cX12_init 183 = .ok (.sipush 1440, 3) := by decide +kernel
theorem dX12_init_186 : decode cX12_init 186 = .ok (.newarray .int, 2) := by decide +kernel
theorem dX12_init_188 : decode cX12_init 188 = .ok (.putfield 75, 3) := by decide +kernel
theorem dX12_init_191 : decode cX12_init 191 = .ok (.aload_n 0, 1) := by decide +kernel
theorem dX12_init_192 : decode cX12_init 192 = .ok (.sipush 1440, 3) := by decide +kernel
theorem dX12_init_195 : decode cX12_init 195 = .ok (.newarray .int, 2) := by decide +kernel
theorem dX12_init_197 : decode cX12_init 197 = .ok (.putfield 78, 3) := by decide +kernel
theorem dX12_init_200 : decode cX12_init 200 = .ok (.aload_n 0, 1) := by decide +kernel
theorem dX12_init_201 : decode cX12_init 201 = .ok (.sipush 1440, 3) := by decide +kernel
theorem dX12_init_204 : decode cX12_init 204 = .ok (.newarray .int, 2) := by decide +kernel
theorem dX12_init_206 : decode cX12_init 206 = .ok (.putfield 81, 3) := by decide +kernel
theorem dX12_init_209 : decode cX12_init 209 = .ok (.aload_n 0, 1) := by decide +kernel
theorem dX12_init_210 : decode cX12_init 210 = .ok (.sipush 1440, 3) := by decide +kernel
theorem dX12_init_213 : decode cX12_init 213 = .ok (.newarray .int, 2) := by decide +kernel
theorem dX12_init_215 : decode cX12_init 215 = .ok (.putfield 84, 3) := by decide +kernel
theorem dX12_init_218 : decode cX12_init 218 = .ok (.aload_n 0, 1) := by decide +kernel
theorem dX12_init_219 : decode cX12_init 219 = .ok (.iconst 2, 1) := by decide +kernel
theorem dX12_init_220 : decode cX12_init 220 = .ok (.newarray .int, 2) := by decide +kernel
theorem dX12_init_222 : decode cX12_init 222 = .ok (.putfield 87, 3) := by decide +kernel
theorem dX12_init_225 : decode cX12_init 225 = .ok (.aload_n 0, 1) := by decide +kernel
theorem dX12_init_226 : decode cX12_init 226 = .ok (.bipush 40, 2) := by decide +kernel
theorem dX12_init_228 : decode cX12_init 228 = .ok (.newarray .int, 2) := by decide +kernel
theorem dX12_init_230 : decode cX12_init 230 = .ok (.putfield 90, 3) := by decide +kernel
theorem dX12_init_233 : decode cX12_init 233 = .ok (.aload_n 0, 1) := by decide +kernel
theorem dX12_init_234 : decode cX12_init 234 = .ok (.bipush 40, 2) := by decide +kernel
theorem dX12_init_236 : decode cX12_init 236 = .ok (.newarray .int, 2) := by decide +kernel
theorem dX12_init_238 : decode cX12_init 238 = .ok (.putfield 93, 3) := by decide +kernel
theorem dX12_init_241 : decode cX12_init 241 = .ok (.aload_n 0, 1) := by decide +kernel
theorem dX12_init_242 : decode cX12_init 242 = .ok (.bipush 40, 2) := by decide +kernel
theorem dX12_init_244 : decode cX12_init 244 = .ok (.newarray .int, 2) := by decide +kernel
theorem dX12_init_246 : decode cX12_init 246 = .ok (.putfield 96, 3) := by decide +kernel
theorem dX12_init_249 : decode cX12_init 249 = .ok (.aload_n 0, 1) := by decide +kernel
theorem dX12_init_250 : decode cX12_init 250 = .ok (.bipush 40, 2) := by decide +kernel
theorem dX12_init_252 : decode cX12_init 252 = .ok (.newarray .int, 2) := by decide +kernel
theorem dX12_init_254 : decode cX12_init 254 = .ok (.putfield 99, 3) := by decide +kernel
theorem dX12_init_257 : decode cX12_init 257 = .ok (.aload_n 0, 1) := by decide +kernel
theorem dX12_init_258 : decode cX12_init 258 = .ok (.bipush 30, 2) := by decide +kernel
theorem dX12_init_260 : decode cX12_init 260 = .ok (.newarray .int, 2) := by decide +kernel
theorem dX12_init_262 : decode cX12_init 262 = .ok (.putfield 102, 3) := by decide +kernel
theorem dX12_init_265 : decode cX12_init 265 = .ok (.aload_n 0, 1) := by decide +kernel
theorem dX12_init_266 : decode cX12_init 266 = .ok (.bipush 30, 2) := by decide +kernel
theorem dX12_init_268 : decode cX12_init 268 = .ok (.newarray .int, 2) := by decide +kernel
theorem dX12_init_270 : decode cX12_init 270 = .ok (.putfield 105, 3) := by decide +kernel
theorem dX12_init_273 : decode cX12_init 273 = .ok (.aload_n 0, 1) := by decide +kernel
theorem dX12_init_274 : decode cX12_init 274 = .ok (.bipush 40, 2) := by decide +kernel
theorem dX12_init_276 : decode cX12_init 276 = .ok (.newarray .int, 2) := by decide +kernel
theorem dX12_init_278 : decode cX12_init 278 = .ok (.putfield 108, 3) := by decide +kernel
theorem dX12_init_281 : decode cX12_init 281 = .ok (.aload_n 0, 1) := by decide +kernel
theorem dX12_init_282 : decode cX12_init 282 = .ok (.sipush 371, 3) := by decide +kernel
theorem dX12_init_285 : decode cX12_init 285 = .ok (.newarray .int, 2) := by decide +kernel
theorem dX12_init_287 : decode cX12_init 287 = .ok (.putfield 111, 3) := by decide +kernel
theorem dX12_init_290 : decode cX12_init 290 = .ok (.return_, 1) := by decide +kernel
theorem dX12_lies_0 : decode cX12_lies 0 = .ok (.lload_n 0, 1) := by decide +kernel
theorem dX12_lies_1 : decode cX12_lies 1 = .ok (.lload_n 2, 1) := by decide +kernel
theorem dX12_lies_2 : decode cX12_lies 2 = .ok (.lcmp, 1) := by decide +kernel
theorem dX12_lies_3 : decode cX12_lies 3 = .ok (.ifCond .lt 14, 3) := by decide +kernel
theorem dX12_lies_6 : decode cX12_lies 6 = .ok (.lload_n 0, 1) := by decide +kernel
theorem dX12_lies_7 : decode cX12_lies 7 = .ok (.lload 4, 2) := by decide +kernel
theorem dX12_lies_9 : decode cX12_lies 9 = .ok (.lcmp, 1) := by decide +kernel
theorem dX12_lies_10 : decode cX12_lies 10 = .ok (.ifCond .gt 7, 3) := by decide +kernel
theorem dX12_lies_13 : decode cX12_lies 13 = .ok (.iconst 1, 1) := by decide +kernel
theorem dX12_lies_14 : decode cX12_lies 14 = .ok (.goto 4, 3) := by decide +kernel
theorem dX12_lies_17 : decode cX12_lies 17 = .ok (.iconst 0, 1) := by decide +kernel
theorem dX12_lies_18 : decode cX12_lies 18 = .ok (.ireturn, 1) := by decide +kernel
theorem dX12_push_0 : decode cX12_push 0 = .ok (.bipush 24, 2) := by decide +kernel
theorem dX12_push_2 : decode cX12_push 2 = .ok (.istore_n 2, 1) := by decide +kernel
theorem dX12_push_3 : decode cX12_push 3 = .ok (.iload_n 2, 1) := by decide +kernel
theorem dX12_push_4 : decode cX12_push 4 = .ok (.ifCond .lt 32, 3) := by decide +kernel
theorem dX12_push_7 : decode cX12_push 7 = .ok (.aload_n 0, 1) := by decide +kernel
theorem dX12_push_8 : decode cX12_push 8 = .ok (.getfield 7, 3) := by decide +kernel
theorem dX12_push_11 : decode cX12_push 11 = .ok (.aload_n 0, 1) := by decide +kernel
theorem dX12_push_12 : decode cX12_push 12 = .ok (.getfield 114, 3) := by decide +kernel
theorem dX12_push_15 : decode cX12_push 15 = .ok (.iload_n 1, 1) := by decide +kernel
theorem dX12_push_16 : decode cX12_push 16 = .ok (.iload_n 2, 1) := by decide +kernel
theorem dX12_push_17 : decode cX12_push 17 = .ok (.ishr, 1) := by decide +kernel
theorem dX12_push_18 : decode cX12_push 18 = .ok (.i2b, 1) := by decide +kernel
theorem dX12_push_19 : decode cX12_push 19 = .ok (.bastore, 1) := by decide +kernel
theorem dX12_push_20 : decode cX12_push 20 = .ok (.aload_n 0, 1) := by decide +kernel
theorem dX12_push_21 : decode cX12_push 21 = .ok (.dup, 1) := by decide +kernel
theorem dX12_push_22 : decode cX12_push 22 = .ok (.getfield 114, 3) := by decide +kernel
theorem dX12_push_25 : decode cX12_push 25 = .ok (.iconst 1, 1) := by decide +kernel
theorem dX12_push_26 : decode cX12_push 26 = .ok (.iadd, 1) := by decide +kernel
theorem dX12_push_27 : decode cX12_push 27 = .ok (.putfield 114, 3) := by decide +kernel
theorem dX12_push_30 : decode cX12_push 30 = .ok (.iinc 2 (-8), 3) := by decide +kernel
theorem dX12_push_33 : decode cX12_push 33 = .ok (.goto (-30), 3) := by decide +kernel
theorem dX12_push_36 : decode cX12_push 36 = .ok (.return_, 1) := by decide +kernel
theorem dX12_feed_0 : decode cX12_feed 0 = .ok (.aload_n 0, 1) := by decide +kernel
theorem dX12_feed_1 : decode cX12_feed 1 = .ok (.getfield 114, 3) := by decide +kernel
theorem dX12_feed_4 : decode cX12_feed 4 = .ok (.bipush 20, 2) := by decide +kernel
theorem dX12_feed_6 : decode cX12_feed 6 = .ok (.iadd, 1) := by decide +kernel
theorem dX12_feed_7 : decode cX12_feed 7 = .ok (.sipush 200, 3) := by decide +kernel
theorem dX12_feed_10 : decode cX12_feed 10 = .ok (.if_icmp .le 5, 3) := by decide +kernel
theorem dX12_feed_13 : decode cX12_feed 13 = .ok (.iconst (-1), 1) := by decide +kernel
theorem dX12_feed_14 : decode cX12_feed 14 = .ok (.ireturn, 1) := by decide +kernel
theorem dX12_feed_15 : decode cX12_feed 15 = .ok (.aload_n 0, 1) := by decide +kernel
theorem dX12_feed_16 : decode cX12_feed 16 = .ok (.iload_n 1, 1) := by decide +kernel
theorem dX12_feed_17 : decode cX12_feed 17 = .ok (.invokevirtual 118, 3) := by decide +kernel
theorem dX12_feed_20 : decode cX12_feed 20 = .ok (.aload_n 0, 1) := by decide +kernel
theorem dX12_feed_21 : decode cX12_feed 21 = .ok (.iload_n 2, 1) := by decide +kernel
theorem dX12_feed_22 : decode cX12_feed 22 = .ok (.invokevirtual 118, 3) := by decide +kernel
theorem dX12_feed_25 : decode cX12_feed 25 = .ok (.aload_n 0, 1) := by decide +kernel
theorem dX12_feed_26 : decode cX12_feed 26 = .ok (.iload_n 3, 1) := by decide +kernel
theorem dX12_feed_27 : decode cX12_feed 27 = .ok (.invokevirtual 118, 3) := by decide +kernel
theorem dX12_feed_30 : decode cX12_feed 30 = .ok (.aload_n 0, 1) := by decide +kernel
theorem dX12_feed_31 : decode cX12_feed 31 = .ok (.iload 4, 2) := by decide +kernel
theorem dX12_feed_33 : decode cX12_feed 33 = .ok (.invokevirtual 118, 3) := by decide +kernel
theorem dX12_feed_36 : decode cX12_feed 36 = .ok (.aload_n 0, 1) := by decide +kernel
theorem dX12_feed_37 : decode cX12_feed 37 = .ok (.iload 5, 2) := by decide +kernel
theorem dX12_feed_39 : decode cX12_feed 39 = .ok (.invokevirtual 118, 3) := by decide +kernel
theorem dX12_feed_42 : decode cX12_feed 42 = .ok (.aload_n 0, 1) := by decide +kernel
theorem dX12_feed_43 : decode cX12_feed 43 = .ok (.getfield 114, 3) := by decide +kernel
theorem dX12_feed_46 : decode cX12_feed 46 = .ok (.ireturn, 1) := by decide +kernel
theorem dX12_isSource_0 : decode cX12_isSource 0 = .ok (.iload_n 1, 1) := by decide +kernel
theorem dX12_isSource_1 : decode cX12_isSource 1 = .ok (.i2l, 1) := by decide +kernel
theorem dX12_isSource_2 : decode cX12_isSource 2 = .ok (.lconst 0, 1) := by decide +kernel
theorem dX12_isSource_3 : decode cX12_isSource 3 = .ok (.aload_n 0, 1) := by decide +kernel
theorem dX12_isSource_4 : decode cX12_isSource 4 = .ok (.getfield 238, 3) := by decide +kernel
theorem dX12_isSource_7 : decode cX12_isSource 7 = .ok (.iconst 1, 1) := by decide +kernel
theorem dX12_isSource_8 : decode cX12_isSource 8 = .ok (.isub, 1) := by decide +kernel
theorem dX12_isSource_9 : decode cX12_isSource 9 = .ok (.i2l, 1) := by decide +kernel
theorem dX12_isSource_10 : decode cX12_isSource 10 = .ok (.invokestatic 159, 3) := by decide +kernel
theorem dX12_isSource_13 : decode cX12_isSource 13 = .ok (.ireturn, 1) := by decide +kernel
theorem dX12_isReader_0 : decode cX12_isReader 0 = .ok (.iload_n 0, 1) := by decide +kernel
theorem dX12_isReader_1 : decode cX12_isReader 1 = .ok (.i2l, 1) := by decide +kernel
theorem dX12_isReader_2 : decode cX12_isReader 2 = .ok (.lconst 0, 1) := by decide +kernel
theorem dX12_isReader_3 : decode cX12_isReader 3 = .ok (.ldc2_w 241, 3) := by decide +kernel
theorem dX12_isReader_6 : decode cX12_isReader 6 = .ok (.invokestatic 159, 3) := by decide +kernel
theorem dX12_isReader_9 : decode cX12_isReader 9 = .ok (.ireturn, 1) := by decide +kernel
theorem dX12_canRead_0 : decode cX12_canRead 0 = .ok (.iload_n 1, 1) := by decide +kernel
theorem dX12_canRead_1 : decode cX12_canRead 1 = .ok (.i2l, 1) := by decide +kernel
theorem dX12_canRead_2 : decode cX12_canRead 2 = .ok (.lconst 1, 1) := by decide +kernel
theorem dX12_canRead_3 : decode cX12_canRead 3 = .ok (.iload_n 2, 1) := by decide +kernel
theorem dX12_canRead_4 : decode cX12_canRead 4 = .ok (.i2l, 1) := by decide +kernel
theorem dX12_canRead_5 : decode cX12_canRead 5 = .ok (.invokestatic 159, 3) := by decide +kernel
theorem dX12_canRead_8 : decode cX12_canRead 8 = .ok (.ifCond .eq 15, 3) := by decide +kernel
theorem dX12_canRead_11 : decode cX12_canRead 11 = .ok (.iload_n 1, 1) := by decide +kernel
theorem dX12_canRead_12 : decode cX12_canRead 12 = .ok (.aload_n 0, 1) := by decide +kernel
theorem dX12_canRead_13 : decode cX12_canRead 13 = .ok (.getfield 114, 3) := by decide +kernel
theorem dX12_canRead_16 : decode cX12_canRead 16 = .ok (.if_icmp .gt 7, 3) := by decide +kernel
theorem dX12_canRead_19 : decode cX12_canRead 19 = .ok (.iconst 1, 1) := by decide +kernel
theorem dX12_canRead_20 : decode cX12_canRead 20 = .ok (.goto 4, 3) := by decide +kernel
theorem dX12_canRead_23 : decode cX12_canRead 23 = .ok (.iconst 0, 1) := by decide +kernel
theorem dX12_canRead_24 : decode cX12_canRead 24 = .ok (.ireturn, 1) := by decide +kernel
theorem dX12_law_0 : decode cX12_law 0 = .ok (.aload_n 0, 1) := by decide +kernel
theorem dX12_law_1 : decode cX12_law 1 = .ok (.iload_n 1, 1) := by decide +kernel
theorem dX12_law_2 : decode cX12_law 2 = .ok (.invokevirtual 243, 3) := by decide +kernel
theorem dX12_law_5 : decode cX12_law 5 = .ok (.ifCond .eq 25, 3) := by decide +kernel
theorem dX12_law_8 : decode cX12_law 8 = .ok (.aload_n 0, 1) := by decide +kernel
theorem dX12_law_9 : decode cX12_law 9 = .ok (.iload_n 2, 1) := by decide +kernel
theorem dX12_law_10 : decode cX12_law 10 = .ok (.bipush 120, 2) := by decide +kernel
theorem dX12_law_12 : decode cX12_law 12 = .ok (.invokevirtual 246, 3) := by decide +kernel
theorem dX12_law_15 : decode cX12_law 15 = .ok (.ifCond .eq 15, 3) := by decide +kernel
theorem dX12_law_18 : decode cX12_law 18 = .ok (.aload_n 0, 1) := by decide +kernel
theorem dX12_law_19 : decode cX12_law 19 = .ok (.iconst 0, 1) := by decide +kernel
theorem dX12_law_20 : decode cX12_law 20 = .ok (.iload_n 1, 1) := by decide +kernel
theorem dX12_law_21 : decode cX12_law 21 = .ok (.iadd, 1) := by decide +kernel
theorem dX12_law_22 : decode cX12_law 22 = .ok (.iload_n 2, 1) := by decide +kernel
theorem dX12_law_23 : decode cX12_law 23 = .ok (.iconst 1, 1) := by decide +kernel
theorem dX12_law_30 : decode cX12_law 30 = .ok (.iconst (-1), 1) := by decide +kernel
theorem dX12_law_31 : decode cX12_law 31 = .ok (.ireturn, 1) := by decide +kernel
theorem dX12_way_0 : decode cX12_way 0 = .ok (.iload_n 1, 1) := by decide +kernel
theorem dX12_way_1 : decode cX12_way 1 = .ok (.invokestatic 254, 3) := by decide +kernel
theorem dX12_way_4 : decode cX12_way 4 = .ok (.ifCond .eq 26, 3) := by decide +kernel
theorem dX12_way_7 : decode cX12_way 7 = .ok (.aload_n 0, 1) := by decide +kernel
theorem dX12_way_8 : decode cX12_way 8 = .ok (.iload_n 2, 1) := by decide +kernel
theorem dX12_way_9 : decode cX12_way 9 = .ok (.bipush 120, 2) := by decide +kernel
theorem dX12_way_11 : decode cX12_way 11 = .ok (.invokevirtual 246, 3) := by decide +kernel
theorem dX12_way_14 : decode cX12_way 14 = .ok (.ifCond .eq 16, 3) := by decide +kernel
theorem dX12_way_17 : decode cX12_way 17 = .ok (.aload_n 0, 1) := by decide +kernel
theorem dX12_way_18 : decode cX12_way 18 = .ok (.bipush 10, 2) := by decide +kernel
theorem dX12_way_20 : decode cX12_way 20 = .ok (.iload_n 1, 1) := by decide +kernel
theorem dX12_way_21 : decode cX12_way 21 = .ok (.iadd, 1) := by decide +kernel
theorem dX12_way_22 : decode cX12_way 22 = .ok (.iload_n 2, 1) := by decide +kernel
theorem dX12_way_23 : decode cX12_way 23 = .ok (.iconst 0, 1) := by decide +kernel
theorem dX12_way_30 : decode cX12_way 30 = .ok (.iconst (-1), 1) := by decide +kernel
theorem dX12_way_31 : decode cX12_way 31 = .ok (.ireturn, 1) := by decide +kernel
theorem dX12_isTale_0 : decode cX12_isTale 0 = .ok (.iload_n 0, 1) := by decide +kernel
theorem dX12_isTale_1 : decode cX12_isTale 1 = .ok (.i2l, 1) := by decide +kernel
theorem dX12_isTale_2 : decode cX12_isTale 2 = .ok (.lconst 0, 1) := by decide +kernel
theorem dX12_isTale_3 : decode cX12_isTale 3 = .ok (.ldc2_w 257, 3) := by decide +kernel
theorem dX12_isTale_6 : decode cX12_isTale 6 = .ok (.invokestatic 159, 3) := by decide +kernel
theorem dX12_isTale_9 : decode cX12_isTale 9 = .ok (.ireturn, 1) := by decide +kernel
theorem dX12_story_0 : decode cX12_story 0 = .ok (.iload_n 1, 1) := by decide +kernel
theorem dX12_story_1 : decode cX12_story 1 = .ok (.invokestatic 259, 3) := by decide +kernel
theorem dX12_story_4 : decode cX12_story 4 = .ok (.ifCond .eq 13, 3) := by decide +kernel
theorem dX12_story_7 : decode cX12_story 7 = .ok (.aload_n 0, 1) := by decide +kernel
theorem dX12_story_8 : decode cX12_story 8 = .ok (.iload_n 2, 1) := by decide +kernel
theorem dX12_story_9 : decode cX12_story 9 = .ok (.bipush 60, 2) := by decide +kernel
theorem dX12_story_11 : decode cX12_story 11 = .ok (.invokevirtual 246, 3) := by decide +kernel
theorem dX12_story_14 : decode cX12_story 14 = .ok (.ifCond .ne 5, 3) := by decide +kernel
theorem dX12_story_17 : decode cX12_story 17 = .ok (.iconst (-1), 1) := by decide +kernel
theorem dX12_story_18 : decode cX12_story 18 = .ok (.ireturn, 1) := by decide +kernel
theorem dX12_story_19 : decode cX12_story 19 = .ok (.aload_n 0, 1) := by decide +kernel
theorem dX12_story_20 : decode cX12_story 20 = .ok (.iload_n 2, 1) := by decide +kernel
theorem dX12_clears_0 : decode cX12_clears 0 = .ok (.aload_n 0, 1) := by decide +kernel
theorem dX12_clears_1 : decode cX12_clears 1 = .ok (.iconst 0, 1) := by decide +kernel
theorem dX12_clears_2 : decode cX12_clears 2 = .ok (.putfield 262, 3) := by decide +kernel
theorem dX12_clears_5 : decode cX12_clears 5 = .ok (.aload_n 0, 1) := by decide +kernel
theorem dX12_clears_6 : decode cX12_clears 6 = .ok (.iconst 0, 1) := by decide +kernel
theorem dX12_clears_7 : decode cX12_clears 7 = .ok (.putfield 265, 3) := by decide +kernel
theorem dX12_clears_10 : decode cX12_clears 10 = .ok (.aload_n 0, 1) := by decide +kernel
theorem dX12_clears_11 : decode cX12_clears 11 = .ok (.iconst 0, 1) := by decide +kernel
theorem dX12_clears_12 : decode cX12_clears 12 = .ok (.putfield 268, 3) := by decide +kernel
theorem dX12_clears_15 : decode cX12_clears 15 = .ok (.aload_n 0, 1) := by decide +kernel
theorem dX12_clears_16 : decode cX12_clears 16 = .ok (.iconst 0, 1) := by decide +kernel
theorem dX12_clears_17 : decode cX12_clears 17 = .ok (.putfield 271, 3) := by decide +kernel
theorem dX12_clears_20 : decode cX12_clears 20 = .ok (.aload_n 0, 1) := by decide +kernel
theorem dX12_clears_21 : decode cX12_clears 21 = .ok (.iconst 0, 1) := by decide +kernel
theorem dX12_clears_22 : decode cX12_clears 22 = .ok (.putfield 274, 3) := by decide +kernel
theorem dX12_clears_25 : decode cX12_clears 25 = .ok (.aload_n 0, 1) := by decide +kernel
theorem dX12_clears_26 : decode cX12_clears 26 = .ok (.iconst 0, 1) := by decide +kernel
theorem dX12_clears_27 : decode cX12_clears 27 = .ok (.putfield 277, 3) := by decide +kernel
theorem dX12_clears_30 : decode cX12_clears 30 = .ok (.aload_n 0, 1) := by decide +kernel
theorem dX12_clears_31 : decode cX12_clears 31 = .ok (.iconst 0, 1) := by decide +kernel
theorem dX12_clears_32 : decode cX12_clears 32 = .ok (.putfield 280, 3) := by decide +kernel
theorem dX12_clears_35 : decode cX12_clears 35 = .ok (.aload_n 0, 1) := by decide +kernel
theorem dX12_clears_36 : decode cX12_clears 36 = .ok (.iconst 0, 1) := by decide +kernel
theorem dX12_clears_37 : decode cX12_clears 37 = .ok (.putfield 283, 3) := by decide +kernel
theorem dX12_clears_40 : decode cX12_clears 40 = .ok (.aload_n 0, 1) := by decide +kernel
theorem dX12_clears_41 : decode cX12_clears 41 = .ok (.iconst 0, 1) := by decide +kernel
theorem dX12_clears_42 : decode cX12_clears 42 = .ok (.putfield 286, 3) := by decide +kernel
theorem dX12_clears_45 : decode cX12_clears 45 = .ok (.aload_n 0, 1) := by decide +kernel
theorem dX12_clears_46 : decode cX12_clears 46 = .ok (.iconst 0, 1) := by decide +kernel
theorem dX12_clears_47 : decode cX12_clears 47 = .ok (.putfield 289, 3) := by decide +kernel
theorem dX12_clears_50 : decode cX12_clears 50 = .ok (.aload_n 0, 1) := by decide +kernel
theorem dX12_clears_51 : decode cX12_clears 51 = .ok (.iconst 0, 1) := by decide +kernel
theorem dX12_clears_52 : decode cX12_clears 52 = .ok (.putfield 292, 3) := by decide +kernel
theorem dX12_clears_55 : decode cX12_clears 55 = .ok (.aload_n 0, 1) := by decide +kernel
theorem dX12_clears_56 : decode cX12_clears 56 = .ok (.iconst 0, 1) := by decide +kernel
theorem dX12_clears_57 : decode cX12_clears 57 = .ok (.putfield 295, 3) := by decide +kernel
theorem dX12_clears_60 : decode cX12_clears 60 = .ok (.aload_n 0, 1) := by decide +kernel
theorem dX12_clears_61 : decode cX12_clears 61 = .ok (.iconst 0, 1) := by decide +kernel
theorem dX12_clears_62 : decode cX12_clears 62 = .ok (.putfield 298, 3) := by decide +kernel
theorem dX12_clears_65 : decode cX12_clears 65 = .ok (.return_, 1) := by decide +kernel
theorem dX12_isDay_0 : decode cX12_isDay 0 = .ok (.iload_n 0, 1) := by decide +kernel
theorem dX12_isDay_1 : decode cX12_isDay 1 = .ok (.i2l, 1) := by decide +kernel
theorem dX12_isDay_2 : decode cX12_isDay 2 = .ok (.lconst 0, 1) := by decide +kernel
theorem dX12_isDay_3 : decode cX12_isDay 3 = .ok (.ldc2_w 315, 3) := by decide +kernel
theorem dX12_isDay_6 : decode cX12_isDay 6 = .ok (.invokestatic 159, 3) := by decide +kernel
theorem dX12_isDay_9 : decode cX12_isDay 9 = .ok (.ireturn, 1) := by decide +kernel
theorem dX12_isMinute_0 : decode cX12_isMinute 0 = .ok (.iload_n 0, 1) := by decide +kernel
theorem dX12_isMinute_1 : decode cX12_isMinute 1 = .ok (.i2l, 1) := by decide +kernel
theorem dX12_isMinute_2 : decode cX12_isMinute 2 = .ok (.lconst 0, 1) := by decide +kernel
theorem dX12_isMinute_3 : decode cX12_isMinute 3 = .ok (.ldc2_w 317, 3) := by decide +kernel
theorem dX12_isMinute_6 : decode cX12_isMinute 6 = .ok (.invokestatic 159, 3) := by decide +kernel
theorem dX12_isMinute_9 : decode cX12_isMinute 9 = .ok (.ireturn, 1) := by decide +kernel
theorem dX12_source_0 : decode cX12_source 0 = .ok (.aload_n 0, 1) := by decide +kernel
theorem dX12_source_1 : decode cX12_source 1 = .ok (.getfield 238, 3) := by decide +kernel
theorem dX12_source_4 : decode cX12_source 4 = .ok (.bipush 10, 2) := by decide +kernel
theorem dX12_source_6 : decode cX12_source 6 = .ok (.if_icmp .eq 48, 3) := by decide +kernel
theorem dX12_source_9 : decode cX12_source 9 = .ok (.iload_n 2, 1) := by decide +kernel
theorem dX12_source_10 : decode cX12_source 10 = .ok (.invokestatic 319, 3) := by decide +kernel
theorem dX12_source_13 : decode cX12_source 13 = .ok (.ifCond .eq 41, 3) := by decide +kernel
theorem dX12_source_16 : decode cX12_source 16 = .ok (.iload_n 3, 1) := by decide +kernel
theorem dX12_source_17 : decode cX12_source 17 = .ok (.i2l, 1) := by decide +kernel
theorem dX12_source_18 : decode cX12_source 18 = .ok (.lconst 0, 1) := by decide +kernel
theorem dX12_source_19 : decode cX12_source 19 = .ok (.ldc2_w 322, 3) := by decide +kernel
theorem dX12_source_22 : decode cX12_source 22 = .ok (.invokestatic 159, 3) := by decide +kernel
theorem dX12_source_25 : decode cX12_source 25 = .ok (.ifCond .eq 29, 3) := by decide +kernel
theorem dX12_source_28 : decode cX12_source 28 = .ok (.iload 4, 2) := by decide +kernel
theorem dX12_source_30 : decode cX12_source 30 = .ok (.i2l, 1) := by decide +kernel
theorem dX12_source_31 : decode cX12_source 31 = .ok (.lconst 0, 1) := by decide +kernel
theorem dX12_source_32 : decode cX12_source 32 = .ok (.ldc2_w 241, 3) := by decide +kernel
theorem dX12_source_35 : decode cX12_source 35 = .ok (.invokestatic 159, 3) := by decide +kernel
theorem dX12_source_38 : decode cX12_source 38 = .ok (.ifCond .eq 16, 3) := by decide +kernel
theorem dX12_source_41 : decode cX12_source 41 = .ok (.iload 5, 2) := by decide +kernel
theorem dX12_source_43 : decode cX12_source 43 = .ok (.i2l, 1) := by decide +kernel
theorem dX12_source_44 : decode cX12_source 44 = .ok (.lconst 0, 1) := by decide +kernel
theorem dX12_source_45 : decode cX12_source 45 = .ok (.ldc2_w 324, 3) := by decide +kernel
theorem dX12_source_48 : decode cX12_source 48 = .ok (.invokestatic 159, 3) := by decide +kernel
theorem dX12_source_51 : decode cX12_source 51 = .ok (.ifCond .ne 5, 3) := by decide +kernel
theorem dX12_source_54 : decode cX12_source 54 = .ok (.iconst (-1), 1) := by decide +kernel
theorem dX12_source_55 : decode cX12_source 55 = .ok (.ireturn, 1) := by decide +kernel
theorem dX12_source_56 : decode cX12_source 56 = .ok (.aload_n 0, 1) := by decide +kernel
theorem dX12_source_57 : decode cX12_source 57 = .ok (.getfield 57, 3) := by decide +kernel
theorem dX12_source_60 : decode cX12_source 60 = .ok (.aload_n 0, 1) := by decide +kernel
theorem dX12_source_61 : decode cX12_source 61 = .ok (.getfield 238, 3) := by decide +kernel
theorem dX12_source_64 : decode cX12_source 64 = .ok (.iload_n 1, 1) := by decide +kernel
theorem dX12_source_65 : decode cX12_source 65 = .ok (.bastore, 1) := by decide +kernel
theorem dX12_source_66 : decode cX12_source 66 = .ok (.aload_n 0, 1) := by decide +kernel
theorem dX12_source_67 : decode cX12_source 67 = .ok (.getfield 60, 3) := by decide +kernel
theorem dX12_source_70 : decode cX12_source 70 = .ok (.aload_n 0, 1) := by decide +kernel
theorem dX12_source_71 : decode cX12_source 71 = .ok (.getfield 238, 3) := by decide +kernel
theorem dX12_source_74 : decode cX12_source 74 = .ok (.iload_n 2, 1) := by decide +kernel
theorem dX12_source_75 : decode cX12_source 75 = .ok (.iastore, 1) := by decide +kernel
theorem dX12_source_76 : decode cX12_source 76 = .ok (.aload_n 0, 1) := by decide +kernel
theorem dX12_source_77 : decode cX12_source 77 = .ok (.getfield 63, 3) := by decide +kernel
theorem dX12_source_80 : decode cX12_source 80 = .ok (.aload_n 0, 1) := by decide +kernel
theorem dX12_source_81 : decode cX12_source 81 = .ok (.getfield 238, 3) := by decide +kernel
theorem dX12_source_84 : decode cX12_source 84 = .ok (.iload_n 3, 1) := by decide +kernel
theorem dX12_source_85 : decode cX12_source 85 = .ok (.iastore, 1) := by decide +kernel
theorem dX12_source_86 : decode cX12_source 86 = .ok (.aload_n 0, 1) := by decide +kernel
theorem dX12_source_87 : decode cX12_source 87 = .ok (.getfield 66, 3) := by decide +kernel
theorem dX12_source_90 : decode cX12_source 90 = .ok (.aload_n 0, 1) := by decide +kernel
theorem dX12_source_91 : decode cX12_source 91 = .ok (.getfield 238, 3) := by decide +kernel
theorem dX12_source_94 : decode cX12_source 94 = .ok (.iload 4, 2) := by decide +kernel
theorem dX12_source_96 : decode cX12_source 96 = .ok (.iastore, 1) := by decide +kernel
theorem dX12_source_97 : decode cX12_source 97 = .ok (.aload_n 0, 1) := by decide +kernel
theorem dX12_source_98 : decode cX12_source 98 = .ok (.getfield 69, 3) := by decide +kernel
theorem dX12_source_101 : decode cX12_source 101 = .ok (.aload_n 0, 1) := by decide +kernel
theorem dX12_source_102 : decode cX12_source 102 = .ok (.getfield 238, 3) := by decide +kernel
theorem dX12_source_105 : decode cX12_source 105 = .ok (.iload 5, 2) := by decide +kernel
theorem dX12_source_107 : decode cX12_source 107 = .ok (.iastore, 1) := by decide +kernel
theorem dX12_source_108 : decode cX12_source 108 = .ok (.aload_n 0, 1) := by decide +kernel
theorem dX12_source_109 : decode cX12_source 109 = .ok (.dup, 1) := by decide +kernel
theorem dX12_source_110 : decode cX12_source 110 = .ok (.getfield 238, 3) := by decide +kernel
theorem dX12_source_113 : decode cX12_source 113 = .ok (.iconst 1, 1) := by decide +kernel
theorem dX12_source_114 : decode cX12_source 114 = .ok (.iadd, 1) := by decide +kernel
theorem dX12_source_115 : decode cX12_source 115 = .ok (.putfield 238, 3) := by decide +kernel
theorem dX12_source_118 : decode cX12_source 118 = .ok (.aload_n 0, 1) := by decide +kernel
theorem dX12_source_119 : decode cX12_source 119 = .ok (.getfield 238, 3) := by decide +kernel
theorem dX12_source_122 : decode cX12_source 122 = .ok (.iconst 1, 1) := by decide +kernel
theorem dX12_source_123 : decode cX12_source 123 = .ok (.isub, 1) := by decide +kernel
theorem dX12_source_124 : decode cX12_source 124 = .ok (.ireturn, 1) := by decide +kernel
theorem dX12_seed_0 : decode cX12_seed 0 = .ok (.iload_n 1, 1) := by decide +kernel
theorem dX12_seed_1 : decode cX12_seed 1 = .ok (.i2l, 1) := by decide +kernel
theorem dX12_seed_2 : decode cX12_seed 2 = .ok (.lconst 0, 1) := by decide +kernel
theorem dX12_seed_3 : decode cX12_seed 3 = .ok (.ldc2_w 326, 3) := by decide +kernel
theorem dX12_seed_6 : decode cX12_seed 6 = .ok (.invokestatic 159, 3) := by decide +kernel
theorem dX12_seed_9 : decode cX12_seed 9 = .ok (.ifCond .ne 5, 3) := by decide +kernel
theorem dX12_seed_12 : decode cX12_seed 12 = .ok (.iconst 0, 1) := by decide +kernel
theorem dX12_seed_13 : decode cX12_seed 13 = .ok (.ireturn, 1) := by decide +kernel
theorem dX12_seed_14 : decode cX12_seed 14 = .ok (.aload_n 0, 1) := by decide +kernel
theorem dX12_seed_15 : decode cX12_seed 15 = .ok (.iload_n 1, 1) := by decide +kernel
theorem dX12_seed_16 : decode cX12_seed 16 = .ok (.putfield 328, 3) := by decide +kernel
theorem dX12_seed_19 : decode cX12_seed 19 = .ok (.iconst 1, 1) := by decide +kernel
theorem dX12_seed_20 : decode cX12_seed 20 = .ok (.ireturn, 1) := by decide +kernel
theorem dX12_starAt_0 : decode cX12_starAt 0 = .ok (.iload_n 1, 1) := by decide +kernel
theorem dX12_starAt_1 : decode cX12_starAt 1 = .ok (.iconst 4, 1) := by decide +kernel
theorem dX12_starAt_2 : decode cX12_starAt 2 = .ok (.iload_n 0, 1) := by decide +kernel
theorem dX12_starAt_3 : decode cX12_starAt 3 = .ok (.imul, 1) := by decide +kernel
theorem dX12_starAt_4 : decode cX12_starAt 4 = .ok (.iadd, 1) := by decide +kernel
theorem dX12_starAt_5 : decode cX12_starAt 5 = .ok (.sipush 1440, 3) := by decide +kernel
theorem dX12_starAt_8 : decode cX12_starAt 8 = .ok (.irem, 1) := by decide +kernel
theorem dX12_starAt_9 : decode cX12_starAt 9 = .ok (.ireturn, 1) := by decide +kernel
theorem dX12_star_0 : decode cX12_star 0 = .ok (.iload_n 1, 1) := by decide +kernel
theorem dX12_star_1 : decode cX12_star 1 = .ok (.invokestatic 331, 3) := by decide +kernel
theorem dX12_star_4 : decode cX12_star 4 = .ok (.ifCond .eq 18, 3) := by decide +kernel
theorem dX12_star_7 : decode cX12_star 7 = .ok (.iload_n 2, 1) := by decide +kernel
theorem dX12_star_8 : decode cX12_star 8 = .ok (.invokestatic 319, 3) := by decide +kernel
theorem dX12_star_11 : decode cX12_star 11 = .ok (.ifCond .eq 11, 3) := by decide +kernel
theorem dX12_star_14 : decode cX12_star 14 = .ok (.iload_n 1, 1) := by decide +kernel
theorem dX12_star_15 : decode cX12_star 15 = .ok (.iload_n 2, 1) := by decide +kernel
theorem dX12_star_16 : decode cX12_star 16 = .ok (.invokestatic 334, 3) := by decide +kernel
theorem dX12_star_19 : decode cX12_star 19 = .ok (.goto 4, 3) := by decide +kernel
theorem dX12_star_22 : decode cX12_star 22 = .ok (.iconst (-1), 1) := by decide +kernel
theorem dX12_star_23 : decode cX12_star 23 = .ok (.ireturn, 1) := by decide +kernel
theorem dX12_height_0 : decode cX12_height 0 = .ok (.aload_n 0, 1) := by decide +kernel
theorem dX12_height_1 : decode cX12_height 1 = .ok (.iload_n 1, 1) := by decide +kernel
theorem dX12_height_2 : decode cX12_height 2 = .ok (.invokevirtual 243, 3) := by decide +kernel
theorem dX12_height_5 : decode cX12_height 5 = .ok (.ifCond .eq 27, 3) := by decide +kernel
theorem dX12_height_8 : decode cX12_height 8 = .ok (.iload_n 2, 1) := by decide +kernel
theorem dX12_height_9 : decode cX12_height 9 = .ok (.invokestatic 331, 3) := by decide +kernel
theorem dX12_height_12 : decode cX12_height 12 = .ok (.ifCond .eq 20, 3) := by decide +kernel
theorem dX12_height_15 : decode cX12_height 15 = .ok (.iload_n 3, 1) := by decide +kernel
theorem dX12_height_16 : decode cX12_height 16 = .ok (.invokestatic 319, 3) := by decide +kernel
theorem dX12_height_19 : decode cX12_height 19 = .ok (.ifCond .eq 13, 3) := by decide +kernel
theorem dX12_height_22 : decode cX12_height 22 = .ok (.aload_n 0, 1) := by decide +kernel
theorem dX12_height_23 : decode cX12_height 23 = .ok (.iload_n 1, 1) := by decide +kernel
theorem dX12_height_24 : decode cX12_height 24 = .ok (.iload_n 2, 1) := by decide +kernel
theorem dX12_height_25 : decode cX12_height 25 = .ok (.iload_n 3, 1) := by decide +kernel
theorem dX12_height_32 : decode cX12_height 32 = .ok (.iconst (-1), 1) := by decide +kernel
theorem dX12_height_33 : decode cX12_height 33 = .ok (.ireturn, 1) := by decide +kernel
theorem dX12_looks_0 : decode cX12_looks 0 = .ok (.aload_n 0, 1) := by decide +kernel
theorem dX12_looks_1 : decode cX12_looks 1 = .ok (.iconst 0, 1) := by decide +kernel
theorem dX12_looks_2 : decode cX12_looks 2 = .ok (.putfield 372, 3) := by decide +kernel
theorem dX12_looks_5 : decode cX12_looks 5 = .ok (.aload_n 0, 1) := by decide +kernel
theorem dX12_looks_6 : decode cX12_looks 6 = .ok (.iconst 4, 1) := by decide +kernel
theorem dX12_looks_7 : decode cX12_looks 7 = .ok (.putfield 375, 3) := by decide +kernel
theorem dX12_looks_10 : decode cX12_looks 10 = .ok (.iconst 0, 1) := by decide +kernel
theorem dX12_looks_11 : decode cX12_looks 11 = .ok (.istore_n 3, 1) := by decide +kernel
theorem dX12_looks_12 : decode cX12_looks 12 = .ok (.iconst 0, 1) := by decide +kernel
theorem dX12_looks_13 : decode cX12_looks 13 = .ok (.istore 4, 2) := by decide +kernel
theorem dX12_looks_15 : decode cX12_looks 15 = .ok (.iload 4, 2) := by decide +kernel
theorem dX12_looks_17 : decode cX12_looks 17 = .ok (.aload_n 0, 1) := by decide +kernel
theorem dX12_looks_18 : decode cX12_looks 18 = .ok (.getfield 238, 3) := by decide +kernel
theorem dX12_looks_21 : decode cX12_looks 21 = .ok (.if_icmp .ge 53, 3) := by decide +kernel
theorem dX12_looks_24 : decode cX12_looks 24 = .ok (.aload_n 0, 1) := by decide +kernel
theorem dX12_looks_25 : decode cX12_looks 25 = .ok (.iload 4, 2) := by decide +kernel
theorem dX12_looks_27 : decode cX12_looks 27 = .ok (.iload_n 1, 1) := by decide +kernel
theorem dX12_looks_28 : decode cX12_looks 28 = .ok (.iload_n 2, 1) := by decide +kernel
theorem dX12_looks_74 : decode cX12_looks 74 = .ok (.return_, 1) := by decide +kernel
theorem dX12_paper_0 : decode cX12_paper 0 = .ok (.iload_n 1, 1) := by decide +kernel
theorem dX12_paper_1 : decode cX12_paper 1 = .ok (.invokestatic 331, 3) := by decide +kernel
theorem dX12_paper_4 : decode cX12_paper 4 = .ok (.ifCond .eq 20, 3) := by decide +kernel
theorem dX12_paper_7 : decode cX12_paper 7 = .ok (.iload_n 2, 1) := by decide +kernel
theorem dX12_paper_8 : decode cX12_paper 8 = .ok (.invokestatic 319, 3) := by decide +kernel
theorem dX12_paper_11 : decode cX12_paper 11 = .ok (.ifCond .eq 13, 3) := by decide +kernel
theorem dX12_paper_14 : decode cX12_paper 14 = .ok (.iload_n 3, 1) := by decide +kernel
theorem dX12_paper_15 : decode cX12_paper 15 = .ok (.i2l, 1) := by decide +kernel
theorem dX12_paper_16 : decode cX12_paper 16 = .ok (.lconst 0, 1) := by decide +kernel
theorem dX12_paper_17 : decode cX12_paper 17 = .ok (.lconst 1, 1) := by decide +kernel
theorem dX12_paper_18 : decode cX12_paper 18 = .ok (.invokestatic 159, 3) := by decide +kernel
theorem dX12_paper_21 : decode cX12_paper 21 = .ok (.ifCond .ne 5, 3) := by decide +kernel
theorem dX12_paper_24 : decode cX12_paper 24 = .ok (.iconst (-1), 1) := by decide +kernel
theorem dX12_paper_25 : decode cX12_paper 25 = .ok (.ireturn, 1) := by decide +kernel
theorem dX12_paper_26 : decode cX12_paper 26 = .ok (.aload_n 0, 1) := by decide +kernel
theorem dX12_paper_27 : decode cX12_paper 27 = .ok (.iload_n 1, 1) := by decide +kernel
theorem dX12_paper_28 : decode cX12_paper 28 = .ok (.iload_n 2, 1) := by decide +kernel
theorem dX12_paper_29 : decode cX12_paper 29 = .ok (.invokevirtual 378, 3) := by decide +kernel
theorem dX12_paper_32 : decode cX12_paper 32 = .ok (.iload_n 3, 1) := by decide +kernel
theorem dX12_paper_33 : decode cX12_paper 33 = .ok (.ifCond .ne 10, 3) := by decide +kernel
theorem dX12_paper_36 : decode cX12_paper 36 = .ok (.aload_n 0, 1) := by decide +kernel
theorem dX12_paper_37 : decode cX12_paper 37 = .ok (.getfield 372, 3) := by decide +kernel
theorem dX12_paper_40 : decode cX12_paper 40 = .ok (.goto 7, 3) := by decide +kernel
theorem dX12_paper_43 : decode cX12_paper 43 = .ok (.aload_n 0, 1) := by decide +kernel
theorem dX12_paper_44 : decode cX12_paper 44 = .ok (.getfield 375, 3) := by decide +kernel
theorem dX12_paper_47 : decode cX12_paper 47 = .ok (.ireturn, 1) := by decide +kernel
theorem dX12_lays_0 : decode cX12_lays 0 = .ok (.iconst 0, 1) := by decide +kernel
theorem dX12_lays_1 : decode cX12_lays 1 = .ok (.istore_n 2, 1) := by decide +kernel
theorem dX12_lays_2 : decode cX12_lays 2 = .ok (.iload_n 2, 1) := by decide +kernel
theorem dX12_lays_3 : decode cX12_lays 3 = .ok (.sipush 1440, 3) := by decide +kernel
theorem dX12_lays_6 : decode cX12_lays 6 = .ok (.if_icmp .ge 35, 3) := by decide +kernel
theorem dX12_lays_9 : decode cX12_lays 9 = .ok (.aload_n 0, 1) := by decide +kernel
theorem dX12_lays_10 : decode cX12_lays 10 = .ok (.iload_n 1, 1) := by decide +kernel
theorem dX12_lays_11 : decode cX12_lays 11 = .ok (.iload_n 2, 1) := by decide +kernel
theorem dX12_lays_12 : decode cX12_lays 12 = .ok (.invokevirtual 378, 3) := by decide +kernel
theorem dX12_lays_15 : decode cX12_lays 15 = .ok (.aload_n 0, 1) := by decide +kernel
theorem dX12_lays_16 : decode cX12_lays 16 = .ok (.getfield 72, 3) := by decide +kernel
theorem dX12_lays_19 : decode cX12_lays 19 = .ok (.iload_n 2, 1) := by decide +kernel
theorem dX12_lays_20 : decode cX12_lays 20 = .ok (.aload_n 0, 1) := by decide +kernel
theorem dX12_lays_21 : decode cX12_lays 21 = .ok (.getfield 372, 3) := by decide +kernel
theorem dX12_lays_24 : decode cX12_lays 24 = .ok (.iastore, 1) := by decide +kernel
theorem dX12_lays_25 : decode cX12_lays 25 = .ok (.aload_n 0, 1) := by decide +kernel
theorem dX12_lays_26 : decode cX12_lays 26 = .ok (.getfield 75, 3) := by decide +kernel
theorem dX12_lays_29 : decode cX12_lays 29 = .ok (.iload_n 2, 1) := by decide +kernel
theorem dX12_lays_30 : decode cX12_lays 30 = .ok (.aload_n 0, 1) := by decide +kernel
theorem dX12_lays_31 : decode cX12_lays 31 = .ok (.getfield 375, 3) := by decide +kernel
theorem dX12_lays_34 : decode cX12_lays 34 = .ok (.iastore, 1) := by decide +kernel
theorem dX12_lays_35 : decode cX12_lays 35 = .ok (.iinc 2 1, 3) := by decide +kernel
theorem dX12_lays_38 : decode cX12_lays 38 = .ok (.goto (-36), 3) := by decide +kernel
theorem dX12_lays_41 : decode cX12_lays 41 = .ok (.return_, 1) := by decide +kernel
theorem dX12_isMarked_0 : decode cX12_isMarked 0 = .ok (.aload_n 0, 1) := by decide +kernel
theorem dX12_isMarked_1 : decode cX12_isMarked 1 = .ok (.invokevirtual 357, 3) := by decide +kernel
theorem dX12_isMarked_4 : decode cX12_isMarked 4 = .ok (.aload_n 0, 1) := by decide +kernel
theorem dX12_isMarked_5 : decode cX12_isMarked 5 = .ok (.aload_n 0, 1) := by decide +kernel
theorem dX12_isMarked_6 : decode cX12_isMarked 6 = .ok (.getfield 72, 3) := by decide +kernel
theorem dX12_isMarked_9 : decode cX12_isMarked 9 = .ok (.iload_n 3, 1) := by decide +kernel
theorem dX12_isMarked_10 : decode cX12_isMarked 10 = .ok (.iaload, 1) := by decide +kernel
theorem dX12_isMarked_11 : decode cX12_isMarked 11 = .ok (.putfield 277, 3) := by decide +kernel
theorem dX12_isMarked_14 : decode cX12_isMarked 14 = .ok (.aload_n 0, 1) := by decide +kernel
theorem dX12_isMarked_15 : decode cX12_isMarked 15 = .ok (.iload_n 3, 1) := by decide +kernel
theorem dX12_isMarked_16 : decode cX12_isMarked 16 = .ok (.ifCond .ne 7, 3) := by decide +kernel
theorem dX12_isMarked_19 : decode cX12_isMarked 19 = .ok (.iconst 0, 1) := by decide +kernel
theorem dX12_isMarked_20 : decode cX12_isMarked 20 = .ok (.goto 11, 3) := by decide +kernel
theorem dX12_isMarked_23 : decode cX12_isMarked 23 = .ok (.aload_n 0, 1) := by decide +kernel
theorem dX12_isMarked_24 : decode cX12_isMarked 24 = .ok (.getfield 72, 3) := by decide +kernel
theorem dX12_isMarked_27 : decode cX12_isMarked 27 = .ok (.iload_n 3, 1) := by decide +kernel
theorem dX12_isMarked_28 : decode cX12_isMarked 28 = .ok (.iconst 1, 1) := by decide +kernel
theorem dX12_isMarked_29 : decode cX12_isMarked 29 = .ok (.isub, 1) := by decide +kernel
theorem dX12_isMarked_30 : decode cX12_isMarked 30 = .ok (.iaload, 1) := by decide +kernel
theorem dX12_isMarked_31 : decode cX12_isMarked 31 = .ok (.putfield 265, 3) := by decide +kernel
theorem dX12_isMarked_34 : decode cX12_isMarked 34 = .ok (.iload_n 3, 1) := by decide +kernel
theorem dX12_isMarked_35 : decode cX12_isMarked 35 = .ok (.bipush 10, 2) := by decide +kernel
theorem dX12_isMarked_37 : decode cX12_isMarked 37 = .ok (.if_icmp .ge 7, 3) := by decide +kernel
theorem dX12_isMarked_40 : decode cX12_isMarked 40 = .ok (.iconst 0, 1) := by decide +kernel
theorem dX12_isMarked_41 : decode cX12_isMarked 41 = .ok (.goto 7, 3) := by decide +kernel
theorem dX12_isMarked_44 : decode cX12_isMarked 44 = .ok (.iload_n 3, 1) := by decide +kernel
theorem dX12_isMarked_45 : decode cX12_isMarked 45 = .ok (.bipush 10, 2) := by decide +kernel
theorem dX12_isMarked_47 : decode cX12_isMarked 47 = .ok (.isub, 1) := by decide +kernel
theorem dX12_isMarked_48 : decode cX12_isMarked 48 = .ok (.istore 5, 2) := by decide +kernel
theorem dX12_isMarked_50 : decode cX12_isMarked 50 = .ok (.iload 5, 2) := by decide +kernel
theorem dX12_isMarked_52 : decode cX12_isMarked 52 = .ok (.iload_n 3, 1) := by decide +kernel
theorem dX12_isMarked_53 : decode cX12_isMarked 53 = .ok (.if_icmp .ge 41, 3) := by decide +kernel
theorem dX12_isMarked_56 : decode cX12_isMarked 56 = .ok (.aload_n 0, 1) := by decide +kernel
theorem dX12_isMarked_57 : decode cX12_isMarked 57 = .ok (.aload_n 0, 1) := by decide +kernel
theorem dX12_isMarked_58 : decode cX12_isMarked 58 = .ok (.getfield 72, 3) := by decide +kernel
theorem dX12_isMarked_61 : decode cX12_isMarked 61 = .ok (.iload 5, 2) := by decide +kernel
theorem dX12_isMarked_63 : decode cX12_isMarked 63 = .ok (.iaload, 1) := by decide +kernel
theorem dX12_isMarked_64 : decode cX12_isMarked 64 = .ok (.aload_n 0, 1) := by decide +kernel
theorem dX12_isMarked_65 : decode cX12_isMarked 65 = .ok (.getfield 274, 3) := by decide +kernel
theorem dX12_isMarked_68 : decode cX12_isMarked 68 = .ok (.if_icmp .le 13, 3) := by decide +kernel
theorem dX12_isMarked_71 : decode cX12_isMarked 71 = .ok (.aload_n 0, 1) := by decide +kernel
theorem dX12_isMarked_72 : decode cX12_isMarked 72 = .ok (.getfield 72, 3) := by decide +kernel
theorem dX12_isMarked_75 : decode cX12_isMarked 75 = .ok (.iload 5, 2) := by decide +kernel
theorem dX12_isMarked_77 : decode cX12_isMarked 77 = .ok (.iaload, 1) := by decide +kernel
theorem dX12_isMarked_78 : decode cX12_isMarked 78 = .ok (.goto 7, 3) := by decide +kernel
theorem dX12_isMarked_81 : decode cX12_isMarked 81 = .ok (.aload_n 0, 1) := by decide +kernel
theorem dX12_isMarked_82 : decode cX12_isMarked 82 = .ok (.getfield 274, 3) := by decide +kernel
theorem dX12_isMarked_85 : decode cX12_isMarked 85 = .ok (.putfield 274, 3) := by decide +kernel
theorem dX12_isMarked_88 : decode cX12_isMarked 88 = .ok (.iinc 5 1, 3) := by decide +kernel
theorem dX12_isMarked_91 : decode cX12_isMarked 91 = .ok (.goto (-41), 3) := by decide +kernel
theorem dX12_isMarked_94 : decode cX12_isMarked 94 = .ok (.aload_n 0, 1) := by decide +kernel
theorem dX12_isMarked_95 : decode cX12_isMarked 95 = .ok (.aload_n 0, 1) := by decide +kernel
theorem dX12_isMarked_96 : decode cX12_isMarked 96 = .ok (.getfield 75, 3) := by decide +kernel
theorem dX12_isMarked_99 : decode cX12_isMarked 99 = .ok (.iload_n 3, 1) := by decide +kernel
theorem dX12_isMarked_100 : decode cX12_isMarked 100 = .ok (.iaload, 1) := by decide +kernel
theorem dX12_isMarked_101 : decode cX12_isMarked 101 = .ok (.putfield 280, 3) := by decide +kernel
theorem dX12_isMarked_104 : decode cX12_isMarked 104 = .ok (.aload_n 0, 1) := by decide +kernel
theorem dX12_isMarked_105 : decode cX12_isMarked 105 = .ok (.iload_n 3, 1) := by decide +kernel
theorem dX12_isMarked_106 : decode cX12_isMarked 106 = .ok (.putfield 283, 3) := by decide +kernel
theorem dX12_isMarked_109 : decode cX12_isMarked 109 = .ok (.aload_n 0, 1) := by decide +kernel
theorem dX12_isMarked_110 : decode cX12_isMarked 110 = .ok (.iload_n 2, 1) := by decide +kernel
theorem dX12_isMarked_111 : decode cX12_isMarked 111 = .ok (.iload_n 3, 1) := by decide +kernel
theorem dX12_isMarked_112 : decode cX12_isMarked 112 = .ok (.invokestatic 334, 3) := by decide +kernel
theorem dX12_isMarked_115 : decode cX12_isMarked 115 = .ok (.putfield 289, 3) := by decide +kernel
theorem dX12_isMarked_118 : decode cX12_isMarked 118 = .ok (.aload_n 0, 1) := by decide +kernel
theorem dX12_isMarked_119 : decode cX12_isMarked 119 = .ok (.iload_n 2, 1) := by decide +kernel
theorem dX12_isMarked_120 : decode cX12_isMarked 120 = .ok (.putfield 268, 3) := by decide +kernel
theorem dX12_isMarked_123 : decode cX12_isMarked 123 = .ok (.aload_n 0, 1) := by decide +kernel
theorem dX12_isMarked_124 : decode cX12_isMarked 124 = .ok (.iload_n 2, 1) := by decide +kernel
theorem dX12_isMarked_125 : decode cX12_isMarked 125 = .ok (.bipush 7, 2) := by decide +kernel
theorem dX12_isMarked_127 : decode cX12_isMarked 127 = .ok (.irem, 1) := by decide +kernel
theorem dX12_isMarked_128 : decode cX12_isMarked 128 = .ok (.putfield 271, 3) := by decide +kernel
theorem dX12_isMarked_131 : decode cX12_isMarked 131 = .ok (.aload_n 0, 1) := by decide +kernel
theorem dX12_isMarked_132 : decode cX12_isMarked 132 = .ok (.iload 4, 2) := by decide +kernel
theorem dX12_isMarked_134 : decode cX12_isMarked 134 = .ok (.putfield 292, 3) := by decide +kernel
theorem dX12_isMarked_137 : decode cX12_isMarked 137 = .ok (.bipush 12, 2) := by decide +kernel
theorem dX12_isMarked_139 : decode cX12_isMarked 139 = .ok (.bipush 10, 2) := by decide +kernel
theorem dX12_isMarked_141 : decode cX12_isMarked 141 = .ok (.iload_n 1, 1) := by decide +kernel
theorem dX12_isMarked_142 : decode cX12_isMarked 142 = .ok (.iadd, 1) := by decide +kernel
theorem dX12_isMarked_143 : decode cX12_isMarked 143 = .ok (.imul, 1) := by decide +kernel
theorem dX12_isMarked_144 : decode cX12_isMarked 144 = .ok (.istore 5, 2) := by decide +kernel
theorem dX12_isMarked_146 : decode cX12_isMarked 146 = .ok (.iload 5, 2) := by decide +kernel
theorem dX12_isMarked_148 : decode cX12_isMarked 148 = .ok (.bipush 12, 2) := by decide +kernel
theorem dX12_isMarked_150 : decode cX12_isMarked 150 = .ok (.bipush 10, 2) := by decide +kernel
theorem dX12_isMarked_152 : decode cX12_isMarked 152 = .ok (.iload_n 1, 1) := by decide +kernel
theorem dX12_isMarked_153 : decode cX12_isMarked 153 = .ok (.iadd, 1) := by decide +kernel
theorem dX12_isMarked_154 : decode cX12_isMarked 154 = .ok (.imul, 1) := by decide +kernel
theorem dX12_isMarked_155 : decode cX12_isMarked 155 = .ok (.aload_n 0, 1) := by decide +kernel
theorem dX12_isMarked_156 : decode cX12_isMarked 156 = .ok (.getfield 13, 3) := by decide +kernel
theorem dX12_isMarked_159 : decode cX12_isMarked 159 = .ok (.bipush 10, 2) := by decide +kernel
theorem dX12_isMarked_161 : decode cX12_isMarked 161 = .ok (.iload_n 1, 1) := by decide +kernel
theorem dX12_isMarked_162 : decode cX12_isMarked 162 = .ok (.iadd, 1) := by decide +kernel
theorem dX12_isMarked_163 : decode cX12_isMarked 163 = .ok (.iaload, 1) := by decide +kernel
theorem dX12_isMarked_164 : decode cX12_isMarked 164 = .ok (.iadd, 1) := by decide +kernel
theorem dX12_isMarked_165 : decode cX12_isMarked 165 = .ok (.if_icmp .ge 20, 3) := by decide +kernel
theorem dX12_isMarked_168 : decode cX12_isMarked 168 = .ok (.aload_n 0, 1) := by decide +kernel
theorem dX12_isMarked_169 : decode cX12_isMarked 169 = .ok (.iload 5, 2) := by decide +kernel
theorem dX12_isMarked_185 : decode cX12_isMarked 185 = .ok (.iconst 0, 1) := by decide +kernel
theorem dX12_isMarked_186 : decode cX12_isMarked 186 = .ok (.ireturn, 1) := by decide +kernel
theorem dX12_goesOver_0 : decode cX12_goesOver 0 = .ok (.iconst 0, 1) := by decide +kernel
theorem dX12_goesOver_1 : decode cX12_goesOver 1 = .ok (.istore 4, 2) := by decide +kernel
theorem dX12_goesOver_3 : decode cX12_goesOver 3 = .ok (.iconst 0, 1) := by decide +kernel
theorem dX12_goesOver_4 : decode cX12_goesOver 4 = .ok (.istore 5, 2) := by decide +kernel
theorem dX12_goesOver_6 : decode cX12_goesOver 6 = .ok (.iconst 0, 1) := by decide +kernel
theorem dX12_goesOver_7 : decode cX12_goesOver 7 = .ok (.istore 6, 2) := by decide +kernel
theorem dX12_goesOver_9 : decode cX12_goesOver 9 = .ok (.iload 6, 2) := by decide +kernel
theorem dX12_goesOver_11 : decode cX12_goesOver 11 = .ok (.sipush 1440, 3) := by decide +kernel
theorem dX12_goesOver_14 : decode cX12_goesOver 14 = .ok (.if_icmp .ge 146, 3) := by decide +kernel
theorem dX12_goesOver_17 : decode cX12_goesOver 17 = .ok (.aload_n 0, 1) := by decide +kernel
theorem dX12_goesOver_18 : decode cX12_goesOver 18 = .ok (.iload_n 1, 1) := by decide +kernel
theorem dX12_goesOver_19 : decode cX12_goesOver 19 = .ok (.iload_n 2, 1) := by decide +kernel
theorem dX12_goesOver_20 : decode cX12_goesOver 20 = .ok (.iload 6, 2) := by decide +kernel
theorem dX12_goesOver_22 : decode cX12_goesOver 22 = .ok (.iload 5, 2) := by decide +kernel
theorem dX12_goesOver_24 : decode cX12_goesOver 24 = .ok (.ifCond .eq 10, 3) := by decide +kernel
theorem dX12_goesOver_27 : decode cX12_goesOver 27 = .ok (.iload 4, 2) := by decide +kernel
theorem dX12_goesOver_29 : decode cX12_goesOver 29 = .ok (.iconst 1, 1) := by decide +kernel
theorem dX12_goesOver_30 : decode cX12_goesOver 30 = .ok (.isub, 1) := by decide +kernel
theorem dX12_goesOver_31 : decode cX12_goesOver 31 = .ok (.goto 5, 3) := by decide +kernel
theorem dX12_goesOver_34 : decode cX12_goesOver 34 = .ok (.iload 4, 2) := by decide +kernel
theorem dX12_goesOver_36 : decode cX12_goesOver 36 = .ok (.invokevirtual 381, 3) := by decide +kernel
theorem dX12_goesOver_39 : decode cX12_goesOver 39 = .ok (.istore 7, 2) := by decide +kernel
theorem dX12_goesOver_41 : decode cX12_goesOver 41 = .ok (.iload 7, 2) := by decide +kernel
theorem dX12_goesOver_43 : decode cX12_goesOver 43 = .ok (.ifCond .eq 40, 3) := by decide +kernel
theorem dX12_goesOver_46 : decode cX12_goesOver 46 = .ok (.iload 5, 2) := by decide +kernel
theorem dX12_goesOver_48 : decode cX12_goesOver 48 = .ok (.ifCond .ne 35, 3) := by decide +kernel
theorem dX12_goesOver_51 : decode cX12_goesOver 51 = .ok (.aload_n 0, 1) := by decide +kernel
theorem dX12_goesOver_52 : decode cX12_goesOver 52 = .ok (.getfield 78, 3) := by decide +kernel
theorem dX12_goesOver_55 : decode cX12_goesOver 55 = .ok (.sipush 720, 3) := by decide +kernel
theorem dX12_goesOver_58 : decode cX12_goesOver 58 = .ok (.iload_n 3, 1) := by decide +kernel
theorem dX12_goesOver_59 : decode cX12_goesOver 59 = .ok (.imul, 1) := by decide +kernel
theorem dX12_goesOver_60 : decode cX12_goesOver 60 = .ok (.iload 4, 2) := by decide +kernel
theorem dX12_goesOver_62 : decode cX12_goesOver 62 = .ok (.iadd, 1) := by decide +kernel
theorem dX12_goesOver_63 : decode cX12_goesOver 63 = .ok (.iload 6, 2) := by decide +kernel
theorem dX12_goesOver_65 : decode cX12_goesOver 65 = .ok (.iastore, 1) := by decide +kernel
theorem dX12_goesOver_66 : decode cX12_goesOver 66 = .ok (.aload_n 0, 1) := by decide +kernel
theorem dX12_goesOver_67 : decode cX12_goesOver 67 = .ok (.getfield 84, 3) := by decide +kernel
theorem dX12_goesOver_70 : decode cX12_goesOver 70 = .ok (.sipush 720, 3) := by decide +kernel
theorem dX12_goesOver_73 : decode cX12_goesOver 73 = .ok (.iload_n 3, 1) := by decide +kernel
theorem dX12_goesOver_74 : decode cX12_goesOver 74 = .ok (.imul, 1) := by decide +kernel
theorem dX12_goesOver_75 : decode cX12_goesOver 75 = .ok (.iload 4, 2) := by decide +kernel
theorem dX12_goesOver_77 : decode cX12_goesOver 77 = .ok (.iadd, 1) := by decide +kernel
theorem dX12_goesOver_78 : decode cX12_goesOver 78 = .ok (.iconst 0, 1) := by decide +kernel
theorem dX12_goesOver_79 : decode cX12_goesOver 79 = .ok (.iastore, 1) := by decide +kernel
theorem dX12_goesOver_80 : decode cX12_goesOver 80 = .ok (.iinc 4 1, 3) := by decide +kernel
theorem dX12_goesOver_83 : decode cX12_goesOver 83 = .ok (.iload 7, 2) := by decide +kernel
theorem dX12_goesOver_85 : decode cX12_goesOver 85 = .ok (.ifCond .eq 65, 3) := by decide +kernel
theorem dX12_goesOver_88 : decode cX12_goesOver 88 = .ok (.sipush 720, 3) := by decide +kernel
