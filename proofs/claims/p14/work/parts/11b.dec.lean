theorem dX5_reckon_93 : decode cX5_reckon 93 = .ok (.getfield 9, 3) := by decide +kernel
theorem dX5_reckon_96 : decode cX5_reckon 96 = .ok (.iload 8, 2) := by decide +kernel
theorem dX5_reckon_98 : decode cX5_reckon 98 = .ok (.bipush 127, 2) := by decide +kernel
theorem dX5_reckon_100 : decode cX5_reckon 100 = .ok (.iand, 1) := by decide +kernel
theorem dX5_reckon_101 : decode cX5_reckon 101 = .ok (.iaload, 1) := by decide +kernel
theorem dX5_reckon_102 : decode cX5_reckon 102 = .ok (.iastore, 1) := by decide +kernel
theorem dX5_reckon_103 : decode cX5_reckon 103 = .ok (.iinc 4 1, 3) := by decide +kernel
theorem dX5_reckon_106 : decode cX5_reckon 106 = .ok (.goto 161, 3) := by decide +kernel
theorem dX5_reckon_109 : decode cX5_reckon 109 = .ok (.iload 4, 2) := by decide +kernel
theorem dX5_reckon_111 : decode cX5_reckon 111 = .ok (.iconst 1, 1) := by decide +kernel
theorem dX5_reckon_112 : decode cX5_reckon 112 = .ok (.if_icmp .ge 5, 3) := by decide +kernel
theorem dX5_reckon_115 : decode cX5_reckon 115 = .ok (.iconst 0, 1) := by decide +kernel
theorem dX5_reckon_116 : decode cX5_reckon 116 = .ok (.ireturn, 1) := by decide +kernel
theorem dX5_reckon_117 : decode cX5_reckon 117 = .ok (.iload 7, 2) := by decide +kernel
theorem dX5_reckon_119 : decode cX5_reckon 119 = .ok (.bipush 33, 2) := by decide +kernel
theorem dX5_reckon_121 : decode cX5_reckon 121 = .ok (.if_icmp .ne 26, 3) := by decide +kernel
theorem dX5_reckon_124 : decode cX5_reckon 124 = .ok (.aload_n 0, 1) := by decide +kernel
theorem dX5_reckon_125 : decode cX5_reckon 125 = .ok (.getfield 15, 3) := by decide +kernel
theorem dX5_reckon_128 : decode cX5_reckon 128 = .ok (.iload 4, 2) := by decide +kernel
theorem dX5_reckon_130 : decode cX5_reckon 130 = .ok (.iconst 1, 1) := by decide +kernel
theorem dX5_reckon_131 : decode cX5_reckon 131 = .ok (.isub, 1) := by decide +kernel
theorem dX5_reckon_132 : decode cX5_reckon 132 = .ok (.iconst 1, 1) := by decide +kernel
theorem dX5_reckon_133 : decode cX5_reckon 133 = .ok (.aload_n 0, 1) := by decide +kernel
theorem dX5_reckon_134 : decode cX5_reckon 134 = .ok (.getfield 15, 3) := by decide +kernel
theorem dX5_reckon_137 : decode cX5_reckon 137 = .ok (.iload 4, 2) := by decide +kernel
theorem dX5_reckon_139 : decode cX5_reckon 139 = .ok (.iconst 1, 1) := by decide +kernel
theorem dX5_reckon_140 : decode cX5_reckon 140 = .ok (.isub, 1) := by decide +kernel
theorem dX5_reckon_141 : decode cX5_reckon 141 = .ok (.iaload, 1) := by decide +kernel
theorem dX5_reckon_142 : decode cX5_reckon 142 = .ok (.isub, 1) := by decide +kernel
theorem dX5_reckon_143 : decode cX5_reckon 143 = .ok (.iastore, 1) := by decide +kernel
theorem dX5_reckon_144 : decode cX5_reckon 144 = .ok (.goto 123, 3) := by decide +kernel
theorem dX5_reckon_147 : decode cX5_reckon 147 = .ok (.iload 7, 2) := by decide +kernel
theorem dX5_reckon_149 : decode cX5_reckon 149 = .ok (.bipush 38, 2) := by decide +kernel
theorem dX5_reckon_151 : decode cX5_reckon 151 = .ok (.if_icmp .eq 10, 3) := by decide +kernel
theorem dX5_reckon_154 : decode cX5_reckon 154 = .ok (.iload 7, 2) := by decide +kernel
theorem dX5_reckon_156 : decode cX5_reckon 156 = .ok (.bipush 124, 2) := by decide +kernel
theorem dX5_reckon_158 : decode cX5_reckon 158 = .ok (.if_icmp .ne 48, 3) := by decide +kernel
theorem dX5_reckon_161 : decode cX5_reckon 161 = .ok (.aload_n 0, 1) := by decide +kernel
theorem dX5_reckon_162 : decode cX5_reckon 162 = .ok (.getfield 15, 3) := by decide +kernel
theorem dX5_reckon_165 : decode cX5_reckon 165 = .ok (.iload 4, 2) := by decide +kernel
theorem dX5_reckon_167 : decode cX5_reckon 167 = .ok (.iconst 1, 1) := by decide +kernel
theorem dX5_reckon_168 : decode cX5_reckon 168 = .ok (.isub, 1) := by decide +kernel
theorem dX5_reckon_169 : decode cX5_reckon 169 = .ok (.iaload, 1) := by decide +kernel
theorem dX5_reckon_170 : decode cX5_reckon 170 = .ok (.ifCond .eq 7, 3) := by decide +kernel
theorem dX5_reckon_173 : decode cX5_reckon 173 = .ok (.iconst 1, 1) := by decide +kernel
theorem dX5_reckon_174 : decode cX5_reckon 174 = .ok (.goto 4, 3) := by decide +kernel
theorem dX5_reckon_177 : decode cX5_reckon 177 = .ok (.iconst 0, 1) := by decide +kernel
theorem dX5_reckon_178 : decode cX5_reckon 178 = .ok (.iload 7, 2) := by decide +kernel
theorem dX5_reckon_180 : decode cX5_reckon 180 = .ok (.bipush 124, 2) := by decide +kernel
theorem dX5_reckon_182 : decode cX5_reckon 182 = .ok (.if_icmp .ne 7, 3) := by decide +kernel
theorem dX5_reckon_185 : decode cX5_reckon 185 = .ok (.iconst 1, 1) := by decide +kernel
theorem dX5_reckon_186 : decode cX5_reckon 186 = .ok (.goto 4, 3) := by decide +kernel
theorem dX5_reckon_189 : decode cX5_reckon 189 = .ok (.iconst 0, 1) := by decide +kernel
theorem dX5_reckon_190 : decode cX5_reckon 190 = .ok (.if_icmp .ne 10, 3) := by decide +kernel
theorem dX5_reckon_193 : decode cX5_reckon 193 = .ok (.iload 8, 2) := by decide +kernel
theorem dX5_reckon_195 : decode cX5_reckon 195 = .ok (.istore 5, 2) := by decide +kernel
theorem dX5_reckon_197 : decode cX5_reckon 197 = .ok (.goto 70, 3) := by decide +kernel
theorem dX5_reckon_200 : decode cX5_reckon 200 = .ok (.iinc 4 (-1), 3) := by decide +kernel
theorem dX5_reckon_203 : decode cX5_reckon 203 = .ok (.goto 64, 3) := by decide +kernel
theorem dX5_reckon_206 : decode cX5_reckon 206 = .ok (.iload 4, 2) := by decide +kernel
theorem dX5_reckon_208 : decode cX5_reckon 208 = .ok (.iconst 2, 1) := by decide +kernel
theorem dX5_reckon_209 : decode cX5_reckon 209 = .ok (.if_icmp .lt 23, 3) := by decide +kernel
theorem dX5_reckon_212 : decode cX5_reckon 212 = .ok (.iload 7, 2) := by decide +kernel
theorem dX5_reckon_214 : decode cX5_reckon 214 = .ok (.invokestatic 37, 3) := by decide +kernel
theorem dX5_reckon_217 : decode cX5_reckon 217 = .ok (.ifCond .eq 17, 3) := by decide +kernel
theorem dX5_reckon_220 : decode cX5_reckon 220 = .ok (.aload_n 0, 1) := by decide +kernel
theorem dX5_reckon_221 : decode cX5_reckon 221 = .ok (.getfield 15, 3) := by decide +kernel
theorem dX5_reckon_224 : decode cX5_reckon 224 = .ok (.iload 4, 2) := by decide +kernel
theorem dX5_reckon_226 : decode cX5_reckon 226 = .ok (.iconst 1, 1) := by decide +kernel
theorem dX5_reckon_227 : decode cX5_reckon 227 = .ok (.isub, 1) := by decide +kernel
theorem dX5_reckon_228 : decode cX5_reckon 228 = .ok (.iaload, 1) := by decide +kernel
theorem dX5_reckon_229 : decode cX5_reckon 229 = .ok (.ifCond .ne 5, 3) := by decide +kernel
theorem dX5_reckon_232 : decode cX5_reckon 232 = .ok (.iconst 0, 1) := by decide +kernel
theorem dX5_reckon_233 : decode cX5_reckon 233 = .ok (.ireturn, 1) := by decide +kernel
theorem dX5_reckon_234 : decode cX5_reckon 234 = .ok (.iinc 4 (-1), 3) := by decide +kernel
theorem dX5_reckon_237 : decode cX5_reckon 237 = .ok (.aload_n 0, 1) := by decide +kernel
theorem dX5_reckon_238 : decode cX5_reckon 238 = .ok (.getfield 15, 3) := by decide +kernel
theorem dX5_reckon_241 : decode cX5_reckon 241 = .ok (.iload 4, 2) := by decide +kernel
theorem dX5_reckon_243 : decode cX5_reckon 243 = .ok (.iconst 1, 1) := by decide +kernel
theorem dX5_reckon_244 : decode cX5_reckon 244 = .ok (.isub, 1) := by decide +kernel
theorem dX5_reckon_245 : decode cX5_reckon 245 = .ok (.iload 7, 2) := by decide +kernel
theorem dX5_reckon_247 : decode cX5_reckon 247 = .ok (.aload_n 0, 1) := by decide +kernel
theorem dX5_reckon_248 : decode cX5_reckon 248 = .ok (.getfield 15, 3) := by decide +kernel
theorem dX5_reckon_251 : decode cX5_reckon 251 = .ok (.iload 4, 2) := by decide +kernel
theorem dX5_reckon_253 : decode cX5_reckon 253 = .ok (.iconst 1, 1) := by decide +kernel
theorem dX5_reckon_254 : decode cX5_reckon 254 = .ok (.isub, 1) := by decide +kernel
theorem dX5_reckon_255 : decode cX5_reckon 255 = .ok (.iaload, 1) := by decide +kernel
theorem dX5_reckon_256 : decode cX5_reckon 256 = .ok (.aload_n 0, 1) := by decide +kernel
theorem dX5_reckon_257 : decode cX5_reckon 257 = .ok (.getfield 15, 3) := by decide +kernel
theorem dX5_reckon_260 : decode cX5_reckon 260 = .ok (.iload 4, 2) := by decide +kernel
theorem dX5_reckon_262 : decode cX5_reckon 262 = .ok (.iaload, 1) := by decide +kernel
theorem dX5_reckon_263 : decode cX5_reckon 263 = .ok (.invokestatic 41, 3) := by decide +kernel
theorem dX5_reckon_266 : decode cX5_reckon 266 = .ok (.iastore, 1) := by decide +kernel
theorem dX5_reckon_267 : decode cX5_reckon 267 = .ok (.iinc 6 1, 3) := by decide +kernel
theorem dX5_reckon_270 : decode cX5_reckon 270 = .ok (.goto (-261), 3) := by decide +kernel
theorem dX5_reckon_273 : decode cX5_reckon 273 = .ok (.iload 4, 2) := by decide +kernel
theorem dX5_reckon_275 : decode cX5_reckon 275 = .ok (.iconst 1, 1) := by decide +kernel
theorem dX5_reckon_276 : decode cX5_reckon 276 = .ok (.if_icmp .ne 12, 3) := by decide +kernel
theorem dX5_reckon_279 : decode cX5_reckon 279 = .ok (.aload_n 0, 1) := by decide +kernel
theorem dX5_reckon_280 : decode cX5_reckon 280 = .ok (.getfield 15, 3) := by decide +kernel
theorem dX5_reckon_283 : decode cX5_reckon 283 = .ok (.iconst 0, 1) := by decide +kernel
theorem dX5_reckon_284 : decode cX5_reckon 284 = .ok (.iaload, 1) := by decide +kernel
theorem dX5_reckon_285 : decode cX5_reckon 285 = .ok (.goto 4, 3) := by decide +kernel
theorem dX5_reckon_288 : decode cX5_reckon 288 = .ok (.iconst 0, 1) := by decide +kernel
theorem dX5_reckon_289 : decode cX5_reckon 289 = .ok (.ireturn, 1) := by decide +kernel
theorem dX5_isDivision_0 : decode cX5_isDivision 0 = .ok (.iload_n 0, 1) := by decide +kernel
theorem dX5_isDivision_1 : decode cX5_isDivision 1 = .ok (.bipush 47, 2) := by decide +kernel
theorem dX5_isDivision_3 : decode cX5_isDivision 3 = .ok (.if_icmp .eq 9, 3) := by decide +kernel
theorem dX5_isDivision_6 : decode cX5_isDivision 6 = .ok (.iload_n 0, 1) := by decide +kernel
theorem dX5_isDivision_7 : decode cX5_isDivision 7 = .ok (.bipush 37, 2) := by decide +kernel
theorem dX5_isDivision_9 : decode cX5_isDivision 9 = .ok (.if_icmp .ne 7, 3) := by decide +kernel
theorem dX5_isDivision_12 : decode cX5_isDivision 12 = .ok (.iconst 1, 1) := by decide +kernel
theorem dX5_isDivision_13 : decode cX5_isDivision 13 = .ok (.goto 4, 3) := by decide +kernel
theorem dX5_isDivision_16 : decode cX5_isDivision 16 = .ok (.iconst 0, 1) := by decide +kernel
theorem dX5_isDivision_17 : decode cX5_isDivision 17 = .ok (.ireturn, 1) := by decide +kernel
theorem dX5_joined_0 : decode cX5_joined 0 = .ok (.iload_n 0, 1) := by decide +kernel
theorem dX5_joined_1 : decode cX5_joined 1 = .ok (.lookupswitch 125 #[(37, 91), (42, 75), (43, 67), (45, 71), (47, 79), (60, 103), (62, 114)], 67) := by decide +kernel
theorem dX5_joined_68 : decode cX5_joined 68 = .ok (.iload_n 1, 1) := by decide +kernel
theorem dX5_joined_69 : decode cX5_joined 69 = .ok (.iload_n 2, 1) := by decide +kernel
theorem dX5_joined_70 : decode cX5_joined 70 = .ok (.iadd, 1) := by decide +kernel
theorem dX5_joined_71 : decode cX5_joined 71 = .ok (.ireturn, 1) := by decide +kernel
theorem dX5_joined_72 : decode cX5_joined 72 = .ok (.iload_n 1, 1) := by decide +kernel
theorem dX5_joined_73 : decode cX5_joined 73 = .ok (.iload_n 2, 1) := by decide +kernel
theorem dX5_joined_74 : decode cX5_joined 74 = .ok (.isub, 1) := by decide +kernel
theorem dX5_joined_75 : decode cX5_joined 75 = .ok (.ireturn, 1) := by decide +kernel
theorem dX5_joined_76 : decode cX5_joined 76 = .ok (.iload_n 1, 1) := by decide +kernel
theorem dX5_joined_77 : decode cX5_joined 77 = .ok (.iload_n 2, 1) := by decide +kernel
theorem dX5_joined_78 : decode cX5_joined 78 = .ok (.imul, 1) := by decide +kernel
theorem dX5_joined_79 : decode cX5_joined 79 = .ok (.ireturn, 1) := by decide +kernel
theorem dX5_joined_80 : decode cX5_joined 80 = .ok (.iload_n 2, 1) := by decide +kernel
theorem dX5_joined_81 : decode cX5_joined 81 = .ok (.ifCond .ne 7, 3) := by decide +kernel
theorem dX5_joined_84 : decode cX5_joined 84 = .ok (.iconst 0, 1) := by decide +kernel
theorem dX5_joined_85 : decode cX5_joined 85 = .ok (.goto 6, 3) := by decide +kernel
theorem dX5_joined_88 : decode cX5_joined 88 = .ok (.iload_n 1, 1) := by decide +kernel
theorem dX5_joined_89 : decode cX5_joined 89 = .ok (.iload_n 2, 1) := by decide +kernel
theorem dX5_joined_90 : decode cX5_joined 90 = .ok (.idiv, 1) := by decide +kernel
theorem dX5_joined_91 : decode cX5_joined 91 = .ok (.ireturn, 1) := by decide +kernel
theorem dX5_joined_92 : decode cX5_joined 92 = .ok (.iload_n 2, 1) := by decide +kernel
theorem dX5_joined_93 : decode cX5_joined 93 = .ok (.ifCond .ne 7, 3) := by decide +kernel
theorem dX5_joined_96 : decode cX5_joined 96 = .ok (.iconst 0, 1) := by decide +kernel
theorem dX5_joined_97 : decode cX5_joined 97 = .ok (.goto 6, 3) := by decide +kernel
theorem dX5_joined_100 : decode cX5_joined 100 = .ok (.iload_n 1, 1) := by decide +kernel
theorem dX5_joined_101 : decode cX5_joined 101 = .ok (.iload_n 2, 1) := by decide +kernel
theorem dX5_joined_102 : decode cX5_joined 102 = .ok (.irem, 1) := by decide +kernel
theorem dX5_joined_103 : decode cX5_joined 103 = .ok (.ireturn, 1) := by decide +kernel
theorem dX5_joined_104 : decode cX5_joined 104 = .ok (.iload_n 1, 1) := by decide +kernel
theorem dX5_joined_105 : decode cX5_joined 105 = .ok (.iload_n 2, 1) := by decide +kernel
theorem dX5_joined_106 : decode cX5_joined 106 = .ok (.if_icmp .ge 7, 3) := by decide +kernel
theorem dX5_joined_109 : decode cX5_joined 109 = .ok (.iconst 1, 1) := by decide +kernel
theorem dX5_joined_110 : decode cX5_joined 110 = .ok (.goto 4, 3) := by decide +kernel
theorem dX5_joined_113 : decode cX5_joined 113 = .ok (.iconst 0, 1) := by decide +kernel
theorem dX5_joined_114 : decode cX5_joined 114 = .ok (.ireturn, 1) := by decide +kernel
theorem dX5_joined_115 : decode cX5_joined 115 = .ok (.iload_n 1, 1) := by decide +kernel
theorem dX5_joined_116 : decode cX5_joined 116 = .ok (.iload_n 2, 1) := by decide +kernel
theorem dX5_joined_117 : decode cX5_joined 117 = .ok (.if_icmp .le 7, 3) := by decide +kernel
theorem dX5_joined_120 : decode cX5_joined 120 = .ok (.iconst 1, 1) := by decide +kernel
theorem dX5_joined_121 : decode cX5_joined 121 = .ok (.goto 4, 3) := by decide +kernel
theorem dX5_joined_124 : decode cX5_joined 124 = .ok (.iconst 0, 1) := by decide +kernel
theorem dX5_joined_125 : decode cX5_joined 125 = .ok (.ireturn, 1) := by decide +kernel
theorem dX5_joined_126 : decode cX5_joined 126 = .ok (.iload_n 1, 1) := by decide +kernel
theorem dX5_joined_127 : decode cX5_joined 127 = .ok (.iload_n 2, 1) := by decide +kernel
theorem dX5_joined_128 : decode cX5_joined 128 = .ok (.if_icmp .ne 7, 3) := by decide +kernel
theorem dX5_joined_131 : decode cX5_joined 131 = .ok (.iconst 1, 1) := by decide +kernel
theorem dX5_joined_132 : decode cX5_joined 132 = .ok (.goto 4, 3) := by decide +kernel
theorem dX5_joined_135 : decode cX5_joined 135 = .ok (.iconst 0, 1) := by decide +kernel
theorem dX5_joined_136 : decode cX5_joined 136 = .ok (.ireturn, 1) := by decide +kernel
theorem dX6_faultCode_0 : decode cX6_faultCode 0 = .ok (.sipush (-1000), 3) := by decide +kernel
theorem dX6_faultCode_3 : decode cX6_faultCode 3 = .ok (.aload_n 0, 1) := by decide +kernel
theorem dX6_faultCode_4 : decode cX6_faultCode 4 = .ok (.getfield 34, 3) := by decide +kernel
theorem dX6_faultCode_7 : decode cX6_faultCode 7 = .ok (.imul, 1) := by decide +kernel
theorem dX6_faultCode_8 : decode cX6_faultCode 8 = .ok (.aload_n 0, 1) := by decide +kernel
theorem dX6_faultCode_9 : decode cX6_faultCode 9 = .ok (.getfield 28, 3) := by decide +kernel
theorem dX6_faultCode_12 : decode cX6_faultCode 12 = .ok (.isub, 1) := by decide +kernel
theorem dX6_faultCode_13 : decode cX6_faultCode 13 = .ok (.ireturn, 1) := by decide +kernel
theorem dX6_begin_0 : decode cX6_begin 0 = .ok (.aload_n 0, 1) := by decide +kernel
theorem dX6_begin_1 : decode cX6_begin 1 = .ok (.aload_n 1, 1) := by decide +kernel
theorem dX6_begin_2 : decode cX6_begin 2 = .ok (.putfield 21, 3) := by decide +kernel
theorem dX6_begin_5 : decode cX6_begin 5 = .ok (.aload_n 0, 1) := by decide +kernel
theorem dX6_begin_6 : decode cX6_begin 6 = .ok (.iload_n 2, 1) := by decide +kernel
theorem dX6_begin_7 : decode cX6_begin 7 = .ok (.aload_n 1, 1) := by decide +kernel
theorem dX6_begin_8 : decode cX6_begin 8 = .ok (.arraylength, 1) := by decide +kernel
theorem dX6_begin_9 : decode cX6_begin 9 = .ok (.invokestatic 65, 3) := by decide +kernel
theorem dX6_begin_12 : decode cX6_begin 12 = .ok (.putfield 24, 3) := by decide +kernel
theorem dX6_begin_15 : decode cX6_begin 15 = .ok (.aload_n 0, 1) := by decide +kernel
theorem dX6_begin_16 : decode cX6_begin 16 = .ok (.iconst 0, 1) := by decide +kernel
theorem dX6_begin_17 : decode cX6_begin 17 = .ok (.putfield 28, 3) := by decide +kernel
theorem dX6_begin_20 : decode cX6_begin 20 = .ok (.aload_n 0, 1) := by decide +kernel
theorem dX6_begin_21 : decode cX6_begin 21 = .ok (.iconst 0, 1) := by decide +kernel
theorem dX6_begin_22 : decode cX6_begin 22 = .ok (.putfield 31, 3) := by decide +kernel
theorem dX6_begin_25 : decode cX6_begin 25 = .ok (.aload_n 0, 1) := by decide +kernel
theorem dX6_begin_26 : decode cX6_begin 26 = .ok (.iconst 0, 1) := by decide +kernel
theorem dX6_begin_27 : decode cX6_begin 27 = .ok (.putfield 34, 3) := by decide +kernel
theorem dX6_begin_30 : decode cX6_begin 30 = .ok (.aload_n 0, 1) := by decide +kernel
theorem dX6_begin_31 : decode cX6_begin 31 = .ok (.getfield 15, 3) := by decide +kernel
theorem dX6_begin_34 : decode cX6_begin 34 = .ok (.iconst 0, 1) := by decide +kernel
theorem dX6_begin_35 : decode cX6_begin 35 = .ok (.iconst 0, 1) := by decide +kernel
theorem dX6_begin_36 : decode cX6_begin 36 = .ok (.iastore, 1) := by decide +kernel
theorem dX6_begin_37 : decode cX6_begin 37 = .ok (.return_, 1) := by decide +kernel
theorem dX6_next_0 : decode cX6_next 0 = .ok (.aload_n 0, 1) := by decide +kernel
theorem dX6_next_1 : decode cX6_next 1 = .ok (.getfield 28, 3) := by decide +kernel
theorem dX6_next_4 : decode cX6_next 4 = .ok (.aload_n 0, 1) := by decide +kernel
theorem dX6_next_5 : decode cX6_next 5 = .ok (.getfield 24, 3) := by decide +kernel
theorem dX6_next_8 : decode cX6_next 8 = .ok (.if_icmp .ge 15, 3) := by decide +kernel
theorem dX6_next_11 : decode cX6_next 11 = .ok (.aload_n 0, 1) := by decide +kernel
theorem dX6_next_12 : decode cX6_next 12 = .ok (.getfield 21, 3) := by decide +kernel
theorem dX6_next_15 : decode cX6_next 15 = .ok (.aload_n 0, 1) := by decide +kernel
theorem dX6_next_16 : decode cX6_next 16 = .ok (.getfield 28, 3) := by decide +kernel
theorem dX6_next_19 : decode cX6_next 19 = .ok (.iaload, 1) := by decide +kernel
theorem dX6_next_20 : decode cX6_next 20 = .ok (.goto 4, 3) := by decide +kernel
theorem dX6_next_23 : decode cX6_next 23 = .ok (.iconst (-1), 1) := by decide +kernel
theorem dX6_next_24 : decode cX6_next 24 = .ok (.ireturn, 1) := by decide +kernel
theorem dX6_fail_0 : decode cX6_fail 0 = .ok (.aload_n 0, 1) := by decide +kernel
theorem dX6_fail_1 : decode cX6_fail 1 = .ok (.iload_n 1, 1) := by decide +kernel
theorem dX6_fail_2 : decode cX6_fail 2 = .ok (.putfield 34, 3) := by decide +kernel
theorem dX6_fail_5 : decode cX6_fail 5 = .ok (.iconst 0, 1) := by decide +kernel
theorem dX6_fail_6 : decode cX6_fail 6 = .ok (.ireturn, 1) := by decide +kernel
theorem dX6_signStands_0 : decode cX6_signStands 0 = .ok (.aload_n 0, 1) := by decide +kernel
theorem dX6_signStands_1 : decode cX6_signStands 1 = .ok (.invokevirtual 53, 3) := by decide +kernel
theorem dX6_signStands_4 : decode cX6_signStands 4 = .ok (.iload_n 1, 1) := by decide +kernel
theorem dX6_signStands_5 : decode cX6_signStands 5 = .ok (.if_icmp .eq 9, 3) := by decide +kernel
theorem dX6_signStands_8 : decode cX6_signStands 8 = .ok (.aload_n 0, 1) := by decide +kernel
theorem dX6_signStands_9 : decode cX6_signStands 9 = .ok (.iconst 1, 1) := by decide +kernel
theorem dX6_signStands_10 : decode cX6_signStands 10 = .ok (.invokevirtual 57, 3) := by decide +kernel
theorem dX6_signStands_13 : decode cX6_signStands 13 = .ok (.ireturn, 1) := by decide +kernel
theorem dX6_signStands_14 : decode cX6_signStands 14 = .ok (.aload_n 0, 1) := by decide +kernel
theorem dX6_signStands_15 : decode cX6_signStands 15 = .ok (.dup, 1) := by decide +kernel
theorem dX6_signStands_16 : decode cX6_signStands 16 = .ok (.getfield 28, 3) := by decide +kernel
theorem dX6_signStands_19 : decode cX6_signStands 19 = .ok (.iconst 1, 1) := by decide +kernel
theorem dX6_signStands_20 : decode cX6_signStands 20 = .ok (.iadd, 1) := by decide +kernel
theorem dX6_signStands_21 : decode cX6_signStands 21 = .ok (.putfield 28, 3) := by decide +kernel
theorem dX6_signStands_24 : decode cX6_signStands 24 = .ok (.iconst 1, 1) := by decide +kernel
theorem dX6_signStands_25 : decode cX6_signStands 25 = .ok (.ireturn, 1) := by decide +kernel
theorem dX6_put_0 : decode cX6_put 0 = .ok (.aload_n 0, 1) := by decide +kernel
theorem dX6_put_1 : decode cX6_put 1 = .ok (.getfield 31, 3) := by decide +kernel
theorem dX6_put_4 : decode cX6_put 4 = .ok (.aload_n 0, 1) := by decide +kernel
theorem dX6_put_5 : decode cX6_put 5 = .ok (.getfield 9, 3) := by decide +kernel
theorem dX6_put_8 : decode cX6_put 8 = .ok (.arraylength, 1) := by decide +kernel
theorem dX6_put_9 : decode cX6_put 9 = .ok (.if_icmp .ge 28, 3) := by decide +kernel
theorem dX6_put_12 : decode cX6_put 12 = .ok (.aload_n 0, 1) := by decide +kernel
theorem dX6_put_13 : decode cX6_put 13 = .ok (.getfield 9, 3) := by decide +kernel
theorem dX6_put_16 : decode cX6_put 16 = .ok (.aload_n 0, 1) := by decide +kernel
theorem dX6_put_17 : decode cX6_put 17 = .ok (.getfield 31, 3) := by decide +kernel
theorem dX6_put_20 : decode cX6_put 20 = .ok (.iload_n 2, 1) := by decide +kernel
theorem dX6_put_21 : decode cX6_put 21 = .ok (.bipush 8, 2) := by decide +kernel
theorem dX6_put_23 : decode cX6_put 23 = .ok (.ishl, 1) := by decide +kernel
theorem dX6_put_24 : decode cX6_put 24 = .ok (.iload_n 1, 1) := by decide +kernel
theorem dX6_put_25 : decode cX6_put 25 = .ok (.ior, 1) := by decide +kernel
theorem dX6_put_26 : decode cX6_put 26 = .ok (.iastore, 1) := by decide +kernel
theorem dX6_put_27 : decode cX6_put 27 = .ok (.aload_n 0, 1) := by decide +kernel
theorem dX6_put_28 : decode cX6_put 28 = .ok (.dup, 1) := by decide +kernel
theorem dX6_put_29 : decode cX6_put 29 = .ok (.getfield 31, 3) := by decide +kernel
theorem dX6_put_32 : decode cX6_put 32 = .ok (.iconst 1, 1) := by decide +kernel
theorem dX6_put_33 : decode cX6_put 33 = .ok (.iadd, 1) := by decide +kernel
theorem dX6_put_34 : decode cX6_put 34 = .ok (.putfield 31, 3) := by decide +kernel
theorem dX6_put_37 : decode cX6_put 37 = .ok (.return_, 1) := by decide +kernel
theorem dX6_leapHere_0 : decode cX6_leapHere 0 = .ok (.iload_n 1, 1) := by decide +kernel
theorem dX6_leapHere_1 : decode cX6_leapHere 1 = .ok (.aload_n 0, 1) := by decide +kernel
theorem dX6_leapHere_2 : decode cX6_leapHere 2 = .ok (.getfield 31, 3) := by decide +kernel
theorem dX6_leapHere_5 : decode cX6_leapHere 5 = .ok (.if_icmp .ge 27, 3) := by decide +kernel
theorem dX6_leapHere_8 : decode cX6_leapHere 8 = .ok (.aload_n 0, 1) := by decide +kernel
theorem dX6_leapHere_9 : decode cX6_leapHere 9 = .ok (.getfield 9, 3) := by decide +kernel
theorem dX6_leapHere_12 : decode cX6_leapHere 12 = .ok (.iload_n 1, 1) := by decide +kernel
theorem dX6_leapHere_13 : decode cX6_leapHere 13 = .ok (.aload_n 0, 1) := by decide +kernel
theorem dX6_leapHere_14 : decode cX6_leapHere 14 = .ok (.getfield 31, 3) := by decide +kernel
theorem dX6_leapHere_17 : decode cX6_leapHere 17 = .ok (.bipush 8, 2) := by decide +kernel
theorem dX6_leapHere_19 : decode cX6_leapHere 19 = .ok (.ishl, 1) := by decide +kernel
theorem dX6_leapHere_20 : decode cX6_leapHere 20 = .ok (.aload_n 0, 1) := by decide +kernel
theorem dX6_leapHere_21 : decode cX6_leapHere 21 = .ok (.getfield 9, 3) := by decide +kernel
theorem dX6_leapHere_24 : decode cX6_leapHere 24 = .ok (.iload_n 1, 1) := by decide +kernel
theorem dX6_leapHere_25 : decode cX6_leapHere 25 = .ok (.iaload, 1) := by decide +kernel
theorem dX6_leapHere_26 : decode cX6_leapHere 26 = .ok (.sipush 255, 3) := by decide +kernel
theorem dX6_leapHere_29 : decode cX6_leapHere 29 = .ok (.iand, 1) := by decide +kernel
theorem dX6_leapHere_30 : decode cX6_leapHere 30 = .ok (.ior, 1) := by decide +kernel
theorem dX6_leapHere_31 : decode cX6_leapHere 31 = .ok (.iastore, 1) := by decide +kernel
theorem dX6_leapHere_32 : decode cX6_leapHere 32 = .ok (.return_, 1) := by decide +kernel
theorem dX6_clauseStands_0 : decode cX6_clauseStands 0 = .ok (.aload_n 0, 1) := by decide +kernel
theorem dX6_clauseStands_1 : decode cX6_clauseStands 1 = .ok (.iload_n 1, 1) := by decide +kernel
theorem dX6_clauseStands_2 : decode cX6_clauseStands 2 = .ok (.invokevirtual 49, 3) := by decide +kernel
theorem dX6_clauseStands_5 : decode cX6_clauseStands 5 = .ok (.ifCond .eq 18, 3) := by decide +kernel
theorem dX6_clauseStands_8 : decode cX6_clauseStands 8 = .ok (.iload_n 1, 1) := by decide +kernel
theorem dX6_clauseStands_9 : decode cX6_clauseStands 9 = .ok (.bipush 104, 2) := by decide +kernel
theorem dX6_clauseStands_11 : decode cX6_clauseStands 11 = .ok (.if_icmp .ne 14, 3) := by decide +kernel
theorem dX6_clauseStands_14 : decode cX6_clauseStands 14 = .ok (.aload_n 0, 1) := by decide +kernel
theorem dX6_clauseStands_15 : decode cX6_clauseStands 15 = .ok (.iconst 2, 1) := by decide +kernel
theorem dX6_clauseStands_16 : decode cX6_clauseStands 16 = .ok (.iconst 0, 1) := by decide +kernel
theorem dX6_clauseStands_17 : decode cX6_clauseStands 17 = .ok (.invokevirtual 61, 3) := by decide +kernel
theorem dX6_clauseStands_20 : decode cX6_clauseStands 20 = .ok (.ifCond .ne 5, 3) := by decide +kernel
theorem dX6_clauseStands_23 : decode cX6_clauseStands 23 = .ok (.iconst 0, 1) := by decide +kernel
theorem dX6_clauseStands_24 : decode cX6_clauseStands 24 = .ok (.ireturn, 1) := by decide +kernel
theorem dX6_clauseStands_25 : decode cX6_clauseStands 25 = .ok (.aload_n 0, 1) := by decide +kernel
theorem dX6_clauseStands_26 : decode cX6_clauseStands 26 = .ok (.getfield 18, 3) := by decide +kernel
theorem dX6_clauseStands_29 : decode cX6_clauseStands 29 = .ok (.iload_n 2, 1) := by decide +kernel
theorem dX6_clauseStands_30 : decode cX6_clauseStands 30 = .ok (.aload_n 0, 1) := by decide +kernel
theorem dX6_clauseStands_31 : decode cX6_clauseStands 31 = .ok (.getfield 31, 3) := by decide +kernel
theorem dX6_clauseStands_34 : decode cX6_clauseStands 34 = .ok (.iastore, 1) := by decide +kernel
theorem dX6_clauseStands_35 : decode cX6_clauseStands 35 = .ok (.aload_n 0, 1) := by decide +kernel
theorem dX6_clauseStands_36 : decode cX6_clauseStands 36 = .ok (.bipush 40, 2) := by decide +kernel
theorem dX6_clauseStands_38 : decode cX6_clauseStands 38 = .ok (.invokevirtual 49, 3) := by decide +kernel
theorem dX6_clauseStands_41 : decode cX6_clauseStands 41 = .ok (.ifCond .eq 21, 3) := by decide +kernel
theorem dX6_clauseStands_44 : decode cX6_clauseStands 44 = .ok (.aload_n 0, 1) := by decide +kernel
theorem dX6_clauseStands_45 : decode cX6_clauseStands 45 = .ok (.iconst 0, 1) := by decide +kernel
theorem dX6_clauseStands_46 : decode cX6_clauseStands 46 = .ok (.iconst 1, 1) := by decide +kernel
theorem dX6_clauseStands_47 : decode cX6_clauseStands 47 = .ok (.invokevirtual 61, 3) := by decide +kernel
theorem dX6_clauseStands_50 : decode cX6_clauseStands 50 = .ok (.ifCond .eq 12, 3) := by decide +kernel
theorem dX6_clauseStands_53 : decode cX6_clauseStands 53 = .ok (.aload_n 0, 1) := by decide +kernel
theorem dX6_clauseStands_54 : decode cX6_clauseStands 54 = .ok (.bipush 41, 2) := by decide +kernel
theorem dX6_clauseStands_56 : decode cX6_clauseStands 56 = .ok (.invokevirtual 49, 3) := by decide +kernel
theorem dX6_clauseStands_59 : decode cX6_clauseStands 59 = .ok (.ifCond .ne 5, 3) := by decide +kernel
theorem dX6_clauseStands_62 : decode cX6_clauseStands 62 = .ok (.iconst 0, 1) := by decide +kernel
theorem dX6_clauseStands_63 : decode cX6_clauseStands 63 = .ok (.ireturn, 1) := by decide +kernel
theorem dX6_clauseStands_64 : decode cX6_clauseStands 64 = .ok (.aload_n 0, 1) := by decide +kernel
theorem dX6_clauseStands_65 : decode cX6_clauseStands 65 = .ok (.getfield 15, 3) := by decide +kernel
theorem dX6_clauseStands_68 : decode cX6_clauseStands 68 = .ok (.iload_n 2, 1) := by decide +kernel
theorem dX6_clauseStands_69 : decode cX6_clauseStands 69 = .ok (.iconst 1, 1) := by decide +kernel
theorem dX6_clauseStands_70 : decode cX6_clauseStands 70 = .ok (.iadd, 1) := by decide +kernel
theorem dX6_clauseStands_71 : decode cX6_clauseStands 71 = .ok (.aload_n 0, 1) := by decide +kernel
theorem dX6_clauseStands_72 : decode cX6_clauseStands 72 = .ok (.getfield 31, 3) := by decide +kernel
theorem dX6_clauseStands_75 : decode cX6_clauseStands 75 = .ok (.iastore, 1) := by decide +kernel
theorem dX6_clauseStands_76 : decode cX6_clauseStands 76 = .ok (.iconst 1, 1) := by decide +kernel
theorem dX6_clauseStands_77 : decode cX6_clauseStands 77 = .ok (.ireturn, 1) := by decide +kernel
theorem dX6_rowStands_0 : decode cX6_rowStands 0 = .ok (.aload_n 0, 1) := by decide +kernel
theorem dX6_rowStands_1 : decode cX6_rowStands 1 = .ok (.iload_n 1, 1) := by decide +kernel
theorem dX6_rowStands_2 : decode cX6_rowStands 2 = .ok (.iload_n 2, 1) := by decide +kernel
theorem dX6_rowStands_3 : decode cX6_rowStands 3 = .ok (.invokevirtual 82, 3) := by decide +kernel
theorem dX6_rowStands_6 : decode cX6_rowStands 6 = .ok (.ifCond .ne 5, 3) := by decide +kernel
theorem dX6_rowStands_9 : decode cX6_rowStands 9 = .ok (.iconst 0, 1) := by decide +kernel
theorem dX6_rowStands_10 : decode cX6_rowStands 10 = .ok (.ireturn, 1) := by decide +kernel
theorem dX6_rowStands_11 : decode cX6_rowStands 11 = .ok (.iconst 0, 1) := by decide +kernel
theorem dX6_rowStands_12 : decode cX6_rowStands 12 = .ok (.istore_n 3, 1) := by decide +kernel
theorem dX6_rowStands_13 : decode cX6_rowStands 13 = .ok (.iload_n 3, 1) := by decide +kernel
theorem dX6_rowStands_14 : decode cX6_rowStands 14 = .ok (.aload_n 0, 1) := by decide +kernel
theorem dX6_rowStands_15 : decode cX6_rowStands 15 = .ok (.getfield 24, 3) := by decide +kernel
theorem dX6_rowStands_18 : decode cX6_rowStands 18 = .ok (.if_icmp .ge 102, 3) := by decide +kernel
theorem dX6_rowStands_21 : decode cX6_rowStands 21 = .ok (.iload_n 1, 1) := by decide +kernel
theorem dX6_rowStands_22 : decode cX6_rowStands 22 = .ok (.aload_n 0, 1) := by decide +kernel
theorem dX6_rowStands_23 : decode cX6_rowStands 23 = .ok (.invokevirtual 53, 3) := by decide +kernel
theorem dX6_rowStands_26 : decode cX6_rowStands 26 = .ok (.invokestatic 85, 3) := by decide +kernel
theorem dX6_rowStands_29 : decode cX6_rowStands 29 = .ok (.ifCond .eq 91, 3) := by decide +kernel
theorem dX6_rowStands_32 : decode cX6_rowStands 32 = .ok (.aload_n 0, 1) := by decide +kernel
theorem dX6_rowStands_33 : decode cX6_rowStands 33 = .ok (.invokevirtual 53, 3) := by decide +kernel
theorem dX6_rowStands_36 : decode cX6_rowStands 36 = .ok (.istore 4, 2) := by decide +kernel
theorem dX6_rowStands_38 : decode cX6_rowStands 38 = .ok (.aload_n 0, 1) := by decide +kernel
theorem dX6_rowStands_39 : decode cX6_rowStands 39 = .ok (.getfield 31, 3) := by decide +kernel
theorem dX6_rowStands_42 : decode cX6_rowStands 42 = .ok (.istore 5, 2) := by decide +kernel
theorem dX6_rowStands_44 : decode cX6_rowStands 44 = .ok (.iload_n 1, 1) := by decide +kernel
theorem dX6_rowStands_45 : decode cX6_rowStands 45 = .ok (.ifCond .eq 8, 3) := by decide +kernel
theorem dX6_rowStands_48 : decode cX6_rowStands 48 = .ok (.iload_n 1, 1) := by decide +kernel
theorem dX6_rowStands_49 : decode cX6_rowStands 49 = .ok (.iconst 1, 1) := by decide +kernel
theorem dX6_rowStands_50 : decode cX6_rowStands 50 = .ok (.if_icmp .ne 7, 3) := by decide +kernel
theorem dX6_rowStands_53 : decode cX6_rowStands 53 = .ok (.iconst 1, 1) := by decide +kernel
theorem dX6_rowStands_54 : decode cX6_rowStands 54 = .ok (.goto 4, 3) := by decide +kernel
theorem dX6_rowStands_57 : decode cX6_rowStands 57 = .ok (.iconst 0, 1) := by decide +kernel
theorem dX6_rowStands_58 : decode cX6_rowStands 58 = .ok (.istore 6, 2) := by decide +kernel
theorem dX6_rowStands_60 : decode cX6_rowStands 60 = .ok (.iload 6, 2) := by decide +kernel
theorem dX6_rowStands_62 : decode cX6_rowStands 62 = .ok (.ifCond .eq 10, 3) := by decide +kernel
theorem dX6_rowStands_65 : decode cX6_rowStands 65 = .ok (.aload_n 0, 1) := by decide +kernel
theorem dX6_rowStands_66 : decode cX6_rowStands 66 = .ok (.iload 4, 2) := by decide +kernel
theorem dX6_rowStands_68 : decode cX6_rowStands 68 = .ok (.iconst 0, 1) := by decide +kernel
theorem dX6_rowStands_69 : decode cX6_rowStands 69 = .ok (.invokevirtual 88, 3) := by decide +kernel
theorem dX6_rowStands_72 : decode cX6_rowStands 72 = .ok (.aload_n 0, 1) := by decide +kernel
theorem dX6_rowStands_73 : decode cX6_rowStands 73 = .ok (.dup, 1) := by decide +kernel
theorem dX6_rowStands_74 : decode cX6_rowStands 74 = .ok (.getfield 28, 3) := by decide +kernel
theorem dX6_rowStands_77 : decode cX6_rowStands 77 = .ok (.iconst 1, 1) := by decide +kernel
theorem dX6_rowStands_78 : decode cX6_rowStands 78 = .ok (.iadd, 1) := by decide +kernel
theorem dX6_rowStands_79 : decode cX6_rowStands 79 = .ok (.putfield 28, 3) := by decide +kernel
theorem dX6_rowStands_82 : decode cX6_rowStands 82 = .ok (.aload_n 0, 1) := by decide +kernel
theorem dX6_rowStands_83 : decode cX6_rowStands 83 = .ok (.iload_n 1, 1) := by decide +kernel
theorem dX6_rowStands_84 : decode cX6_rowStands 84 = .ok (.iload_n 2, 1) := by decide +kernel
theorem dX6_rowStands_85 : decode cX6_rowStands 85 = .ok (.invokevirtual 82, 3) := by decide +kernel
theorem dX6_rowStands_88 : decode cX6_rowStands 88 = .ok (.ifCond .ne 5, 3) := by decide +kernel
theorem dX6_rowStands_91 : decode cX6_rowStands 91 = .ok (.iconst 0, 1) := by decide +kernel
theorem dX6_rowStands_92 : decode cX6_rowStands 92 = .ok (.ireturn, 1) := by decide +kernel
theorem dX6_rowStands_93 : decode cX6_rowStands 93 = .ok (.iload 6, 2) := by decide +kernel
theorem dX6_rowStands_95 : decode cX6_rowStands 95 = .ok (.ifCond .eq 12, 3) := by decide +kernel
theorem dX6_rowStands_98 : decode cX6_rowStands 98 = .ok (.aload_n 0, 1) := by decide +kernel
theorem dX6_rowStands_99 : decode cX6_rowStands 99 = .ok (.iload 5, 2) := by decide +kernel
theorem dX6_rowStands_101 : decode cX6_rowStands 101 = .ok (.invokevirtual 92, 3) := by decide +kernel
theorem dX6_rowStands_104 : decode cX6_rowStands 104 = .ok (.goto 10, 3) := by decide +kernel
theorem dX6_rowStands_107 : decode cX6_rowStands 107 = .ok (.aload_n 0, 1) := by decide +kernel
theorem dX6_rowStands_108 : decode cX6_rowStands 108 = .ok (.iload 4, 2) := by decide +kernel
theorem dX6_rowStands_110 : decode cX6_rowStands 110 = .ok (.iconst 0, 1) := by decide +kernel
theorem dX6_rowStands_111 : decode cX6_rowStands 111 = .ok (.invokevirtual 88, 3) := by decide +kernel
theorem dX6_rowStands_114 : decode cX6_rowStands 114 = .ok (.iinc 3 1, 3) := by decide +kernel
theorem dX6_rowStands_117 : decode cX6_rowStands 117 = .ok (.goto (-104), 3) := by decide +kernel
theorem dX6_rowStands_120 : decode cX6_rowStands 120 = .ok (.iconst 1, 1) := by decide +kernel
theorem dX6_rowStands_121 : decode cX6_rowStands 121 = .ok (.ireturn, 1) := by decide +kernel
theorem dX6_operandStands_0 : decode cX6_operandStands 0 = .ok (.iload_n 1, 1) := by decide +kernel
theorem dX6_operandStands_1 : decode cX6_operandStands 1 = .ok (.tableswitch 47 0 2 #[27, 34, 40], 27) := by decide +kernel
theorem dX6_operandStands_28 : decode cX6_operandStands 28 = .ok (.aload_n 0, 1) := by decide +kernel
theorem dX6_operandStands_29 : decode cX6_operandStands 29 = .ok (.iconst 1, 1) := by decide +kernel
theorem dX6_operandStands_30 : decode cX6_operandStands 30 = .ok (.iload_n 2, 1) := by decide +kernel
theorem dX6_operandStands_31 : decode cX6_operandStands 31 = .ok (.invokevirtual 61, 3) := by decide +kernel
theorem dX6_operandStands_34 : decode cX6_operandStands 34 = .ok (.ireturn, 1) := by decide +kernel
theorem dX6_operandStands_35 : decode cX6_operandStands 35 = .ok (.aload_n 0, 1) := by decide +kernel
theorem dX6_operandStands_36 : decode cX6_operandStands 36 = .ok (.iload_n 2, 1) := by decide +kernel
theorem dX6_operandStands_37 : decode cX6_operandStands 37 = .ok (.invokevirtual 96, 3) := by decide +kernel
theorem dX6_operandStands_40 : decode cX6_operandStands 40 = .ok (.ireturn, 1) := by decide +kernel
theorem dX6_operandStands_41 : decode cX6_operandStands 41 = .ok (.aload_n 0, 1) := by decide +kernel
theorem dX6_operandStands_42 : decode cX6_operandStands 42 = .ok (.iconst 3, 1) := by decide +kernel
theorem dX6_operandStands_43 : decode cX6_operandStands 43 = .ok (.iload_n 2, 1) := by decide +kernel
theorem dX6_operandStands_44 : decode cX6_operandStands 44 = .ok (.invokevirtual 61, 3) := by decide +kernel
theorem dX6_operandStands_47 : decode cX6_operandStands 47 = .ok (.ireturn, 1) := by decide +kernel
theorem dX6_operandStands_48 : decode cX6_operandStands 48 = .ok (.aload_n 0, 1) := by decide +kernel
theorem dX6_operandStands_49 : decode cX6_operandStands 49 = .ok (.iload_n 2, 1) := by decide +kernel
theorem dX6_operandStands_50 : decode cX6_operandStands 50 = .ok (.invokevirtual 99, 3) := by decide +kernel
theorem dX6_operandStands_53 : decode cX6_operandStands 53 = .ok (.ireturn, 1) := by decide +kernel
theorem dX6_joins_0 : decode cX6_joins 0 = .ok (.iload_n 0, 1) := by decide +kernel
theorem dX6_joins_1 : decode cX6_joins 1 = .ok (.tableswitch 69 0 2 #[27, 39, 51], 27) := by decide +kernel
theorem dX6_joins_28 : decode cX6_joins 28 = .ok (.iload_n 1, 1) := by decide +kernel
theorem dX6_joins_29 : decode cX6_joins 29 = .ok (.bipush 124, 2) := by decide +kernel
theorem dX6_joins_31 : decode cX6_joins 31 = .ok (.if_icmp .ne 7, 3) := by decide +kernel
theorem dX6_joins_34 : decode cX6_joins 34 = .ok (.iconst 1, 1) := by decide +kernel
theorem dX6_joins_35 : decode cX6_joins 35 = .ok (.goto 4, 3) := by decide +kernel
theorem dX6_joins_38 : decode cX6_joins 38 = .ok (.iconst 0, 1) := by decide +kernel
theorem dX6_joins_39 : decode cX6_joins 39 = .ok (.ireturn, 1) := by decide +kernel
theorem dX6_joins_40 : decode cX6_joins 40 = .ok (.iload_n 1, 1) := by decide +kernel
theorem dX6_joins_41 : decode cX6_joins 41 = .ok (.bipush 38, 2) := by decide +kernel
theorem dX6_joins_43 : decode cX6_joins 43 = .ok (.if_icmp .ne 7, 3) := by decide +kernel
theorem dX6_joins_46 : decode cX6_joins 46 = .ok (.iconst 1, 1) := by decide +kernel
theorem dX6_joins_47 : decode cX6_joins 47 = .ok (.goto 4, 3) := by decide +kernel
theorem dX6_joins_50 : decode cX6_joins 50 = .ok (.iconst 0, 1) := by decide +kernel
theorem dX6_joins_51 : decode cX6_joins 51 = .ok (.ireturn, 1) := by decide +kernel
theorem dX6_joins_52 : decode cX6_joins 52 = .ok (.iload_n 1, 1) := by decide +kernel
theorem dX6_joins_53 : decode cX6_joins 53 = .ok (.bipush 43, 2) := by decide +kernel
theorem dX6_joins_55 : decode cX6_joins 55 = .ok (.if_icmp .eq 9, 3) := by decide +kernel
theorem dX6_joins_58 : decode cX6_joins 58 = .ok (.iload_n 1, 1) := by decide +kernel
theorem dX6_joins_59 : decode cX6_joins 59 = .ok (.bipush 45, 2) := by decide +kernel
theorem dX6_joins_61 : decode cX6_joins 61 = .ok (.if_icmp .ne 7, 3) := by decide +kernel
theorem dX6_joins_64 : decode cX6_joins 64 = .ok (.iconst 1, 1) := by decide +kernel
theorem dX6_joins_65 : decode cX6_joins 65 = .ok (.goto 4, 3) := by decide +kernel
theorem dX6_joins_68 : decode cX6_joins 68 = .ok (.iconst 0, 1) := by decide +kernel
theorem dX6_joins_69 : decode cX6_joins 69 = .ok (.ireturn, 1) := by decide +kernel
theorem dX6_joins_70 : decode cX6_joins 70 = .ok (.iload_n 1, 1) := by decide +kernel
theorem dX6_joins_71 : decode cX6_joins 71 = .ok (.bipush 42, 2) := by decide +kernel
theorem dX6_joins_73 : decode cX6_joins 73 = .ok (.if_icmp .eq 15, 3) := by decide +kernel
theorem dX6_joins_76 : decode cX6_joins 76 = .ok (.iload_n 1, 1) := by decide +kernel
theorem dX6_joins_77 : decode cX6_joins 77 = .ok (.bipush 47, 2) := by decide +kernel
theorem dX6_joins_79 : decode cX6_joins 79 = .ok (.if_icmp .eq 9, 3) := by decide +kernel
theorem dX6_joins_82 : decode cX6_joins 82 = .ok (.iload_n 1, 1) := by decide +kernel
theorem dX6_joins_83 : decode cX6_joins 83 = .ok (.bipush 37, 2) := by decide +kernel
theorem dX6_joins_85 : decode cX6_joins 85 = .ok (.if_icmp .ne 7, 3) := by decide +kernel
theorem dX6_joins_88 : decode cX6_joins 88 = .ok (.iconst 1, 1) := by decide +kernel
theorem dX6_joins_89 : decode cX6_joins 89 = .ok (.goto 4, 3) := by decide +kernel
theorem dX6_joins_92 : decode cX6_joins 92 = .ok (.iconst 0, 1) := by decide +kernel
theorem dX6_joins_93 : decode cX6_joins 93 = .ok (.ireturn, 1) := by decide +kernel
theorem dX6_pieceStands_0 : decode cX6_pieceStands 0 = .ok (.aload_n 0, 1) := by decide +kernel
theorem dX6_pieceStands_1 : decode cX6_pieceStands 1 = .ok (.invokevirtual 53, 3) := by decide +kernel
theorem dX6_pieceStands_4 : decode cX6_pieceStands 4 = .ok (.istore_n 2, 1) := by decide +kernel
theorem dX6_pieceStands_5 : decode cX6_pieceStands 5 = .ok (.iload_n 2, 1) := by decide +kernel
theorem dX6_pieceStands_6 : decode cX6_pieceStands 6 = .ok (.bipush 33, 2) := by decide +kernel
theorem dX6_pieceStands_8 : decode cX6_pieceStands 8 = .ok (.if_icmp .eq 9, 3) := by decide +kernel
theorem dX6_pieceStands_11 : decode cX6_pieceStands 11 = .ok (.iload_n 2, 1) := by decide +kernel
theorem dX6_pieceStands_12 : decode cX6_pieceStands 12 = .ok (.bipush 40, 2) := by decide +kernel
theorem dX6_pieceStands_14 : decode cX6_pieceStands 14 = .ok (.if_icmp .ne 78, 3) := by decide +kernel
theorem dX6_pieceStands_17 : decode cX6_pieceStands 17 = .ok (.iload_n 1, 1) := by decide +kernel
theorem dX6_pieceStands_18 : decode cX6_pieceStands 18 = .ok (.bipush 6, 2) := by decide +kernel
theorem dX6_pieceStands_20 : decode cX6_pieceStands 20 = .ok (.if_icmp .lt 9, 3) := by decide +kernel
theorem dX6_pieceStands_23 : decode cX6_pieceStands 23 = .ok (.aload_n 0, 1) := by decide +kernel
theorem dX6_pieceStands_24 : decode cX6_pieceStands 24 = .ok (.iconst 5, 1) := by decide +kernel
theorem dX6_pieceStands_25 : decode cX6_pieceStands 25 = .ok (.invokevirtual 57, 3) := by decide +kernel
theorem dX6_pieceStands_28 : decode cX6_pieceStands 28 = .ok (.ireturn, 1) := by decide +kernel
theorem dX6_pieceStands_29 : decode cX6_pieceStands 29 = .ok (.aload_n 0, 1) := by decide +kernel
theorem dX6_pieceStands_30 : decode cX6_pieceStands 30 = .ok (.dup, 1) := by decide +kernel
theorem dX6_pieceStands_31 : decode cX6_pieceStands 31 = .ok (.getfield 28, 3) := by decide +kernel
theorem dX6_pieceStands_34 : decode cX6_pieceStands 34 = .ok (.iconst 1, 1) := by decide +kernel
theorem dX6_pieceStands_35 : decode cX6_pieceStands 35 = .ok (.iadd, 1) := by decide +kernel
theorem dX6_pieceStands_36 : decode cX6_pieceStands 36 = .ok (.putfield 28, 3) := by decide +kernel
theorem dX6_pieceStands_39 : decode cX6_pieceStands 39 = .ok (.iload_n 2, 1) := by decide +kernel
theorem dX6_pieceStands_40 : decode cX6_pieceStands 40 = .ok (.bipush 40, 2) := by decide +kernel
theorem dX6_pieceStands_42 : decode cX6_pieceStands 42 = .ok (.if_icmp .ne 29, 3) := by decide +kernel
theorem dX6_pieceStands_45 : decode cX6_pieceStands 45 = .ok (.aload_n 0, 1) := by decide +kernel
theorem dX6_pieceStands_46 : decode cX6_pieceStands 46 = .ok (.iconst 0, 1) := by decide +kernel
theorem dX6_pieceStands_47 : decode cX6_pieceStands 47 = .ok (.iload_n 1, 1) := by decide +kernel
theorem dX6_pieceStands_48 : decode cX6_pieceStands 48 = .ok (.iconst 1, 1) := by decide +kernel
theorem dX6_pieceStands_49 : decode cX6_pieceStands 49 = .ok (.iadd, 1) := by decide +kernel
theorem dX6_pieceStands_50 : decode cX6_pieceStands 50 = .ok (.invokevirtual 61, 3) := by decide +kernel
theorem dX6_pieceStands_53 : decode cX6_pieceStands 53 = .ok (.ifCond .eq 16, 3) := by decide +kernel
theorem dX6_pieceStands_56 : decode cX6_pieceStands 56 = .ok (.aload_n 0, 1) := by decide +kernel
theorem dX6_pieceStands_57 : decode cX6_pieceStands 57 = .ok (.bipush 41, 2) := by decide +kernel
theorem dX6_pieceStands_59 : decode cX6_pieceStands 59 = .ok (.invokevirtual 49, 3) := by decide +kernel
theorem dX6_pieceStands_62 : decode cX6_pieceStands 62 = .ok (.ifCond .eq 7, 3) := by decide +kernel
theorem dX6_pieceStands_65 : decode cX6_pieceStands 65 = .ok (.iconst 1, 1) := by decide +kernel
theorem dX6_pieceStands_66 : decode cX6_pieceStands 66 = .ok (.goto 4, 3) := by decide +kernel
theorem dX6_pieceStands_69 : decode cX6_pieceStands 69 = .ok (.iconst 0, 1) := by decide +kernel
theorem dX6_pieceStands_70 : decode cX6_pieceStands 70 = .ok (.ireturn, 1) := by decide +kernel
theorem dX6_pieceStands_71 : decode cX6_pieceStands 71 = .ok (.aload_n 0, 1) := by decide +kernel
theorem dX6_pieceStands_72 : decode cX6_pieceStands 72 = .ok (.iload_n 1, 1) := by decide +kernel
theorem dX6_pieceStands_73 : decode cX6_pieceStands 73 = .ok (.iconst 1, 1) := by decide +kernel
theorem dX6_pieceStands_74 : decode cX6_pieceStands 74 = .ok (.iadd, 1) := by decide +kernel
theorem dX6_pieceStands_75 : decode cX6_pieceStands 75 = .ok (.invokevirtual 96, 3) := by decide +kernel
theorem dX6_pieceStands_78 : decode cX6_pieceStands 78 = .ok (.ifCond .ne 5, 3) := by decide +kernel
theorem dX6_pieceStands_81 : decode cX6_pieceStands 81 = .ok (.iconst 0, 1) := by decide +kernel
theorem dX6_pieceStands_82 : decode cX6_pieceStands 82 = .ok (.ireturn, 1) := by decide +kernel
theorem dX6_pieceStands_83 : decode cX6_pieceStands 83 = .ok (.aload_n 0, 1) := by decide +kernel
theorem dX6_pieceStands_84 : decode cX6_pieceStands 84 = .ok (.bipush 33, 2) := by decide +kernel
theorem dX6_pieceStands_86 : decode cX6_pieceStands 86 = .ok (.iconst 0, 1) := by decide +kernel
theorem dX6_pieceStands_87 : decode cX6_pieceStands 87 = .ok (.invokevirtual 88, 3) := by decide +kernel
theorem dX6_pieceStands_90 : decode cX6_pieceStands 90 = .ok (.iconst 1, 1) := by decide +kernel
theorem dX6_pieceStands_91 : decode cX6_pieceStands 91 = .ok (.ireturn, 1) := by decide +kernel
theorem dX6_pieceStands_92 : decode cX6_pieceStands 92 = .ok (.aload_n 0, 1) := by decide +kernel
theorem dX6_pieceStands_93 : decode cX6_pieceStands 93 = .ok (.iconst 2, 1) := by decide +kernel
theorem dX6_pieceStands_94 : decode cX6_pieceStands 94 = .ok (.iload_n 1, 1) := by decide +kernel
theorem dX6_pieceStands_95 : decode cX6_pieceStands 95 = .ok (.invokevirtual 61, 3) := by decide +kernel
theorem dX6_pieceStands_98 : decode cX6_pieceStands 98 = .ok (.ifCond .ne 5, 3) := by decide +kernel
theorem dX6_pieceStands_101 : decode cX6_pieceStands 101 = .ok (.iconst 0, 1) := by decide +kernel
theorem dX6_pieceStands_102 : decode cX6_pieceStands 102 = .ok (.ireturn, 1) := by decide +kernel
theorem dX6_pieceStands_103 : decode cX6_pieceStands 103 = .ok (.aload_n 0, 1) := by decide +kernel
theorem dX6_pieceStands_104 : decode cX6_pieceStands 104 = .ok (.invokevirtual 53, 3) := by decide +kernel
theorem dX6_pieceStands_107 : decode cX6_pieceStands 107 = .ok (.istore_n 3, 1) := by decide +kernel
theorem dX6_pieceStands_108 : decode cX6_pieceStands 108 = .ok (.iload_n 3, 1) := by decide +kernel
theorem dX6_pieceStands_109 : decode cX6_pieceStands 109 = .ok (.bipush 60, 2) := by decide +kernel
theorem dX6_pieceStands_111 : decode cX6_pieceStands 111 = .ok (.if_icmp .eq 21, 3) := by decide +kernel
theorem dX6_pieceStands_114 : decode cX6_pieceStands 114 = .ok (.iload_n 3, 1) := by decide +kernel
theorem dX6_pieceStands_115 : decode cX6_pieceStands 115 = .ok (.bipush 62, 2) := by decide +kernel
theorem dX6_pieceStands_117 : decode cX6_pieceStands 117 = .ok (.if_icmp .eq 15, 3) := by decide +kernel
theorem dX6_pieceStands_120 : decode cX6_pieceStands 120 = .ok (.iload_n 3, 1) := by decide +kernel
theorem dX6_pieceStands_121 : decode cX6_pieceStands 121 = .ok (.bipush 61, 2) := by decide +kernel
theorem dX6_pieceStands_123 : decode cX6_pieceStands 123 = .ok (.if_icmp .eq 9, 3) := by decide +kernel
theorem dX6_pieceStands_126 : decode cX6_pieceStands 126 = .ok (.aload_n 0, 1) := by decide +kernel
theorem dX6_pieceStands_127 : decode cX6_pieceStands 127 = .ok (.iconst 1, 1) := by decide +kernel
theorem dX6_pieceStands_128 : decode cX6_pieceStands 128 = .ok (.invokevirtual 57, 3) := by decide +kernel
theorem dX6_pieceStands_131 : decode cX6_pieceStands 131 = .ok (.ireturn, 1) := by decide +kernel
theorem dX6_pieceStands_132 : decode cX6_pieceStands 132 = .ok (.aload_n 0, 1) := by decide +kernel
theorem dX6_pieceStands_133 : decode cX6_pieceStands 133 = .ok (.dup, 1) := by decide +kernel
theorem dX6_pieceStands_134 : decode cX6_pieceStands 134 = .ok (.getfield 28, 3) := by decide +kernel
theorem dX6_pieceStands_137 : decode cX6_pieceStands 137 = .ok (.iconst 1, 1) := by decide +kernel
theorem dX6_pieceStands_138 : decode cX6_pieceStands 138 = .ok (.iadd, 1) := by decide +kernel
theorem dX6_pieceStands_139 : decode cX6_pieceStands 139 = .ok (.putfield 28, 3) := by decide +kernel
theorem dX6_pieceStands_142 : decode cX6_pieceStands 142 = .ok (.aload_n 0, 1) := by decide +kernel
theorem dX6_pieceStands_143 : decode cX6_pieceStands 143 = .ok (.iconst 2, 1) := by decide +kernel
theorem dX6_pieceStands_144 : decode cX6_pieceStands 144 = .ok (.iload_n 1, 1) := by decide +kernel
theorem dX6_pieceStands_145 : decode cX6_pieceStands 145 = .ok (.invokevirtual 61, 3) := by decide +kernel
theorem dX6_pieceStands_148 : decode cX6_pieceStands 148 = .ok (.ifCond .ne 5, 3) := by decide +kernel
theorem dX6_pieceStands_151 : decode cX6_pieceStands 151 = .ok (.iconst 0, 1) := by decide +kernel
theorem dX6_pieceStands_152 : decode cX6_pieceStands 152 = .ok (.ireturn, 1) := by decide +kernel
theorem dX6_pieceStands_153 : decode cX6_pieceStands 153 = .ok (.aload_n 0, 1) := by decide +kernel
theorem dX6_pieceStands_154 : decode cX6_pieceStands 154 = .ok (.iload_n 3, 1) := by decide +kernel
theorem dX6_pieceStands_155 : decode cX6_pieceStands 155 = .ok (.iconst 0, 1) := by decide +kernel
theorem dX6_pieceStands_156 : decode cX6_pieceStands 156 = .ok (.invokevirtual 88, 3) := by decide +kernel
theorem dX6_pieceStands_159 : decode cX6_pieceStands 159 = .ok (.iconst 1, 1) := by decide +kernel
theorem dX6_pieceStands_160 : decode cX6_pieceStands 160 = .ok (.ireturn, 1) := by decide +kernel
theorem dX6_factorStands_0 : decode cX6_factorStands 0 = .ok (.aload_n 0, 1) := by decide +kernel
theorem dX6_factorStands_1 : decode cX6_factorStands 1 = .ok (.invokevirtual 53, 3) := by decide +kernel
theorem dX6_factorStands_4 : decode cX6_factorStands 4 = .ok (.istore_n 2, 1) := by decide +kernel
theorem dX6_factorStands_5 : decode cX6_factorStands 5 = .ok (.iload_n 2, 1) := by decide +kernel
theorem dX6_factorStands_6 : decode cX6_factorStands 6 = .ok (.bipush 91, 2) := by decide +kernel
theorem dX6_factorStands_8 : decode cX6_factorStands 8 = .ok (.if_icmp .ne 51, 3) := by decide +kernel
theorem dX6_factorStands_11 : decode cX6_factorStands 11 = .ok (.iload_n 1, 1) := by decide +kernel
theorem dX6_factorStands_12 : decode cX6_factorStands 12 = .ok (.bipush 6, 2) := by decide +kernel
theorem dX6_factorStands_14 : decode cX6_factorStands 14 = .ok (.if_icmp .lt 9, 3) := by decide +kernel
theorem dX6_factorStands_17 : decode cX6_factorStands 17 = .ok (.aload_n 0, 1) := by decide +kernel
theorem dX6_factorStands_18 : decode cX6_factorStands 18 = .ok (.iconst 5, 1) := by decide +kernel
theorem dX6_factorStands_19 : decode cX6_factorStands 19 = .ok (.invokevirtual 57, 3) := by decide +kernel
theorem dX6_factorStands_22 : decode cX6_factorStands 22 = .ok (.ireturn, 1) := by decide +kernel
theorem dX6_factorStands_23 : decode cX6_factorStands 23 = .ok (.aload_n 0, 1) := by decide +kernel
theorem dX6_factorStands_24 : decode cX6_factorStands 24 = .ok (.dup, 1) := by decide +kernel
theorem dX6_factorStands_25 : decode cX6_factorStands 25 = .ok (.getfield 28, 3) := by decide +kernel
theorem dX6_factorStands_28 : decode cX6_factorStands 28 = .ok (.iconst 1, 1) := by decide +kernel
theorem dX6_factorStands_29 : decode cX6_factorStands 29 = .ok (.iadd, 1) := by decide +kernel
theorem dX6_factorStands_30 : decode cX6_factorStands 30 = .ok (.putfield 28, 3) := by decide +kernel
theorem dX6_factorStands_33 : decode cX6_factorStands 33 = .ok (.aload_n 0, 1) := by decide +kernel
theorem dX6_factorStands_34 : decode cX6_factorStands 34 = .ok (.iconst 2, 1) := by decide +kernel
theorem dX6_factorStands_35 : decode cX6_factorStands 35 = .ok (.iload_n 1, 1) := by decide +kernel
theorem dX6_factorStands_36 : decode cX6_factorStands 36 = .ok (.iconst 1, 1) := by decide +kernel
theorem dX6_factorStands_37 : decode cX6_factorStands 37 = .ok (.iadd, 1) := by decide +kernel
theorem dX6_factorStands_38 : decode cX6_factorStands 38 = .ok (.invokevirtual 61, 3) := by decide +kernel
theorem dX6_factorStands_41 : decode cX6_factorStands 41 = .ok (.ifCond .eq 16, 3) := by decide +kernel
theorem dX6_factorStands_44 : decode cX6_factorStands 44 = .ok (.aload_n 0, 1) := by decide +kernel
theorem dX6_factorStands_45 : decode cX6_factorStands 45 = .ok (.bipush 93, 2) := by decide +kernel
theorem dX6_factorStands_47 : decode cX6_factorStands 47 = .ok (.invokevirtual 49, 3) := by decide +kernel
theorem dX6_factorStands_50 : decode cX6_factorStands 50 = .ok (.ifCond .eq 7, 3) := by decide +kernel
theorem dX6_factorStands_53 : decode cX6_factorStands 53 = .ok (.iconst 1, 1) := by decide +kernel
theorem dX6_factorStands_54 : decode cX6_factorStands 54 = .ok (.goto 4, 3) := by decide +kernel
theorem dX6_factorStands_57 : decode cX6_factorStands 57 = .ok (.iconst 0, 1) := by decide +kernel
theorem dX6_factorStands_58 : decode cX6_factorStands 58 = .ok (.ireturn, 1) := by decide +kernel
theorem dX6_factorStands_59 : decode cX6_factorStands 59 = .ok (.iload_n 2, 1) := by decide +kernel
theorem dX6_factorStands_60 : decode cX6_factorStands 60 = .ok (.invokestatic 102, 3) := by decide +kernel
theorem dX6_factorStands_63 : decode cX6_factorStands 63 = .ok (.ifCond .eq 8, 3) := by decide +kernel
theorem dX6_factorStands_66 : decode cX6_factorStands 66 = .ok (.aload_n 0, 1) := by decide +kernel
theorem dX6_factorStands_67 : decode cX6_factorStands 67 = .ok (.invokevirtual 105, 3) := by decide +kernel
theorem dX6_factorStands_70 : decode cX6_factorStands 70 = .ok (.ireturn, 1) := by decide +kernel
theorem dX6_factorStands_71 : decode cX6_factorStands 71 = .ok (.iload_n 2, 1) := by decide +kernel
theorem dX6_factorStands_72 : decode cX6_factorStands 72 = .ok (.iconst (-1), 1) := by decide +kernel
theorem dX6_factorStands_73 : decode cX6_factorStands 73 = .ok (.if_icmp .eq 13, 3) := by decide +kernel
theorem dX6_factorStands_76 : decode cX6_factorStands 76 = .ok (.ldc 109, 2) := by decide +kernel
theorem dX6_factorStands_78 : decode cX6_factorStands 78 = .ok (.iload_n 2, 1) := by decide +kernel
theorem dX6_factorStands_79 : decode cX6_factorStands 79 = .ok (.i2c, 1) := by decide +kernel
theorem dX6_factorStands_80 : decode cX6_factorStands 80 = .ok (.invokevirtual 111, 3) := by decide +kernel
theorem dX6_factorStands_83 : decode cX6_factorStands 83 = .ok (.ifCond .ge 9, 3) := by decide +kernel
theorem dX6_factorStands_86 : decode cX6_factorStands 86 = .ok (.aload_n 0, 1) := by decide +kernel
theorem dX6_factorStands_87 : decode cX6_factorStands 87 = .ok (.iconst 1, 1) := by decide +kernel
theorem dX6_factorStands_88 : decode cX6_factorStands 88 = .ok (.invokevirtual 57, 3) := by decide +kernel
theorem dX6_factorStands_91 : decode cX6_factorStands 91 = .ok (.ireturn, 1) := by decide +kernel
theorem dX6_factorStands_92 : decode cX6_factorStands 92 = .ok (.aload_n 0, 1) := by decide +kernel
theorem dX6_factorStands_93 : decode cX6_factorStands 93 = .ok (.bipush 97, 2) := by decide +kernel
theorem dX6_factorStands_95 : decode cX6_factorStands 95 = .ok (.iload_n 2, 1) := by decide +kernel
theorem dX6_factorStands_96 : decode cX6_factorStands 96 = .ok (.invokevirtual 88, 3) := by decide +kernel
theorem dX6_factorStands_99 : decode cX6_factorStands 99 = .ok (.aload_n 0, 1) := by decide +kernel
theorem dX6_factorStands_100 : decode cX6_factorStands 100 = .ok (.dup, 1) := by decide +kernel
theorem dX6_factorStands_101 : decode cX6_factorStands 101 = .ok (.getfield 28, 3) := by decide +kernel
theorem dX6_factorStands_104 : decode cX6_factorStands 104 = .ok (.iconst 1, 1) := by decide +kernel
theorem dX6_factorStands_105 : decode cX6_factorStands 105 = .ok (.iadd, 1) := by decide +kernel
theorem dX6_factorStands_106 : decode cX6_factorStands 106 = .ok (.putfield 28, 3) := by decide +kernel
theorem dX6_factorStands_109 : decode cX6_factorStands 109 = .ok (.iconst 1, 1) := by decide +kernel
theorem dX6_factorStands_110 : decode cX6_factorStands 110 = .ok (.ireturn, 1) := by decide +kernel
theorem dX6_numberStands_0 : decode cX6_numberStands 0 = .ok (.iconst 0, 1) := by decide +kernel
theorem dX6_numberStands_1 : decode cX6_numberStands 1 = .ok (.istore_n 1, 1) := by decide +kernel
theorem dX6_numberStands_2 : decode cX6_numberStands 2 = .ok (.iconst 0, 1) := by decide +kernel
theorem dX6_numberStands_3 : decode cX6_numberStands 3 = .ok (.istore_n 2, 1) := by decide +kernel
theorem dX6_numberStands_4 : decode cX6_numberStands 4 = .ok (.iload_n 2, 1) := by decide +kernel
theorem dX6_numberStands_5 : decode cX6_numberStands 5 = .ok (.iconst 5, 1) := by decide +kernel
theorem dX6_numberStands_6 : decode cX6_numberStands 6 = .ok (.if_icmp .ge 42, 3) := by decide +kernel
theorem dX6_numberStands_9 : decode cX6_numberStands 9 = .ok (.aload_n 0, 1) := by decide +kernel
theorem dX6_numberStands_10 : decode cX6_numberStands 10 = .ok (.invokevirtual 53, 3) := by decide +kernel
theorem dX6_numberStands_13 : decode cX6_numberStands 13 = .ok (.invokestatic 102, 3) := by decide +kernel
theorem dX6_numberStands_16 : decode cX6_numberStands 16 = .ok (.ifCond .eq 32, 3) := by decide +kernel
theorem dX6_numberStands_19 : decode cX6_numberStands 19 = .ok (.bipush 10, 2) := by decide +kernel
theorem dX6_numberStands_21 : decode cX6_numberStands 21 = .ok (.iload_n 1, 1) := by decide +kernel
theorem dX6_numberStands_22 : decode cX6_numberStands 22 = .ok (.imul, 1) := by decide +kernel
theorem dX6_numberStands_23 : decode cX6_numberStands 23 = .ok (.aload_n 0, 1) := by decide +kernel
theorem dX6_numberStands_24 : decode cX6_numberStands 24 = .ok (.invokevirtual 53, 3) := by decide +kernel
theorem dX6_numberStands_27 : decode cX6_numberStands 27 = .ok (.iadd, 1) := by decide +kernel
theorem dX6_numberStands_28 : decode cX6_numberStands 28 = .ok (.bipush 48, 2) := by decide +kernel
theorem dX6_numberStands_30 : decode cX6_numberStands 30 = .ok (.isub, 1) := by decide +kernel
theorem dX6_numberStands_31 : decode cX6_numberStands 31 = .ok (.istore_n 1, 1) := by decide +kernel
theorem dX6_numberStands_32 : decode cX6_numberStands 32 = .ok (.aload_n 0, 1) := by decide +kernel
theorem dX6_numberStands_33 : decode cX6_numberStands 33 = .ok (.dup, 1) := by decide +kernel
theorem dX6_numberStands_34 : decode cX6_numberStands 34 = .ok (.getfield 28, 3) := by decide +kernel
theorem dX6_numberStands_37 : decode cX6_numberStands 37 = .ok (.iconst 1, 1) := by decide +kernel
theorem dX6_numberStands_38 : decode cX6_numberStands 38 = .ok (.iadd, 1) := by decide +kernel
theorem dX6_numberStands_39 : decode cX6_numberStands 39 = .ok (.putfield 28, 3) := by decide +kernel
theorem dX6_numberStands_42 : decode cX6_numberStands 42 = .ok (.iinc 2 1, 3) := by decide +kernel
theorem dX6_numberStands_45 : decode cX6_numberStands 45 = .ok (.goto (-41), 3) := by decide +kernel
theorem dX6_numberStands_48 : decode cX6_numberStands 48 = .ok (.aload_n 0, 1) := by decide +kernel
theorem dX6_numberStands_49 : decode cX6_numberStands 49 = .ok (.invokevirtual 53, 3) := by decide +kernel
theorem dX6_numberStands_52 : decode cX6_numberStands 52 = .ok (.invokestatic 102, 3) := by decide +kernel
theorem dX6_numberStands_55 : decode cX6_numberStands 55 = .ok (.ifCond .eq 9, 3) := by decide +kernel
theorem dX6_numberStands_58 : decode cX6_numberStands 58 = .ok (.aload_n 0, 1) := by decide +kernel
theorem dX6_numberStands_59 : decode cX6_numberStands 59 = .ok (.iconst 2, 1) := by decide +kernel
theorem dX6_numberStands_60 : decode cX6_numberStands 60 = .ok (.invokevirtual 57, 3) := by decide +kernel
theorem dX6_numberStands_63 : decode cX6_numberStands 63 = .ok (.ireturn, 1) := by decide +kernel
theorem dX6_numberStands_64 : decode cX6_numberStands 64 = .ok (.aload_n 0, 1) := by decide +kernel
theorem dX6_numberStands_65 : decode cX6_numberStands 65 = .ok (.bipush 48, 2) := by decide +kernel
theorem dX6_numberStands_67 : decode cX6_numberStands 67 = .ok (.iload_n 1, 1) := by decide +kernel
theorem dX6_numberStands_68 : decode cX6_numberStands 68 = .ok (.invokevirtual 88, 3) := by decide +kernel
theorem dX6_numberStands_71 : decode cX6_numberStands 71 = .ok (.iconst 1, 1) := by decide +kernel
theorem dX6_numberStands_72 : decode cX6_numberStands 72 = .ok (.ireturn, 1) := by decide +kernel
theorem dX6_isDigit_0 : decode cX6_isDigit 0 = .ok (.iload_n 0, 1) := by decide +kernel
theorem dX6_isDigit_1 : decode cX6_isDigit 1 = .ok (.bipush 48, 2) := by decide +kernel
theorem dX6_isDigit_3 : decode cX6_isDigit 3 = .ok (.if_icmp .lt 13, 3) := by decide +kernel
theorem dX6_isDigit_6 : decode cX6_isDigit 6 = .ok (.iload_n 0, 1) := by decide +kernel
theorem dX6_isDigit_7 : decode cX6_isDigit 7 = .ok (.bipush 57, 2) := by decide +kernel
theorem dX6_isDigit_9 : decode cX6_isDigit 9 = .ok (.if_icmp .gt 7, 3) := by decide +kernel
theorem dX6_isDigit_12 : decode cX6_isDigit 12 = .ok (.iconst 1, 1) := by decide +kernel
theorem dX6_isDigit_13 : decode cX6_isDigit 13 = .ok (.goto 4, 3) := by decide +kernel
theorem dX6_isDigit_16 : decode cX6_isDigit 16 = .ok (.iconst 0, 1) := by decide +kernel
theorem dX6_isDigit_17 : decode cX6_isDigit 17 = .ok (.ireturn, 1) := by decide +kernel
theorem dX7_heightOf_0 : decode cX7_heightOf 0 = .ok (.iload_n 2, 1) := by decide +kernel
theorem dX7_heightOf_1 : decode cX7_heightOf 1 = .ok (.iload_n 3, 1) := by decide +kernel
theorem dX7_heightOf_2 : decode cX7_heightOf 2 = .ok (.invokestatic 35, 3) := by decide +kernel
theorem dX7_heightOf_5 : decode cX7_heightOf 5 = .ok (.istore 4, 2) := by decide +kernel
theorem dX7_heightOf_7 : decode cX7_heightOf 7 = .ok (.aload_n 1, 1) := by decide +kernel
theorem dX7_heightOf_8 : decode cX7_heightOf 8 = .ok (.getfield 39, 3) := by decide +kernel
theorem dX7_heightOf_11 : decode cX7_heightOf 11 = .ok (.ifCond .eq 8, 3) := by decide +kernel
theorem dX7_heightOf_14 : decode cX7_heightOf 14 = .ok (.iload 4, 2) := by decide +kernel
theorem dX7_heightOf_16 : decode cX7_heightOf 16 = .ok (.goto 4, 3) := by decide +kernel
theorem dX7_heightOf_19 : decode cX7_heightOf 19 = .ok (.iload_n 3, 1) := by decide +kernel
theorem dX7_heightOf_20 : decode cX7_heightOf 20 = .ok (.aload_n 1, 1) := by decide +kernel
theorem dX7_heightOf_21 : decode cX7_heightOf 21 = .ok (.getfield 43, 3) := by decide +kernel
theorem dX7_heightOf_24 : decode cX7_heightOf 24 = .ok (.invokestatic 46, 3) := by decide +kernel
theorem dX7_heightOf_27 : decode cX7_heightOf 27 = .ok (.istore 5, 2) := by decide +kernel
theorem dX7_heightOf_29 : decode cX7_heightOf 29 = .ok (.iload 5, 2) := by decide +kernel
theorem dX7_heightOf_31 : decode cX7_heightOf 31 = .ok (.aload_n 1, 1) := by decide +kernel
theorem dX7_heightOf_32 : decode cX7_heightOf 32 = .ok (.getfield 49, 3) := by decide +kernel
theorem dX7_heightOf_35 : decode cX7_heightOf 35 = .ok (.if_icmp .gt 18, 3) := by decide +kernel
theorem dX7_heightOf_38 : decode cX7_heightOf 38 = .ok (.aload_n 1, 1) := by decide +kernel
theorem dX7_heightOf_39 : decode cX7_heightOf 39 = .ok (.iload_n 2, 1) := by decide +kernel
theorem dX7_heightOf_40 : decode cX7_heightOf 40 = .ok (.invokevirtual 52, 3) := by decide +kernel
theorem dX7_heightOf_43 : decode cX7_heightOf 43 = .ok (.ifCond .eq 10, 3) := by decide +kernel
theorem dX7_heightOf_46 : decode cX7_heightOf 46 = .ok (.aload_n 1, 1) := by decide +kernel
theorem dX7_heightOf_47 : decode cX7_heightOf 47 = .ok (.getfield 56, 3) := by decide +kernel
theorem dX7_heightOf_50 : decode cX7_heightOf 50 = .ok (.ifnonnull 5, 3) := by decide +kernel
theorem dX7_heightOf_53 : decode cX7_heightOf 53 = .ok (.iconst 0, 1) := by decide +kernel
theorem dX7_heightOf_54 : decode cX7_heightOf 54 = .ok (.ireturn, 1) := by decide +kernel
theorem dX7_heightOf_55 : decode cX7_heightOf 55 = .ok (.aload_n 0, 1) := by decide +kernel
theorem dX7_heightOf_56 : decode cX7_heightOf 56 = .ok (.getfield 20, 3) := by decide +kernel
theorem dX7_heightOf_59 : decode cX7_heightOf 59 = .ok (.getfield 60, 3) := by decide +kernel
theorem dX7_heightOf_62 : decode cX7_heightOf 62 = .ok (.astore 6, 2) := by decide +kernel
theorem dX7_heightOf_64 : decode cX7_heightOf 64 = .ok (.aload 6, 2) := by decide +kernel
theorem dX7_heightOf_66 : decode cX7_heightOf 66 = .ok (.bipush 100, 2) := by decide +kernel
theorem dX7_heightOf_68 : decode cX7_heightOf 68 = .ok (.iload_n 2, 1) := by decide +kernel
theorem dX7_heightOf_69 : decode cX7_heightOf 69 = .ok (.iastore, 1) := by decide +kernel
theorem dX7_heightOf_70 : decode cX7_heightOf 70 = .ok (.aload 6, 2) := by decide +kernel
theorem dX7_heightOf_72 : decode cX7_heightOf 72 = .ok (.bipush 109, 2) := by decide +kernel
theorem dX7_heightOf_74 : decode cX7_heightOf 74 = .ok (.iload_n 3, 1) := by decide +kernel
theorem dX7_heightOf_75 : decode cX7_heightOf 75 = .ok (.iastore, 1) := by decide +kernel
theorem dX7_heightOf_76 : decode cX7_heightOf 76 = .ok (.aload 6, 2) := by decide +kernel
theorem dX7_heightOf_78 : decode cX7_heightOf 78 = .ok (.bipush 115, 2) := by decide +kernel
theorem dX7_heightOf_80 : decode cX7_heightOf 80 = .ok (.iload 4, 2) := by decide +kernel
theorem dX7_heightOf_82 : decode cX7_heightOf 82 = .ok (.iastore, 1) := by decide +kernel
theorem dX7_heightOf_83 : decode cX7_heightOf 83 = .ok (.aload 6, 2) := by decide +kernel
theorem dX7_heightOf_85 : decode cX7_heightOf 85 = .ok (.bipush 97, 2) := by decide +kernel
theorem dX7_heightOf_87 : decode cX7_heightOf 87 = .ok (.iload 5, 2) := by decide +kernel
theorem dX7_heightOf_89 : decode cX7_heightOf 89 = .ok (.iastore, 1) := by decide +kernel
theorem dX7_heightOf_90 : decode cX7_heightOf 90 = .ok (.aload 6, 2) := by decide +kernel
theorem dX7_heightOf_92 : decode cX7_heightOf 92 = .ok (.bipush 117, 2) := by decide +kernel
theorem dX7_heightOf_94 : decode cX7_heightOf 94 = .ok (.iload 4, 2) := by decide +kernel
theorem dX7_heightOf_96 : decode cX7_heightOf 96 = .ok (.iload_n 2, 1) := by decide +kernel
theorem dX7_heightOf_97 : decode cX7_heightOf 97 = .ok (.sipush 720, 3) := by decide +kernel
theorem dX7_heightOf_100 : decode cX7_heightOf 100 = .ok (.invokestatic 35, 3) := by decide +kernel
theorem dX7_heightOf_103 : decode cX7_heightOf 103 = .ok (.invokestatic 46, 3) := by decide +kernel
theorem dX7_heightOf_106 : decode cX7_heightOf 106 = .ok (.iastore, 1) := by decide +kernel
theorem dX7_heightOf_107 : decode cX7_heightOf 107 = .ok (.aload 6, 2) := by decide +kernel
theorem dX7_heightOf_109 : decode cX7_heightOf 109 = .ok (.bipush 102, 2) := by decide +kernel
theorem dX7_heightOf_111 : decode cX7_heightOf 111 = .ok (.iload_n 2, 1) := by decide +kernel
theorem dX7_heightOf_112 : decode cX7_heightOf 112 = .ok (.bipush 7, 2) := by decide +kernel
theorem dX7_heightOf_114 : decode cX7_heightOf 114 = .ok (.irem, 1) := by decide +kernel
theorem dX7_heightOf_115 : decode cX7_heightOf 115 = .ok (.iastore, 1) := by decide +kernel
theorem dX7_heightOf_116 : decode cX7_heightOf 116 = .ok (.aload 6, 2) := by decide +kernel
theorem dX7_heightOf_118 : decode cX7_heightOf 118 = .ok (.bipush 120, 2) := by decide +kernel
theorem dX7_heightOf_120 : decode cX7_heightOf 120 = .ok (.aload_n 0, 1) := by decide +kernel
theorem dX7_heightOf_121 : decode cX7_heightOf 121 = .ok (.aload_n 1, 1) := by decide +kernel
theorem dX7_heightOf_122 : decode cX7_heightOf 122 = .ok (.getfield 64, 3) := by decide +kernel
theorem dX7_heightOf_125 : decode cX7_heightOf 125 = .ok (.iload_n 2, 1) := by decide +kernel
theorem dX7_heightOf_126 : decode cX7_heightOf 126 = .ok (.iload_n 3, 1) := by decide +kernel
theorem dX7_heightOf_127 : decode cX7_heightOf 127 = .ok (.invokevirtual 67, 3) := by decide +kernel
theorem dX7_heightOf_130 : decode cX7_heightOf 130 = .ok (.iastore, 1) := by decide +kernel
theorem dX7_heightOf_131 : decode cX7_heightOf 131 = .ok (.aload_n 0, 1) := by decide +kernel
theorem dX7_heightOf_132 : decode cX7_heightOf 132 = .ok (.getfield 20, 3) := by decide +kernel
theorem dX7_heightOf_135 : decode cX7_heightOf 135 = .ok (.aload_n 1, 1) := by decide +kernel
theorem dX7_heightOf_136 : decode cX7_heightOf 136 = .ok (.getfield 56, 3) := by decide +kernel
theorem dX7_heightOf_139 : decode cX7_heightOf 139 = .ok (.invokevirtual 71, 3) := by decide +kernel
theorem dX7_heightOf_142 : decode cX7_heightOf 142 = .ok (.istore 7, 2) := by decide +kernel
theorem dX7_heightOf_144 : decode cX7_heightOf 144 = .ok (.iload 7, 2) := by decide +kernel
theorem dX7_heightOf_146 : decode cX7_heightOf 146 = .ok (.iconst (-1), 1) := by decide +kernel
theorem dX7_heightOf_147 : decode cX7_heightOf 147 = .ok (.if_icmp .ne 7, 3) := by decide +kernel
theorem dX7_heightOf_150 : decode cX7_heightOf 150 = .ok (.iconst 0, 1) := by decide +kernel
theorem dX7_heightOf_151 : decode cX7_heightOf 151 = .ok (.goto 26, 3) := by decide +kernel
theorem dX7_heightOf_154 : decode cX7_heightOf 154 = .ok (.iconst 0, 1) := by decide +kernel
theorem dX7_heightOf_155 : decode cX7_heightOf 155 = .ok (.sipush 1000, 3) := by decide +kernel
theorem dX7_heightOf_158 : decode cX7_heightOf 158 = .ok (.aload_n 0, 1) := by decide +kernel
theorem dX7_heightOf_159 : decode cX7_heightOf 159 = .ok (.getfield 20, 3) := by decide +kernel
theorem dX7_heightOf_162 : decode cX7_heightOf 162 = .ok (.aload_n 1, 1) := by decide +kernel
theorem dX7_heightOf_163 : decode cX7_heightOf 163 = .ok (.getfield 56, 3) := by decide +kernel
theorem dX7_heightOf_166 : decode cX7_heightOf 166 = .ok (.iload 7, 2) := by decide +kernel
theorem dX7_heightOf_168 : decode cX7_heightOf 168 = .ok (.invokevirtual 75, 3) := by decide +kernel
theorem dX7_heightOf_171 : decode cX7_heightOf 171 = .ok (.invokestatic 79, 3) := by decide +kernel
theorem dX7_heightOf_174 : decode cX7_heightOf 174 = .ok (.invokestatic 84, 3) := by decide +kernel
theorem dX7_heightOf_177 : decode cX7_heightOf 177 = .ok (.ireturn, 1) := by decide +kernel
theorem dX7_layOne_0 : decode cX7_layOne 0 = .ok (.aload_n 2, 1) := by decide +kernel
theorem dX7_layOne_1 : decode cX7_layOne 1 = .ok (.getfield 39, 3) := by decide +kernel
theorem dX7_layOne_4 : decode cX7_layOne 4 = .ok (.ifCond .eq 17, 3) := by decide +kernel
theorem dX7_layOne_7 : decode cX7_layOne 7 = .ok (.aload_n 2, 1) := by decide +kernel
theorem dX7_layOne_8 : decode cX7_layOne 8 = .ok (.getfield 43, 3) := by decide +kernel
theorem dX7_layOne_11 : decode cX7_layOne 11 = .ok (.iconst 4, 1) := by decide +kernel
theorem dX7_layOne_12 : decode cX7_layOne 12 = .ok (.aload_n 1, 1) := by decide +kernel
theorem dX7_layOne_13 : decode cX7_layOne 13 = .ok (.getfield 87, 3) := by decide +kernel
theorem dX7_layOne_16 : decode cX7_layOne 16 = .ok (.imul, 1) := by decide +kernel
theorem dX7_layOne_17 : decode cX7_layOne 17 = .ok (.isub, 1) := by decide +kernel
theorem dX7_layOne_18 : decode cX7_layOne 18 = .ok (.goto 7, 3) := by decide +kernel
theorem dX7_layOne_21 : decode cX7_layOne 21 = .ok (.aload_n 2, 1) := by decide +kernel
theorem dX7_layOne_22 : decode cX7_layOne 22 = .ok (.getfield 43, 3) := by decide +kernel
theorem dX7_layOne_25 : decode cX7_layOne 25 = .ok (.istore_n 3, 1) := by decide +kernel
theorem dX7_layOne_26 : decode cX7_layOne 26 = .ok (.aload_n 2, 1) := by decide +kernel
theorem dX7_layOne_27 : decode cX7_layOne 27 = .ok (.getfield 49, 3) := by decide +kernel
theorem dX7_layOne_30 : decode cX7_layOne 30 = .ok (.ineg, 1) := by decide +kernel
theorem dX7_layOne_31 : decode cX7_layOne 31 = .ok (.istore 4, 2) := by decide +kernel
theorem dX7_layOne_33 : decode cX7_layOne 33 = .ok (.iload 4, 2) := by decide +kernel
theorem dX7_layOne_35 : decode cX7_layOne 35 = .ok (.aload_n 2, 1) := by decide +kernel
theorem dX7_layOne_36 : decode cX7_layOne 36 = .ok (.getfield 49, 3) := by decide +kernel
theorem dX7_layOne_39 : decode cX7_layOne 39 = .ok (.if_icmp .gt 42, 3) := by decide +kernel
theorem dX7_layOne_42 : decode cX7_layOne 42 = .ok (.iload_n 3, 1) := by decide +kernel
theorem dX7_layOne_43 : decode cX7_layOne 43 = .ok (.iload 4, 2) := by decide +kernel
theorem dX7_layOne_45 : decode cX7_layOne 45 = .ok (.iadd, 1) := by decide +kernel
theorem dX7_layOne_46 : decode cX7_layOne 46 = .ok (.sipush 1440, 3) := by decide +kernel
theorem dX7_layOne_49 : decode cX7_layOne 49 = .ok (.invokestatic 100, 3) := by decide +kernel
theorem dX7_layOne_52 : decode cX7_layOne 52 = .ok (.istore 5, 2) := by decide +kernel
theorem dX7_layOne_54 : decode cX7_layOne 54 = .ok (.aload_n 1, 1) := by decide +kernel
theorem dX7_layOne_55 : decode cX7_layOne 55 = .ok (.iload 5, 2) := by decide +kernel
theorem dX7_layOne_57 : decode cX7_layOne 57 = .ok (.aload_n 0, 1) := by decide +kernel
theorem dX7_layOne_58 : decode cX7_layOne 58 = .ok (.aload_n 2, 1) := by decide +kernel
theorem dX7_layOne_59 : decode cX7_layOne 59 = .ok (.aload_n 1, 1) := by decide +kernel
theorem dX7_layOne_60 : decode cX7_layOne 60 = .ok (.getfield 87, 3) := by decide +kernel
theorem dX7_layOne_63 : decode cX7_layOne 63 = .ok (.iload 5, 2) := by decide +kernel
theorem dX7_layOne_65 : decode cX7_layOne 65 = .ok (.invokevirtual 103, 3) := by decide +kernel
theorem dX7_layOne_68 : decode cX7_layOne 68 = .ok (.aload_n 2, 1) := by decide +kernel
theorem dX7_layOne_69 : decode cX7_layOne 69 = .ok (.getfield 107, 3) := by decide +kernel
theorem dX7_layOne_72 : decode cX7_layOne 72 = .ok (.invokevirtual 110, 3) := by decide +kernel
theorem dX7_layOne_75 : decode cX7_layOne 75 = .ok (.iinc 4 1, 3) := by decide +kernel
theorem dX7_layOne_78 : decode cX7_layOne 78 = .ok (.goto (-45), 3) := by decide +kernel
theorem dX7_layOne_81 : decode cX7_layOne 81 = .ok (.return_, 1) := by decide +kernel
theorem dX7_luck_0 : decode cX7_luck 0 = .ok (.aload_n 0, 1) := by decide +kernel
theorem dX7_luck_1 : decode cX7_luck 1 = .ok (.getfield 28, 3) := by decide +kernel
theorem dX7_luck_4 : decode cX7_luck 4 = .ok (.sipush 1009, 3) := by decide +kernel
theorem dX7_luck_7 : decode cX7_luck 7 = .ok (.iload_n 2, 1) := by decide +kernel
theorem dX7_luck_8 : decode cX7_luck 8 = .ok (.imul, 1) := by decide +kernel
theorem dX7_luck_9 : decode cX7_luck 9 = .ok (.iadd, 1) := by decide +kernel
theorem dX7_luck_10 : decode cX7_luck 10 = .ok (.sipush 9176, 3) := by decide +kernel
theorem dX7_luck_13 : decode cX7_luck 13 = .ok (.iload_n 3, 1) := by decide +kernel
theorem dX7_luck_14 : decode cX7_luck 14 = .ok (.imul, 1) := by decide +kernel
theorem dX7_luck_15 : decode cX7_luck 15 = .ok (.iadd, 1) := by decide +kernel
theorem dX7_luck_16 : decode cX7_luck 16 = .ok (.bipush 31, 2) := by decide +kernel
theorem dX7_luck_18 : decode cX7_luck 18 = .ok (.iload_n 1, 1) := by decide +kernel
theorem dX7_luck_19 : decode cX7_luck 19 = .ok (.imul, 1) := by decide +kernel
theorem dX7_luck_20 : decode cX7_luck 20 = .ok (.iadd, 1) := by decide +kernel
theorem dX7_luck_21 : decode cX7_luck 21 = .ok (.istore 4, 2) := by decide +kernel
theorem dX7_luck_23 : decode cX7_luck 23 = .ok (.iload 4, 2) := by decide +kernel
theorem dX7_luck_25 : decode cX7_luck 25 = .ok (.sipush 25173, 3) := by decide +kernel
theorem dX7_luck_28 : decode cX7_luck 28 = .ok (.imul, 1) := by decide +kernel
theorem dX7_luck_29 : decode cX7_luck 29 = .ok (.sipush 13849, 3) := by decide +kernel
theorem dX7_luck_32 : decode cX7_luck 32 = .ok (.iadd, 1) := by decide +kernel
theorem dX7_luck_33 : decode cX7_luck 33 = .ok (.ldc 114, 2) := by decide +kernel
theorem dX7_luck_35 : decode cX7_luck 35 = .ok (.iand, 1) := by decide +kernel
theorem dX7_luck_36 : decode cX7_luck 36 = .ok (.bipush 100, 2) := by decide +kernel
theorem dX7_luck_38 : decode cX7_luck 38 = .ok (.irem, 1) := by decide +kernel
theorem dX7_luck_39 : decode cX7_luck 39 = .ok (.ireturn, 1) := by decide +kernel
theorem dX8_comesOn_0 : decode cX8_comesOn 0 = .ok (.aload_n 0, 1) := by decide +kernel
theorem dX8_comesOn_1 : decode cX8_comesOn 1 = .ok (.getfield 32, 3) := by decide +kernel
theorem dX8_comesOn_4 : decode cX8_comesOn 4 = .ok (.iload_n 1, 1) := by decide +kernel
theorem dX8_comesOn_5 : decode cX8_comesOn 5 = .ok (.bipush 7, 2) := by decide +kernel
theorem dX8_comesOn_7 : decode cX8_comesOn 7 = .ok (.irem, 1) := by decide +kernel
theorem dX8_comesOn_8 : decode cX8_comesOn 8 = .ok (.ishr, 1) := by decide +kernel
theorem dX8_comesOn_9 : decode cX8_comesOn 9 = .ok (.iconst 1, 1) := by decide +kernel
theorem dX8_comesOn_10 : decode cX8_comesOn 10 = .ok (.iand, 1) := by decide +kernel
theorem dX8_comesOn_11 : decode cX8_comesOn 11 = .ok (.iconst 1, 1) := by decide +kernel
theorem dX8_comesOn_12 : decode cX8_comesOn 12 = .ok (.if_icmp .ne 7, 3) := by decide +kernel
theorem dX8_comesOn_15 : decode cX8_comesOn 15 = .ok (.iconst 1, 1) := by decide +kernel
theorem dX8_comesOn_16 : decode cX8_comesOn 16 = .ok (.goto 4, 3) := by decide +kernel
theorem dX8_comesOn_19 : decode cX8_comesOn 19 = .ok (.iconst 0, 1) := by decide +kernel
theorem dX8_comesOn_20 : decode cX8_comesOn 20 = .ok (.ireturn, 1) := by decide +kernel
theorem dX9_put_0 : decode cX9_put 0 = .ok (.bipush 24, 2) := by decide +kernel
theorem dX9_put_2 : decode cX9_put 2 = .ok (.istore_n 2, 1) := by decide +kernel
theorem dX9_put_3 : decode cX9_put 3 = .ok (.iload_n 2, 1) := by decide +kernel
theorem dX9_put_4 : decode cX9_put 4 = .ok (.ifCond .lt 47, 3) := by decide +kernel
theorem dX9_put_7 : decode cX9_put 7 = .ok (.aload_n 0, 1) := by decide +kernel
theorem dX9_put_8 : decode cX9_put 8 = .ok (.getfield 15, 3) := by decide +kernel
theorem dX9_put_11 : decode cX9_put 11 = .ok (.aload_n 0, 1) := by decide +kernel
theorem dX9_put_12 : decode cX9_put 12 = .ok (.getfield 9, 3) := by decide +kernel
theorem dX9_put_15 : decode cX9_put 15 = .ok (.arraylength, 1) := by decide +kernel
theorem dX9_put_16 : decode cX9_put 16 = .ok (.if_icmp .ge 35, 3) := by decide +kernel
theorem dX9_put_19 : decode cX9_put 19 = .ok (.aload_n 0, 1) := by decide +kernel
theorem dX9_put_20 : decode cX9_put 20 = .ok (.getfield 9, 3) := by decide +kernel
theorem dX9_put_23 : decode cX9_put 23 = .ok (.aload_n 0, 1) := by decide +kernel
theorem dX9_put_24 : decode cX9_put 24 = .ok (.getfield 15, 3) := by decide +kernel
theorem dX9_put_27 : decode cX9_put 27 = .ok (.iload_n 1, 1) := by decide +kernel
theorem dX9_put_28 : decode cX9_put 28 = .ok (.iload_n 2, 1) := by decide +kernel
theorem dX9_put_29 : decode cX9_put 29 = .ok (.iushr, 1) := by decide +kernel
theorem dX9_put_30 : decode cX9_put 30 = .ok (.sipush 255, 3) := by decide +kernel
theorem dX9_put_33 : decode cX9_put 33 = .ok (.iand, 1) := by decide +kernel
theorem dX9_put_34 : decode cX9_put 34 = .ok (.iastore, 1) := by decide +kernel
theorem dX9_put_35 : decode cX9_put 35 = .ok (.aload_n 0, 1) := by decide +kernel
theorem dX9_put_36 : decode cX9_put 36 = .ok (.dup, 1) := by decide +kernel
theorem dX9_put_37 : decode cX9_put 37 = .ok (.getfield 15, 3) := by decide +kernel
theorem dX9_put_40 : decode cX9_put 40 = .ok (.iconst 1, 1) := by decide +kernel
theorem dX9_put_41 : decode cX9_put 41 = .ok (.iadd, 1) := by decide +kernel
theorem dX9_put_42 : decode cX9_put 42 = .ok (.putfield 15, 3) := by decide +kernel
theorem dX9_put_45 : decode cX9_put 45 = .ok (.iinc 2 (-8), 3) := by decide +kernel
theorem dX9_put_48 : decode cX9_put 48 = .ok (.goto (-45), 3) := by decide +kernel
theorem dX9_put_51 : decode cX9_put 51 = .ok (.return_, 1) := by decide +kernel
theorem dX9_wordAt_0 : decode cX9_wordAt 0 = .ok (.iconst 4, 1) := by decide +kernel
theorem dX9_wordAt_1 : decode cX9_wordAt 1 = .ok (.iload_n 1, 1) := by decide +kernel
theorem dX9_wordAt_2 : decode cX9_wordAt 2 = .ok (.imul, 1) := by decide +kernel
theorem dX9_wordAt_3 : decode cX9_wordAt 3 = .ok (.istore_n 2, 1) := by decide +kernel
theorem dX9_wordAt_4 : decode cX9_wordAt 4 = .ok (.iload_n 2, 1) := by decide +kernel
theorem dX9_wordAt_5 : decode cX9_wordAt 5 = .ok (.ifCond .lt 13, 3) := by decide +kernel
theorem dX9_wordAt_8 : decode cX9_wordAt 8 = .ok (.iload_n 2, 1) := by decide +kernel
theorem dX9_wordAt_9 : decode cX9_wordAt 9 = .ok (.iconst 3, 1) := by decide +kernel
theorem dX9_wordAt_10 : decode cX9_wordAt 10 = .ok (.iadd, 1) := by decide +kernel
theorem dX9_wordAt_11 : decode cX9_wordAt 11 = .ok (.aload_n 0, 1) := by decide +kernel
theorem dX9_wordAt_12 : decode cX9_wordAt 12 = .ok (.getfield 15, 3) := by decide +kernel
theorem dX9_wordAt_15 : decode cX9_wordAt 15 = .ok (.if_icmp .lt 5, 3) := by decide +kernel
theorem dX9_wordAt_18 : decode cX9_wordAt 18 = .ok (.iconst 0, 1) := by decide +kernel
theorem dX9_wordAt_19 : decode cX9_wordAt 19 = .ok (.ireturn, 1) := by decide +kernel
theorem dX9_wordAt_20 : decode cX9_wordAt 20 = .ok (.aload_n 0, 1) := by decide +kernel
theorem dX9_wordAt_21 : decode cX9_wordAt 21 = .ok (.getfield 9, 3) := by decide +kernel
theorem dX9_wordAt_24 : decode cX9_wordAt 24 = .ok (.iload_n 2, 1) := by decide +kernel
theorem dX9_wordAt_25 : decode cX9_wordAt 25 = .ok (.iaload, 1) := by decide +kernel
theorem dX9_wordAt_26 : decode cX9_wordAt 26 = .ok (.bipush 24, 2) := by decide +kernel
theorem dX9_wordAt_28 : decode cX9_wordAt 28 = .ok (.ishl, 1) := by decide +kernel
theorem dX9_wordAt_29 : decode cX9_wordAt 29 = .ok (.aload_n 0, 1) := by decide +kernel
theorem dX9_wordAt_30 : decode cX9_wordAt 30 = .ok (.getfield 9, 3) := by decide +kernel
theorem dX9_wordAt_33 : decode cX9_wordAt 33 = .ok (.iload_n 2, 1) := by decide +kernel
theorem dX9_wordAt_34 : decode cX9_wordAt 34 = .ok (.iconst 1, 1) := by decide +kernel
theorem dX9_wordAt_35 : decode cX9_wordAt 35 = .ok (.iadd, 1) := by decide +kernel
theorem dX9_wordAt_36 : decode cX9_wordAt 36 = .ok (.iaload, 1) := by decide +kernel
theorem dX9_wordAt_37 : decode cX9_wordAt 37 = .ok (.bipush 16, 2) := by decide +kernel
theorem dX9_wordAt_39 : decode cX9_wordAt 39 = .ok (.ishl, 1) := by decide +kernel
theorem dX9_wordAt_40 : decode cX9_wordAt 40 = .ok (.ior, 1) := by decide +kernel
theorem dX9_wordAt_41 : decode cX9_wordAt 41 = .ok (.aload_n 0, 1) := by decide +kernel
theorem dX9_wordAt_42 : decode cX9_wordAt 42 = .ok (.getfield 9, 3) := by decide +kernel
theorem dX9_wordAt_45 : decode cX9_wordAt 45 = .ok (.iload_n 2, 1) := by decide +kernel
theorem dX9_wordAt_46 : decode cX9_wordAt 46 = .ok (.iconst 2, 1) := by decide +kernel
theorem dX9_wordAt_47 : decode cX9_wordAt 47 = .ok (.iadd, 1) := by decide +kernel
theorem dX9_wordAt_48 : decode cX9_wordAt 48 = .ok (.iaload, 1) := by decide +kernel
theorem dX9_wordAt_49 : decode cX9_wordAt 49 = .ok (.bipush 8, 2) := by decide +kernel
theorem dX9_wordAt_51 : decode cX9_wordAt 51 = .ok (.ishl, 1) := by decide +kernel
theorem dX9_wordAt_52 : decode cX9_wordAt 52 = .ok (.ior, 1) := by decide +kernel
theorem dX9_wordAt_53 : decode cX9_wordAt 53 = .ok (.aload_n 0, 1) := by decide +kernel
theorem dX9_wordAt_54 : decode cX9_wordAt 54 = .ok (.getfield 9, 3) := by decide +kernel
theorem dX9_wordAt_57 : decode cX9_wordAt 57 = .ok (.iload_n 2, 1) := by decide +kernel
theorem dX9_wordAt_58 : decode cX9_wordAt 58 = .ok (.iconst 3, 1) := by decide +kernel
theorem dX9_wordAt_59 : decode cX9_wordAt 59 = .ok (.iadd, 1) := by decide +kernel
theorem dX9_wordAt_60 : decode cX9_wordAt 60 = .ok (.iaload, 1) := by decide +kernel
theorem dX9_wordAt_61 : decode cX9_wordAt 61 = .ok (.ior, 1) := by decide +kernel
theorem dX9_wordAt_62 : decode cX9_wordAt 62 = .ok (.ireturn, 1) := by decide +kernel
theorem dX9_clear_0 : decode cX9_clear 0 = .ok (.aload_n 0, 1) := by decide +kernel
theorem dX9_clear_1 : decode cX9_clear 1 = .ok (.iconst 0, 1) := by decide +kernel
theorem dX9_clear_2 : decode cX9_clear 2 = .ok (.putfield 15, 3) := by decide +kernel
theorem dX9_clear_5 : decode cX9_clear 5 = .ok (.return_, 1) := by decide +kernel
theorem dX11_seed_0 : decode cX11_seed 0 = .ok (.iload_n 1, 1) := by decide +kernel
theorem dX11_seed_1 : decode cX11_seed 1 = .ok (.iconst 0, 1) := by decide +kernel
theorem dX11_seed_2 : decode cX11_seed 2 = .ok (.sipush 999, 3) := by decide +kernel
theorem dX11_seed_5 : decode cX11_seed 5 = .ok (.invokestatic 75, 3) := by decide +kernel
theorem dX11_seed_8 : decode cX11_seed 8 = .ok (.ifCond .ne 5, 3) := by decide +kernel
theorem dX11_seed_11 : decode cX11_seed 11 = .ok (.iconst 0, 1) := by decide +kernel
theorem dX11_seed_12 : decode cX11_seed 12 = .ok (.ireturn, 1) := by decide +kernel
theorem dX11_seed_13 : decode cX11_seed 13 = .ok (.aload_n 0, 1) := by decide +kernel
theorem dX11_seed_14 : decode cX11_seed 14 = .ok (.getfield 33, 3) := by decide +kernel
theorem dX11_seed_17 : decode cX11_seed 17 = .ok (.invokevirtual 86, 3) := by decide +kernel
theorem dX11_seed_20 : decode cX11_seed 20 = .ok (.aload_n 0, 1) := by decide +kernel
theorem dX11_seed_21 : decode cX11_seed 21 = .ok (.getfield 26, 3) := by decide +kernel
theorem dX11_seed_24 : decode cX11_seed 24 = .ok (.iload_n 1, 1) := by decide +kernel
theorem dX11_seed_25 : decode cX11_seed 25 = .ok (.putfield 98, 3) := by decide +kernel
theorem dX11_seed_28 : decode cX11_seed 28 = .ok (.iconst 1, 1) := by decide +kernel
theorem dX11_seed_29 : decode cX11_seed 29 = .ok (.ireturn, 1) := by decide +kernel
theorem dX11_feed_0 : decode cX11_feed 0 = .ok (.aload_n 0, 1) := by decide +kernel
theorem dX11_feed_1 : decode cX11_feed 1 = .ok (.getfield 10, 3) := by decide +kernel
theorem dX11_feed_4 : decode cX11_feed 4 = .ok (.getfield 101, 3) := by decide +kernel
theorem dX11_feed_7 : decode cX11_feed 7 = .ok (.sipush 180, 3) := by decide +kernel
theorem dX11_feed_10 : decode cX11_feed 10 = .ok (.if_icmp .le 5, 3) := by decide +kernel
theorem dX11_feed_13 : decode cX11_feed 13 = .ok (.iconst (-1), 1) := by decide +kernel
theorem dX11_feed_14 : decode cX11_feed 14 = .ok (.ireturn, 1) := by decide +kernel
theorem dX11_feed_15 : decode cX11_feed 15 = .ok (.aload_n 0, 1) := by decide +kernel
theorem dX11_feed_16 : decode cX11_feed 16 = .ok (.getfield 10, 3) := by decide +kernel
theorem dX11_feed_19 : decode cX11_feed 19 = .ok (.iload_n 1, 1) := by decide +kernel
theorem dX11_feed_20 : decode cX11_feed 20 = .ok (.invokevirtual 104, 3) := by decide +kernel
theorem dX11_feed_23 : decode cX11_feed 23 = .ok (.aload_n 0, 1) := by decide +kernel
theorem dX11_feed_24 : decode cX11_feed 24 = .ok (.getfield 10, 3) := by decide +kernel
theorem dX11_feed_27 : decode cX11_feed 27 = .ok (.iload_n 2, 1) := by decide +kernel
theorem dX11_feed_28 : decode cX11_feed 28 = .ok (.invokevirtual 104, 3) := by decide +kernel
theorem dX11_feed_31 : decode cX11_feed 31 = .ok (.aload_n 0, 1) := by decide +kernel
theorem dX11_feed_32 : decode cX11_feed 32 = .ok (.getfield 10, 3) := by decide +kernel
theorem dX11_feed_35 : decode cX11_feed 35 = .ok (.iload_n 3, 1) := by decide +kernel
theorem dX11_feed_36 : decode cX11_feed 36 = .ok (.invokevirtual 104, 3) := by decide +kernel
theorem dX11_feed_39 : decode cX11_feed 39 = .ok (.aload_n 0, 1) := by decide +kernel
theorem dX11_feed_40 : decode cX11_feed 40 = .ok (.getfield 10, 3) := by decide +kernel
theorem dX11_feed_43 : decode cX11_feed 43 = .ok (.iload 4, 2) := by decide +kernel
theorem dX11_feed_45 : decode cX11_feed 45 = .ok (.invokevirtual 104, 3) := by decide +kernel
theorem dX11_feed_48 : decode cX11_feed 48 = .ok (.aload_n 0, 1) := by decide +kernel
theorem dX11_feed_49 : decode cX11_feed 49 = .ok (.getfield 10, 3) := by decide +kernel
theorem dX11_feed_52 : decode cX11_feed 52 = .ok (.iload 5, 2) := by decide +kernel
theorem dX11_feed_54 : decode cX11_feed 54 = .ok (.invokevirtual 104, 3) := by decide +kernel
theorem dX11_feed_57 : decode cX11_feed 57 = .ok (.aload_n 0, 1) := by decide +kernel
theorem dX11_feed_58 : decode cX11_feed 58 = .ok (.getfield 10, 3) := by decide +kernel
theorem dX11_feed_61 : decode cX11_feed 61 = .ok (.getfield 101, 3) := by decide +kernel
theorem dX11_feed_64 : decode cX11_feed 64 = .ok (.ireturn, 1) := by decide +kernel
theorem dX11_star_0 : decode cX11_star 0 = .ok (.iload_n 1, 1) := by decide +kernel
theorem dX11_star_1 : decode cX11_star 1 = .ok (.invokestatic 154, 3) := by decide +kernel
theorem dX11_star_4 : decode cX11_star 4 = .ok (.ifCond .eq 18, 3) := by decide +kernel
theorem dX11_star_7 : decode cX11_star 7 = .ok (.iload_n 2, 1) := by decide +kernel
theorem dX11_star_8 : decode cX11_star 8 = .ok (.invokestatic 71, 3) := by decide +kernel
theorem dX11_star_11 : decode cX11_star 11 = .ok (.ifCond .eq 11, 3) := by decide +kernel
theorem dX11_star_14 : decode cX11_star 14 = .ok (.iload_n 1, 1) := by decide +kernel
theorem dX11_star_15 : decode cX11_star 15 = .ok (.iload_n 2, 1) := by decide +kernel
theorem dX11_star_16 : decode cX11_star 16 = .ok (.invokestatic 157, 3) := by decide +kernel
theorem dX11_star_19 : decode cX11_star 19 = .ok (.goto 4, 3) := by decide +kernel
theorem dX11_star_22 : decode cX11_star 22 = .ok (.iconst (-1), 1) := by decide +kernel
theorem dX11_star_23 : decode cX11_star 23 = .ok (.ireturn, 1) := by decide +kernel
theorem dX11_note_0 : decode cX11_note 0 = .ok (.iload_n 1, 1) := by decide +kernel
theorem dX11_note_1 : decode cX11_note 1 = .ok (.invokestatic 154, 3) := by decide +kernel
theorem dX11_note_4 : decode cX11_note 4 = .ok (.ifCond .eq 21, 3) := by decide +kernel
theorem dX11_note_7 : decode cX11_note 7 = .ok (.iload_n 2, 1) := by decide +kernel
theorem dX11_note_8 : decode cX11_note 8 = .ok (.invokestatic 71, 3) := by decide +kernel
theorem dX11_note_11 : decode cX11_note 11 = .ok (.ifCond .eq 14, 3) := by decide +kernel
theorem dX11_note_14 : decode cX11_note 14 = .ok (.iload_n 3, 1) := by decide +kernel
theorem dX11_note_15 : decode cX11_note 15 = .ok (.invokestatic 79, 3) := by decide +kernel
theorem dX11_note_18 : decode cX11_note 18 = .ok (.ifCond .eq 7, 3) := by decide +kernel
theorem dX11_note_21 : decode cX11_note 21 = .ok (.iconst 1, 1) := by decide +kernel
theorem dX11_note_22 : decode cX11_note 22 = .ok (.goto 4, 3) := by decide +kernel
theorem dX11_note_25 : decode cX11_note 25 = .ok (.iconst 0, 1) := by decide +kernel
theorem dX11_note_26 : decode cX11_note 26 = .ok (.istore 4, 2) := by decide +kernel
theorem dX11_note_28 : decode cX11_note 28 = .ok (.iload 4, 2) := by decide +kernel
theorem dX11_note_30 : decode cX11_note 30 = .ok (.ifCond .eq 16, 3) := by decide +kernel
theorem dX11_note_33 : decode cX11_note 33 = .ok (.aload_n 0, 1) := by decide +kernel
theorem dX11_note_34 : decode cX11_note 34 = .ok (.getfield 46, 3) := by decide +kernel
theorem dX11_note_37 : decode cX11_note 37 = .ok (.iload_n 1, 1) := by decide +kernel
theorem dX11_note_38 : decode cX11_note 38 = .ok (.iload_n 2, 1) := by decide +kernel
theorem dX11_note_39 : decode cX11_note 39 = .ok (.iload_n 3, 1) := by decide +kernel
theorem dX11_note_40 : decode cX11_note 40 = .ok (.invokevirtual 192, 3) := by decide +kernel
theorem dX11_note_43 : decode cX11_note 43 = .ok (.goto 4, 3) := by decide +kernel
theorem dX11_note_46 : decode cX11_note 46 = .ok (.iconst (-1), 1) := by decide +kernel
theorem dX11_note_47 : decode cX11_note 47 = .ok (.ireturn, 1) := by decide +kernel
theorem dX11_one_0 : decode cX11_one 0 = .ok (.iload_n 1, 1) := by decide +kernel
theorem dX11_one_1 : decode cX11_one 1 = .ok (.invokestatic 79, 3) := by decide +kernel
theorem dX11_one_4 : decode cX11_one 4 = .ok (.ifCond .eq 14, 3) := by decide +kernel
theorem dX11_one_7 : decode cX11_one 7 = .ok (.iload_n 2, 1) := by decide +kernel
theorem dX11_one_8 : decode cX11_one 8 = .ok (.iconst 0, 1) := by decide +kernel
theorem dX11_one_9 : decode cX11_one 9 = .ok (.sipush 700, 3) := by decide +kernel
theorem dX11_one_12 : decode cX11_one 12 = .ok (.invokestatic 75, 3) := by decide +kernel
theorem dX11_one_15 : decode cX11_one 15 = .ok (.ifCond .ne 5, 3) := by decide +kernel
theorem dX11_one_18 : decode cX11_one 18 = .ok (.iconst (-1), 1) := by decide +kernel
theorem dX11_one_19 : decode cX11_one 19 = .ok (.ireturn, 1) := by decide +kernel
theorem dX11_one_20 : decode cX11_one 20 = .ok (.aload_n 0, 1) := by decide +kernel
theorem dX11_one_21 : decode cX11_one 21 = .ok (.getfield 46, 3) := by decide +kernel
theorem dX11_one_24 : decode cX11_one 24 = .ok (.iload_n 1, 1) := by decide +kernel
theorem dX11_one_25 : decode cX11_one 25 = .ok (.iload_n 2, 1) := by decide +kernel
theorem dX11_one_26 : decode cX11_one 26 = .ok (.sipush 400, 3) := by decide +kernel
theorem dX11_one_29 : decode cX11_one 29 = .ok (.invokevirtual 195, 3) := by decide +kernel
theorem dX11_one_32 : decode cX11_one 32 = .ok (.ireturn, 1) := by decide +kernel
theorem dX11_known_0 : decode cX11_known 0 = .ok (.iload_n 1, 1) := by decide +kernel
theorem dX11_known_1 : decode cX11_known 1 = .ok (.invokestatic 79, 3) := by decide +kernel
theorem dX11_known_4 : decode cX11_known 4 = .ok (.ifCond .eq 14, 3) := by decide +kernel
theorem dX11_known_7 : decode cX11_known 7 = .ok (.iload_n 2, 1) := by decide +kernel
theorem dX11_known_8 : decode cX11_known 8 = .ok (.iconst 0, 1) := by decide +kernel
theorem dX11_known_9 : decode cX11_known 9 = .ok (.sipush 700, 3) := by decide +kernel
theorem dX11_known_12 : decode cX11_known 12 = .ok (.invokestatic 75, 3) := by decide +kernel
theorem dX11_known_15 : decode cX11_known 15 = .ok (.ifCond .ne 5, 3) := by decide +kernel
theorem dX11_known_18 : decode cX11_known 18 = .ok (.iconst (-1), 1) := by decide +kernel
theorem dX11_known_19 : decode cX11_known 19 = .ok (.ireturn, 1) := by decide +kernel
theorem dX11_known_20 : decode cX11_known 20 = .ok (.aload_n 0, 1) := by decide +kernel
theorem dX11_known_21 : decode cX11_known 21 = .ok (.getfield 46, 3) := by decide +kernel
theorem dX11_known_24 : decode cX11_known 24 = .ok (.iload_n 1, 1) := by decide +kernel
theorem dX11_known_25 : decode cX11_known 25 = .ok (.iload_n 2, 1) := by decide +kernel
theorem dX11_known_26 : decode cX11_known 26 = .ok (.invokevirtual 198, 3) := by decide +kernel
theorem dX11_known_29 : decode cX11_known 29 = .ok (.ireturn, 1) := by decide +kernel
theorem dX11_row_0 : decode cX11_row 0 = .ok (.iload_n 1, 1) := by decide +kernel
theorem dX11_row_1 : decode cX11_row 1 = .ok (.invokestatic 79, 3) := by decide +kernel
theorem dX11_row_4 : decode cX11_row 4 = .ok (.ifCond .eq 23, 3) := by decide +kernel
theorem dX11_row_7 : decode cX11_row 7 = .ok (.iload_n 2, 1) := by decide +kernel
theorem dX11_row_8 : decode cX11_row 8 = .ok (.iconst 0, 1) := by decide +kernel
theorem dX11_row_9 : decode cX11_row 9 = .ok (.sipush 700, 3) := by decide +kernel
theorem dX11_row_12 : decode cX11_row 12 = .ok (.invokestatic 75, 3) := by decide +kernel
theorem dX11_row_15 : decode cX11_row 15 = .ok (.ifCond .eq 12, 3) := by decide +kernel
theorem dX11_row_18 : decode cX11_row 18 = .ok (.iload_n 3, 1) := by decide +kernel
theorem dX11_row_19 : decode cX11_row 19 = .ok (.iconst 0, 1) := by decide +kernel
theorem dX11_row_20 : decode cX11_row 20 = .ok (.iconst 1, 1) := by decide +kernel
theorem dX11_row_21 : decode cX11_row 21 = .ok (.invokestatic 75, 3) := by decide +kernel
theorem dX11_row_24 : decode cX11_row 24 = .ok (.ifCond .ne 5, 3) := by decide +kernel
theorem dX11_row_27 : decode cX11_row 27 = .ok (.iconst (-1), 1) := by decide +kernel
theorem dX11_row_28 : decode cX11_row 28 = .ok (.ireturn, 1) := by decide +kernel
theorem dX11_row_29 : decode cX11_row 29 = .ok (.aload_n 0, 1) := by decide +kernel
theorem dX11_row_30 : decode cX11_row 30 = .ok (.getfield 46, 3) := by decide +kernel
theorem dX11_row_33 : decode cX11_row 33 = .ok (.iload_n 1, 1) := by decide +kernel
theorem dX11_row_34 : decode cX11_row 34 = .ok (.iload_n 2, 1) := by decide +kernel
theorem dX11_row_35 : decode cX11_row 35 = .ok (.iload_n 3, 1) := by decide +kernel
theorem dX11_row_36 : decode cX11_row 36 = .ok (.invokevirtual 201, 3) := by decide +kernel
theorem dX11_row_39 : decode cX11_row 39 = .ok (.ireturn, 1) := by decide +kernel
theorem dX11_blip_0 : decode cX11_blip 0 = .ok (.iload_n 1, 1) := by decide +kernel
theorem dX11_blip_1 : decode cX11_blip 1 = .ok (.iconst 0, 1) := by decide +kernel
theorem dX11_blip_2 : decode cX11_blip 2 = .ok (.ldc 204, 2) := by decide +kernel
theorem dX11_blip_4 : decode cX11_blip 4 = .ok (.invokestatic 75, 3) := by decide +kernel
theorem dX11_blip_7 : decode cX11_blip 7 = .ok (.ifCond .eq 14, 3) := by decide +kernel
theorem dX11_blip_10 : decode cX11_blip 10 = .ok (.aload_n 0, 1) := by decide +kernel
theorem dX11_blip_11 : decode cX11_blip 11 = .ok (.getfield 53, 3) := by decide +kernel
theorem dX11_blip_14 : decode cX11_blip 14 = .ok (.iload_n 1, 1) := by decide +kernel
theorem dX11_blip_15 : decode cX11_blip 15 = .ok (.invokevirtual 205, 3) := by decide +kernel
theorem dX11_blip_18 : decode cX11_blip 18 = .ok (.goto 4, 3) := by decide +kernel
theorem dX11_blip_21 : decode cX11_blip 21 = .ok (.iconst (-1), 1) := by decide +kernel
theorem dX11_blip_22 : decode cX11_blip 22 = .ok (.ireturn, 1) := by decide +kernel
theorem dX11_fits_0 : decode cX11_fits 0 = .ok (.iload_n 1, 1) := by decide +kernel
theorem dX11_fits_1 : decode cX11_fits 1 = .ok (.invokestatic 207, 3) := by decide +kernel
theorem dX11_fits_4 : decode cX11_fits 4 = .ok (.ifCond .eq 32, 3) := by decide +kernel
theorem dX11_fits_7 : decode cX11_fits 7 = .ok (.iload_n 2, 1) := by decide +kernel
theorem dX11_fits_8 : decode cX11_fits 8 = .ok (.iconst 0, 1) := by decide +kernel
theorem dX11_fits_9 : decode cX11_fits 9 = .ok (.sipush 1000, 3) := by decide +kernel
theorem dX11_fits_12 : decode cX11_fits 12 = .ok (.invokestatic 75, 3) := by decide +kernel
theorem dX11_fits_15 : decode cX11_fits 15 = .ok (.ifCond .eq 21, 3) := by decide +kernel
theorem dX11_fits_18 : decode cX11_fits 18 = .ok (.iconst 2, 1) := by decide +kernel
theorem dX11_fits_19 : decode cX11_fits 19 = .ok (.iload_n 2, 1) := by decide +kernel
theorem dX11_fits_20 : decode cX11_fits 20 = .ok (.imul, 1) := by decide +kernel
theorem dX11_fits_21 : decode cX11_fits 21 = .ok (.iload_n 1, 1) := by decide +kernel
theorem dX11_fits_22 : decode cX11_fits 22 = .ok (.if_icmp .ge 14, 3) := by decide +kernel
theorem dX11_fits_25 : decode cX11_fits 25 = .ok (.aload_n 0, 1) := by decide +kernel
theorem dX11_fits_26 : decode cX11_fits 26 = .ok (.getfield 53, 3) := by decide +kernel
theorem dX11_fits_29 : decode cX11_fits 29 = .ok (.getfield 210, 3) := by decide +kernel
theorem dX11_fits_32 : decode cX11_fits 32 = .ok (.iconst 2, 1) := by decide +kernel
theorem dX11_fits_33 : decode cX11_fits 33 = .ok (.if_icmp .ge 5, 3) := by decide +kernel
theorem dX11_fits_36 : decode cX11_fits 36 = .ok (.iconst (-1), 1) := by decide +kernel
theorem dX11_fits_37 : decode cX11_fits 37 = .ok (.ireturn, 1) := by decide +kernel
theorem dX11_fits_38 : decode cX11_fits 38 = .ok (.aload_n 0, 1) := by decide +kernel
theorem dX11_fits_39 : decode cX11_fits 39 = .ok (.getfield 53, 3) := by decide +kernel
theorem dX11_fits_42 : decode cX11_fits 42 = .ok (.iload_n 1, 1) := by decide +kernel
theorem dX11_fits_43 : decode cX11_fits 43 = .ok (.iload_n 2, 1) := by decide +kernel
theorem dX11_fits_44 : decode cX11_fits 44 = .ok (.invokevirtual 211, 3) := by decide +kernel
theorem dX11_fits_47 : decode cX11_fits 47 = .ok (.ifCond .eq 7, 3) := by decide +kernel
theorem dX11_fits_50 : decode cX11_fits 50 = .ok (.iconst 1, 1) := by decide +kernel
theorem dX11_fits_51 : decode cX11_fits 51 = .ok (.goto 4, 3) := by decide +kernel
theorem dX11_fits_54 : decode cX11_fits 54 = .ok (.iconst 0, 1) := by decide +kernel
theorem dX11_fits_55 : decode cX11_fits 55 = .ok (.ireturn, 1) := by decide +kernel
theorem dX11_beats_0 : decode cX11_beats 0 = .ok (.aload_n 0, 1) := by decide +kernel
theorem dX11_beats_1 : decode cX11_beats 1 = .ok (.iload_n 1, 1) := by decide +kernel
theorem dX11_beats_2 : decode cX11_beats 2 = .ok (.iload_n 2, 1) := by decide +kernel
theorem dX11_beats_3 : decode cX11_beats 3 = .ok (.iload_n 3, 1) := by decide +kernel
theorem dX11_beats_4 : decode cX11_beats 4 = .ok (.invokevirtual 214, 3) := by decide +kernel
theorem dX11_beats_7 : decode cX11_beats 7 = .ok (.ifCond .eq 13, 3) := by decide +kernel
theorem dX11_beats_10 : decode cX11_beats 10 = .ok (.iload 4, 2) := by decide +kernel
theorem dX11_beats_12 : decode cX11_beats 12 = .ok (.iconst 0, 1) := by decide +kernel
theorem dX11_beats_13 : decode cX11_beats 13 = .ok (.iconst 2, 1) := by decide +kernel
theorem dX11_beats_14 : decode cX11_beats 14 = .ok (.invokestatic 75, 3) := by decide +kernel
theorem dX11_beats_17 : decode cX11_beats 17 = .ok (.ifCond .ne 5, 3) := by decide +kernel
theorem dX11_beats_20 : decode cX11_beats 20 = .ok (.iconst (-1), 1) := by decide +kernel
theorem dX11_beats_21 : decode cX11_beats 21 = .ok (.ireturn, 1) := by decide +kernel
theorem dX11_beats_22 : decode cX11_beats 22 = .ok (.aload_n 0, 1) := by decide +kernel
theorem dX11_beats_23 : decode cX11_beats 23 = .ok (.getfield 53, 3) := by decide +kernel
theorem dX11_beats_26 : decode cX11_beats 26 = .ok (.iload_n 1, 1) := by decide +kernel
theorem dX11_beats_27 : decode cX11_beats 27 = .ok (.iload_n 2, 1) := by decide +kernel
theorem dX11_beats_28 : decode cX11_beats 28 = .ok (.iload_n 3, 1) := by decide +kernel
theorem dX11_beats_29 : decode cX11_beats 29 = .ok (.invokevirtual 217, 3) := by decide +kernel
theorem dX11_beats_32 : decode cX11_beats 32 = .ok (.iload 4, 2) := by decide +kernel
theorem dX11_beats_34 : decode cX11_beats 34 = .ok (.ifCond .ne 11, 3) := by decide +kernel
theorem dX11_beats_37 : decode cX11_beats 37 = .ok (.aload_n 0, 1) := by decide +kernel
theorem dX11_beats_38 : decode cX11_beats 38 = .ok (.getfield 53, 3) := by decide +kernel
theorem dX11_beats_41 : decode cX11_beats 41 = .ok (.getfield 221, 3) := by decide +kernel
theorem dX11_beats_44 : decode cX11_beats 44 = .ok (.ireturn, 1) := by decide +kernel
theorem dX11_beats_45 : decode cX11_beats 45 = .ok (.iload 4, 2) := by decide +kernel
theorem dX11_beats_47 : decode cX11_beats 47 = .ok (.iconst 1, 1) := by decide +kernel
theorem dX11_beats_48 : decode cX11_beats 48 = .ok (.if_icmp .ne 13, 3) := by decide +kernel
theorem dX11_beats_51 : decode cX11_beats 51 = .ok (.aload_n 0, 1) := by decide +kernel
theorem dX11_beats_52 : decode cX11_beats 52 = .ok (.getfield 53, 3) := by decide +kernel
theorem dX11_beats_55 : decode cX11_beats 55 = .ok (.getfield 224, 3) := by decide +kernel
theorem dX11_beats_58 : decode cX11_beats 58 = .ok (.goto 10, 3) := by decide +kernel
theorem dX11_beats_61 : decode cX11_beats 61 = .ok (.aload_n 0, 1) := by decide +kernel
theorem dX11_beats_62 : decode cX11_beats 62 = .ok (.getfield 53, 3) := by decide +kernel
theorem dX11_beats_65 : decode cX11_beats 65 = .ok (.getfield 227, 3) := by decide +kernel
theorem dX11_beats_68 : decode cX11_beats 68 = .ok (.ireturn, 1) := by decide +kernel
theorem dX11_counted_0 : decode cX11_counted 0 = .ok (.iload_n 2, 1) := by decide +kernel
theorem dX11_counted_1 : decode cX11_counted 1 = .ok (.invokestatic 207, 3) := by decide +kernel
theorem dX11_counted_4 : decode cX11_counted 4 = .ok (.ifCond .eq 32, 3) := by decide +kernel
theorem dX11_counted_7 : decode cX11_counted 7 = .ok (.iload_n 1, 1) := by decide +kernel
theorem dX11_counted_8 : decode cX11_counted 8 = .ok (.iconst 0, 1) := by decide +kernel
theorem dX11_counted_9 : decode cX11_counted 9 = .ok (.aload_n 0, 1) := by decide +kernel
theorem dX11_counted_10 : decode cX11_counted 10 = .ok (.getfield 53, 3) := by decide +kernel
theorem dX11_counted_13 : decode cX11_counted 13 = .ok (.getfield 210, 3) := by decide +kernel
theorem dX11_counted_16 : decode cX11_counted 16 = .ok (.iconst 1, 1) := by decide +kernel
theorem dX11_counted_17 : decode cX11_counted 17 = .ok (.isub, 1) := by decide +kernel
theorem dX11_counted_18 : decode cX11_counted 18 = .ok (.invokestatic 75, 3) := by decide +kernel
theorem dX11_counted_21 : decode cX11_counted 21 = .ok (.ifCond .eq 15, 3) := by decide +kernel
theorem dX11_counted_24 : decode cX11_counted 24 = .ok (.aload_n 0, 1) := by decide +kernel
theorem dX11_counted_25 : decode cX11_counted 25 = .ok (.getfield 53, 3) := by decide +kernel
theorem dX11_counted_28 : decode cX11_counted 28 = .ok (.iload_n 1, 1) := by decide +kernel
theorem dX11_counted_29 : decode cX11_counted 29 = .ok (.iload_n 2, 1) := by decide +kernel
theorem dX11_counted_30 : decode cX11_counted 30 = .ok (.invokevirtual 230, 3) := by decide +kernel
theorem dX11_counted_33 : decode cX11_counted 33 = .ok (.goto 4, 3) := by decide +kernel
theorem dX11_counted_36 : decode cX11_counted 36 = .ok (.iconst (-1), 1) := by decide +kernel
theorem dX11_counted_37 : decode cX11_counted 37 = .ok (.ireturn, 1) := by decide +kernel
theorem dX11_sure_0 : decode cX11_sure 0 = .ok (.aload_n 0, 1) := by decide +kernel
theorem dX11_sure_1 : decode cX11_sure 1 = .ok (.iload_n 1, 1) := by decide +kernel
theorem dX11_sure_2 : decode cX11_sure 2 = .ok (.iload_n 2, 1) := by decide +kernel
theorem dX11_sure_3 : decode cX11_sure 3 = .ok (.iload_n 3, 1) := by decide +kernel
theorem dX11_sure_4 : decode cX11_sure 4 = .ok (.invokevirtual 214, 3) := by decide +kernel
theorem dX11_sure_7 : decode cX11_sure 7 = .ok (.ifCond .ne 5, 3) := by decide +kernel
theorem dX11_sure_10 : decode cX11_sure 10 = .ok (.iconst (-1), 1) := by decide +kernel
theorem dX11_sure_11 : decode cX11_sure 11 = .ok (.ireturn, 1) := by decide +kernel
theorem dX11_sure_12 : decode cX11_sure 12 = .ok (.aload_n 0, 1) := by decide +kernel
theorem dX11_sure_13 : decode cX11_sure 13 = .ok (.getfield 53, 3) := by decide +kernel
theorem dX11_sure_16 : decode cX11_sure 16 = .ok (.iload_n 1, 1) := by decide +kernel
theorem dX11_sure_17 : decode cX11_sure 17 = .ok (.iload_n 2, 1) := by decide +kernel
theorem dX11_sure_18 : decode cX11_sure 18 = .ok (.iload_n 3, 1) := by decide +kernel
theorem dX11_sure_19 : decode cX11_sure 19 = .ok (.invokevirtual 217, 3) := by decide +kernel
theorem dX11_sure_22 : decode cX11_sure 22 = .ok (.aload_n 0, 1) := by decide +kernel
theorem dX11_sure_23 : decode cX11_sure 23 = .ok (.getfield 53, 3) := by decide +kernel
theorem dX11_sure_26 : decode cX11_sure 26 = .ok (.getfield 221, 3) := by decide +kernel
theorem dX11_sure_29 : decode cX11_sure 29 = .ok (.ifCond .ne 6, 3) := by decide +kernel
theorem dX11_sure_32 : decode cX11_sure 32 = .ok (.bipush (-2), 2) := by decide +kernel
theorem dX11_sure_34 : decode cX11_sure 34 = .ok (.ireturn, 1) := by decide +kernel
theorem dX11_sure_35 : decode cX11_sure 35 = .ok (.aload_n 0, 1) := by decide +kernel
theorem dX11_sure_36 : decode cX11_sure 36 = .ok (.getfield 53, 3) := by decide +kernel
theorem dX11_sure_39 : decode cX11_sure 39 = .ok (.aload_n 0, 1) := by decide +kernel
theorem dX11_sure_40 : decode cX11_sure 40 = .ok (.getfield 53, 3) := by decide +kernel
theorem dX11_sure_43 : decode cX11_sure 43 = .ok (.getfield 224, 3) := by decide +kernel
theorem dX11_sure_46 : decode cX11_sure 46 = .ok (.aload_n 0, 1) := by decide +kernel
theorem dX11_sure_47 : decode cX11_sure 47 = .ok (.getfield 53, 3) := by decide +kernel
theorem dX11_sure_50 : decode cX11_sure 50 = .ok (.getfield 227, 3) := by decide +kernel
theorem dX11_sure_53 : decode cX11_sure 53 = .ok (.invokevirtual 233, 3) := by decide +kernel
theorem dX11_sure_56 : decode cX11_sure 56 = .ok (.ifCond .eq 7, 3) := by decide +kernel
theorem dX11_sure_59 : decode cX11_sure 59 = .ok (.iconst 1, 1) := by decide +kernel
theorem dX11_sure_60 : decode cX11_sure 60 = .ok (.goto 4, 3) := by decide +kernel
theorem dX11_sure_63 : decode cX11_sure 63 = .ok (.iconst 0, 1) := by decide +kernel
theorem dX11_sure_64 : decode cX11_sure 64 = .ok (.ireturn, 1) := by decide +kernel
theorem dX11_lost_0 : decode cX11_lost 0 = .ok (.aload_n 0, 1) := by decide +kernel
theorem dX11_lost_1 : decode cX11_lost 1 = .ok (.iload_n 1, 1) := by decide +kernel
theorem dX11_lost_2 : decode cX11_lost 2 = .ok (.iload_n 2, 1) := by decide +kernel
theorem dX11_lost_3 : decode cX11_lost 3 = .ok (.iload_n 3, 1) := by decide +kernel
theorem dX11_lost_4 : decode cX11_lost 4 = .ok (.invokevirtual 214, 3) := by decide +kernel
theorem dX11_lost_7 : decode cX11_lost 7 = .ok (.ifCond .ne 5, 3) := by decide +kernel
theorem dX11_lost_10 : decode cX11_lost 10 = .ok (.iconst (-1), 1) := by decide +kernel
theorem dX11_lost_11 : decode cX11_lost 11 = .ok (.ireturn, 1) := by decide +kernel
theorem dX11_lost_12 : decode cX11_lost 12 = .ok (.aload_n 0, 1) := by decide +kernel
theorem dX11_lost_13 : decode cX11_lost 13 = .ok (.getfield 53, 3) := by decide +kernel
theorem dX11_lost_16 : decode cX11_lost 16 = .ok (.iload_n 1, 1) := by decide +kernel
theorem dX11_lost_17 : decode cX11_lost 17 = .ok (.iload_n 2, 1) := by decide +kernel
theorem dX11_lost_18 : decode cX11_lost 18 = .ok (.iload_n 3, 1) := by decide +kernel
theorem dX11_lost_19 : decode cX11_lost 19 = .ok (.invokevirtual 217, 3) := by decide +kernel
theorem dX11_lost_22 : decode cX11_lost 22 = .ok (.aload_n 0, 1) := by decide +kernel
theorem dX11_lost_23 : decode cX11_lost 23 = .ok (.getfield 53, 3) := by decide +kernel
theorem dX11_lost_26 : decode cX11_lost 26 = .ok (.invokevirtual 236, 3) := by decide +kernel
theorem dX11_lost_29 : decode cX11_lost 29 = .ok (.ireturn, 1) := by decide +kernel
theorem dX11_night_0 : decode cX11_night 0 = .ok (.iload_n 1, 1) := by decide +kernel
theorem dX11_night_1 : decode cX11_night 1 = .ok (.invokestatic 154, 3) := by decide +kernel
theorem dX11_night_4 : decode cX11_night 4 = .ok (.ifCond .eq 26, 3) := by decide +kernel
theorem dX11_night_7 : decode cX11_night 7 = .ok (.iload_n 2, 1) := by decide +kernel
theorem dX11_night_8 : decode cX11_night 8 = .ok (.ldc 239, 2) := by decide +kernel
theorem dX11_night_10 : decode cX11_night 10 = .ok (.ldc 240, 2) := by decide +kernel
theorem dX11_night_12 : decode cX11_night 12 = .ok (.invokestatic 75, 3) := by decide +kernel
theorem dX11_night_15 : decode cX11_night 15 = .ok (.ifCond .eq 15, 3) := by decide +kernel
theorem dX11_night_18 : decode cX11_night 18 = .ok (.aload_n 0, 1) := by decide +kernel
theorem dX11_night_19 : decode cX11_night 19 = .ok (.getfield 60, 3) := by decide +kernel
theorem dX11_night_22 : decode cX11_night 22 = .ok (.iload_n 1, 1) := by decide +kernel
theorem dX11_night_23 : decode cX11_night 23 = .ok (.iload_n 2, 1) := by decide +kernel
theorem dX11_night_24 : decode cX11_night 24 = .ok (.invokevirtual 241, 3) := by decide +kernel
theorem dX11_night_27 : decode cX11_night 27 = .ok (.goto 4, 3) := by decide +kernel
theorem dX11_night_30 : decode cX11_night 30 = .ok (.iconst (-1), 1) := by decide +kernel
theorem dX11_night_31 : decode cX11_night 31 = .ok (.ireturn, 1) := by decide +kernel
theorem dX11_bound_0 : decode cX11_bound 0 = .ok (.iload_n 1, 1) := by decide +kernel
theorem dX11_bound_1 : decode cX11_bound 1 = .ok (.iconst 4, 1) := by decide +kernel
theorem dX11_bound_2 : decode cX11_bound 2 = .ok (.sipush 400, 3) := by decide +kernel
theorem dX11_bound_5 : decode cX11_bound 5 = .ok (.invokestatic 75, 3) := by decide +kernel
theorem dX11_bound_8 : decode cX11_bound 8 = .ok (.ifCond .eq 10, 3) := by decide +kernel
theorem dX11_bound_11 : decode cX11_bound 11 = .ok (.iload_n 2, 1) := by decide +kernel
theorem dX11_bound_12 : decode cX11_bound 12 = .ok (.invokestatic 253, 3) := by decide +kernel
theorem dX11_bound_15 : decode cX11_bound 15 = .ok (.ifCond .ne 5, 3) := by decide +kernel
theorem dX11_bound_18 : decode cX11_bound 18 = .ok (.iconst (-1), 1) := by decide +kernel
theorem dX11_bound_19 : decode cX11_bound 19 = .ok (.ireturn, 1) := by decide +kernel
theorem dX11_bound_20 : decode cX11_bound 20 = .ok (.aload_n 0, 1) := by decide +kernel
theorem dX11_bound_21 : decode cX11_bound 21 = .ok (.getfield 60, 3) := by decide +kernel
theorem dX11_bound_24 : decode cX11_bound 24 = .ok (.iload_n 1, 1) := by decide +kernel
theorem dX11_bound_25 : decode cX11_bound 25 = .ok (.iload_n 2, 1) := by decide +kernel
theorem dX11_bound_26 : decode cX11_bound 26 = .ok (.invokevirtual 262, 3) := by decide +kernel
theorem dX11_bound_29 : decode cX11_bound 29 = .ok (.ireturn, 1) := by decide +kernel
theorem dX11_there_0 : decode cX11_there 0 = .ok (.iload_n 1, 1) := by decide +kernel
theorem dX11_there_1 : decode cX11_there 1 = .ok (.iconst 0, 1) := by decide +kernel
theorem dX11_there_2 : decode cX11_there 2 = .ok (.bipush 39, 2) := by decide +kernel
theorem dX11_there_4 : decode cX11_there 4 = .ok (.invokestatic 75, 3) := by decide +kernel
theorem dX11_there_7 : decode cX11_there 7 = .ok (.ifCond .eq 13, 3) := by decide +kernel
theorem dX11_there_10 : decode cX11_there 10 = .ok (.iload_n 2, 1) := by decide +kernel
theorem dX11_there_11 : decode cX11_there 11 = .ok (.iconst 0, 1) := by decide +kernel
theorem dX11_there_12 : decode cX11_there 12 = .ok (.bipush 10, 2) := by decide +kernel
theorem dX11_there_14 : decode cX11_there 14 = .ok (.invokestatic 75, 3) := by decide +kernel
theorem dX11_there_17 : decode cX11_there 17 = .ok (.ifCond .ne 5, 3) := by decide +kernel
theorem dX11_there_20 : decode cX11_there 20 = .ok (.iconst 0, 1) := by decide +kernel
theorem dX11_there_21 : decode cX11_there 21 = .ok (.ireturn, 1) := by decide +kernel
theorem dX11_there_22 : decode cX11_there 22 = .ok (.aload_n 0, 1) := by decide +kernel
theorem dX11_there_23 : decode cX11_there 23 = .ok (.getfield 67, 3) := by decide +kernel
theorem dX11_there_26 : decode cX11_there 26 = .ok (.getfield 265, 3) := by decide +kernel
theorem dX11_there_29 : decode cX11_there 29 = .ok (.iload_n 1, 1) := by decide +kernel
theorem dX11_there_30 : decode cX11_there 30 = .ok (.iload_n 2, 1) := by decide +kernel
theorem dX11_there_31 : decode cX11_there 31 = .ok (.iastore, 1) := by decide +kernel
theorem dX11_there_32 : decode cX11_there 32 = .ok (.iconst 1, 1) := by decide +kernel
theorem dX11_there_33 : decode cX11_there 33 = .ok (.ireturn, 1) := by decide +kernel
theorem dX11_pen_0 : decode cX11_pen 0 = .ok (.iload_n 1, 1) := by decide +kernel
theorem dX11_pen_1 : decode cX11_pen 1 = .ok (.iconst 1, 1) := by decide +kernel
theorem dX11_pen_2 : decode cX11_pen 2 = .ok (.bipush 6, 2) := by decide +kernel
theorem dX11_pen_4 : decode cX11_pen 4 = .ok (.invokestatic 75, 3) := by decide +kernel
theorem dX11_pen_7 : decode cX11_pen 7 = .ok (.ifCond .eq 34, 3) := by decide +kernel
theorem dX11_pen_10 : decode cX11_pen 10 = .ok (.iload_n 2, 1) := by decide +kernel
theorem dX11_pen_11 : decode cX11_pen 11 = .ok (.iconst 1, 1) := by decide +kernel
theorem dX11_pen_12 : decode cX11_pen 12 = .ok (.bipush 10, 2) := by decide +kernel
theorem dX11_pen_14 : decode cX11_pen 14 = .ok (.invokestatic 75, 3) := by decide +kernel
theorem dX11_pen_17 : decode cX11_pen 17 = .ok (.ifCond .eq 24, 3) := by decide +kernel
theorem dX11_pen_20 : decode cX11_pen 20 = .ok (.iload_n 3, 1) := by decide +kernel
theorem dX11_pen_21 : decode cX11_pen 21 = .ok (.bipush 6, 2) := by decide +kernel
theorem dX11_pen_23 : decode cX11_pen 23 = .ok (.if_icmp .eq 14, 3) := by decide +kernel
theorem dX11_pen_26 : decode cX11_pen 26 = .ok (.iload_n 3, 1) := by decide +kernel
theorem dX11_pen_27 : decode cX11_pen 27 = .ok (.iconst 0, 1) := by decide +kernel
theorem dX11_pen_28 : decode cX11_pen 28 = .ok (.iload_n 1, 1) := by decide +kernel
theorem dX11_pen_29 : decode cX11_pen 29 = .ok (.iconst 1, 1) := by decide +kernel
theorem dX11_pen_30 : decode cX11_pen 30 = .ok (.isub, 1) := by decide +kernel
theorem dX11_pen_31 : decode cX11_pen 31 = .ok (.invokestatic 75, 3) := by decide +kernel
theorem dX11_pen_34 : decode cX11_pen 34 = .ok (.ifCond .eq 7, 3) := by decide +kernel
theorem dX11_pen_37 : decode cX11_pen 37 = .ok (.iconst 1, 1) := by decide +kernel
theorem dX11_pen_38 : decode cX11_pen 38 = .ok (.goto 4, 3) := by decide +kernel
theorem dX11_pen_41 : decode cX11_pen 41 = .ok (.iconst 0, 1) := by decide +kernel
theorem dX11_pen_42 : decode cX11_pen 42 = .ok (.istore 4, 2) := by decide +kernel
theorem dX11_pen_44 : decode cX11_pen 44 = .ok (.iload 4, 2) := by decide +kernel
theorem dX11_pen_46 : decode cX11_pen 46 = .ok (.ifCond .eq 13, 3) := by decide +kernel
theorem dX11_pen_49 : decode cX11_pen 49 = .ok (.iload_n 1, 1) := by decide +kernel
theorem dX11_pen_50 : decode cX11_pen 50 = .ok (.iconst 1, 1) := by decide +kernel
theorem dX11_pen_51 : decode cX11_pen 51 = .ok (.isub, 1) := by decide +kernel
theorem dX11_pen_52 : decode cX11_pen 52 = .ok (.iload_n 2, 1) := by decide +kernel
theorem dX11_pen_53 : decode cX11_pen 53 = .ok (.imul, 1) := by decide +kernel
theorem dX11_pen_54 : decode cX11_pen 54 = .ok (.bipush 40, 2) := by decide +kernel
theorem dX11_pen_56 : decode cX11_pen 56 = .ok (.if_icmp .lt 5, 3) := by decide +kernel
theorem dX11_pen_59 : decode cX11_pen 59 = .ok (.iconst (-1), 1) := by decide +kernel
theorem dX11_pen_60 : decode cX11_pen 60 = .ok (.ireturn, 1) := by decide +kernel
theorem dX11_pen_61 : decode cX11_pen 61 = .ok (.aload_n 0, 1) := by decide +kernel
theorem dX11_pen_62 : decode cX11_pen 62 = .ok (.getfield 67, 3) := by decide +kernel
theorem dX11_pen_65 : decode cX11_pen 65 = .ok (.iload_n 1, 1) := by decide +kernel
theorem dX11_pen_66 : decode cX11_pen 66 = .ok (.iload_n 2, 1) := by decide +kernel
theorem dX11_pen_67 : decode cX11_pen 67 = .ok (.invokevirtual 268, 3) := by decide +kernel
theorem dX11_pen_70 : decode cX11_pen 70 = .ok (.iload_n 3, 1) := by decide +kernel
theorem dX11_pen_71 : decode cX11_pen 71 = .ok (.bipush 6, 2) := by decide +kernel
theorem dX11_pen_73 : decode cX11_pen 73 = .ok (.if_icmp .ne 13, 3) := by decide +kernel
theorem dX11_pen_76 : decode cX11_pen 76 = .ok (.aload_n 0, 1) := by decide +kernel
theorem dX11_pen_77 : decode cX11_pen 77 = .ok (.getfield 67, 3) := by decide +kernel
theorem dX11_pen_80 : decode cX11_pen 80 = .ok (.getfield 272, 3) := by decide +kernel
theorem dX11_pen_83 : decode cX11_pen 83 = .ok (.goto 12, 3) := by decide +kernel
theorem dX11_pen_86 : decode cX11_pen 86 = .ok (.aload_n 0, 1) := by decide +kernel
theorem dX11_pen_87 : decode cX11_pen 87 = .ok (.getfield 67, 3) := by decide +kernel
theorem dX11_pen_90 : decode cX11_pen 90 = .ok (.getfield 275, 3) := by decide +kernel
theorem dX11_pen_93 : decode cX11_pen 93 = .ok (.iload_n 3, 1) := by decide +kernel
theorem dX11_pen_94 : decode cX11_pen 94 = .ok (.iaload, 1) := by decide +kernel
theorem dX11_pen_95 : decode cX11_pen 95 = .ok (.ireturn, 1) := by decide +kernel
theorem dX11_odds_0 : decode cX11_odds 0 = .ok (.iload_n 1, 1) := by decide +kernel
theorem dX11_odds_1 : decode cX11_odds 1 = .ok (.iload_n 2, 1) := by decide +kernel
theorem dX11_odds_2 : decode cX11_odds 2 = .ok (.iload_n 3, 1) := by decide +kernel
theorem dX11_odds_3 : decode cX11_odds 3 = .ok (.invokestatic 278, 3) := by decide +kernel
theorem dX11_odds_6 : decode cX11_odds 6 = .ok (.ifCond .eq 28, 3) := by decide +kernel
theorem dX11_odds_9 : decode cX11_odds 9 = .ok (.iload 4, 2) := by decide +kernel
theorem dX11_odds_11 : decode cX11_odds 11 = .ok (.iload_n 1, 1) := by decide +kernel
theorem dX11_odds_12 : decode cX11_odds 12 = .ok (.iload_n 2, 1) := by decide +kernel
theorem dX11_odds_13 : decode cX11_odds 13 = .ok (.iadd, 1) := by decide +kernel
theorem dX11_odds_14 : decode cX11_odds 14 = .ok (.iload_n 3, 1) := by decide +kernel
theorem dX11_odds_15 : decode cX11_odds 15 = .ok (.isub, 1) := by decide +kernel
theorem dX11_odds_16 : decode cX11_odds 16 = .ok (.bipush 40, 2) := by decide +kernel
theorem dX11_odds_18 : decode cX11_odds 18 = .ok (.invokestatic 75, 3) := by decide +kernel
theorem dX11_odds_21 : decode cX11_odds 21 = .ok (.ifCond .eq 13, 3) := by decide +kernel
theorem dX11_odds_24 : decode cX11_odds 24 = .ok (.iload 5, 2) := by decide +kernel
theorem dX11_odds_26 : decode cX11_odds 26 = .ok (.iconst 0, 1) := by decide +kernel
theorem dX11_odds_27 : decode cX11_odds 27 = .ok (.iconst 1, 1) := by decide +kernel
theorem dX11_odds_28 : decode cX11_odds 28 = .ok (.invokestatic 75, 3) := by decide +kernel
theorem dX11_odds_31 : decode cX11_odds 31 = .ok (.ifCond .ne 7, 3) := by decide +kernel
theorem dX11_odds_34 : decode cX11_odds 34 = .ok (.ldc2_w 281, 3) := by decide +kernel
theorem dX11_odds_37 : decode cX11_odds 37 = .ok (.lreturn, 1) := by decide +kernel
theorem dX11_odds_38 : decode cX11_odds 38 = .ok (.iload_n 1, 1) := by decide +kernel
theorem dX11_odds_39 : decode cX11_odds 39 = .ok (.iload_n 2, 1) := by decide +kernel
theorem dX11_odds_40 : decode cX11_odds 40 = .ok (.iload_n 3, 1) := by decide +kernel
theorem dX11_odds_41 : decode cX11_odds 41 = .ok (.iload 4, 2) := by decide +kernel
theorem dX11_odds_43 : decode cX11_odds 43 = .ok (.invokestatic 283, 3) := by decide +kernel
theorem dX11_odds_46 : decode cX11_odds 46 = .ok (.lstore 6, 2) := by decide +kernel
theorem dX11_odds_48 : decode cX11_odds 48 = .ok (.iload 4, 2) := by decide +kernel
theorem dX11_odds_50 : decode cX11_odds 50 = .ok (.iload_n 2, 1) := by decide +kernel
theorem dX11_odds_51 : decode cX11_odds 51 = .ok (.invokestatic 287, 3) := by decide +kernel
theorem dX11_odds_54 : decode cX11_odds 54 = .ok (.lstore 8, 2) := by decide +kernel
theorem dX11_odds_56 : decode cX11_odds 56 = .ok (.lload 6, 2) := by decide +kernel
theorem dX11_odds_58 : decode cX11_odds 58 = .ok (.lload 8, 2) := by decide +kernel
theorem dX11_odds_60 : decode cX11_odds 60 = .ok (.invokestatic 291, 3) := by decide +kernel
theorem dX11_odds_63 : decode cX11_odds 63 = .ok (.lstore 10, 2) := by decide +kernel
theorem dX11_odds_65 : decode cX11_odds 65 = .ok (.iload 5, 2) := by decide +kernel
theorem dX11_odds_67 : decode cX11_odds 67 = .ok (.ifCond .ne 8, 3) := by decide +kernel
theorem dX11_odds_70 : decode cX11_odds 70 = .ok (.lload 6, 2) := by decide +kernel
theorem dX11_odds_72 : decode cX11_odds 72 = .ok (.goto 5, 3) := by decide +kernel
theorem dX11_odds_75 : decode cX11_odds 75 = .ok (.lload 8, 2) := by decide +kernel
theorem dX11_odds_77 : decode cX11_odds 77 = .ok (.lload 10, 2) := by decide +kernel
theorem dX11_odds_79 : decode cX11_odds 79 = .ok (.ldiv, 1) := by decide +kernel
theorem dX11_odds_80 : decode cX11_odds 80 = .ok (.lreturn, 1) := by decide +kernel
theorem dX11_more_0 : decode cX11_more 0 = .ok (.iload_n 1, 1) := by decide +kernel
theorem dX11_more_1 : decode cX11_more 1 = .ok (.iload_n 2, 1) := by decide +kernel
theorem dX11_more_2 : decode cX11_more 2 = .ok (.iload_n 3, 1) := by decide +kernel
theorem dX11_more_3 : decode cX11_more 3 = .ok (.invokestatic 278, 3) := by decide +kernel
theorem dX11_more_6 : decode cX11_more 6 = .ok (.ifCond .eq 25, 3) := by decide +kernel
theorem dX11_more_9 : decode cX11_more 9 = .ok (.iload 4, 2) := by decide +kernel
theorem dX11_more_11 : decode cX11_more 11 = .ok (.iconst 1, 1) := by decide +kernel
theorem dX11_more_12 : decode cX11_more 12 = .ok (.sipush 1000, 3) := by decide +kernel
theorem dX11_more_15 : decode cX11_more 15 = .ok (.invokestatic 75, 3) := by decide +kernel
theorem dX11_more_18 : decode cX11_more 18 = .ok (.ifCond .eq 13, 3) := by decide +kernel
theorem dX11_more_21 : decode cX11_more 21 = .ok (.iload 5, 2) := by decide +kernel
theorem dX11_more_23 : decode cX11_more 23 = .ok (.iconst 0, 1) := by decide +kernel
theorem dX11_more_24 : decode cX11_more 24 = .ok (.iconst 1, 1) := by decide +kernel
theorem dX11_more_25 : decode cX11_more 25 = .ok (.invokestatic 75, 3) := by decide +kernel
theorem dX11_more_28 : decode cX11_more 28 = .ok (.ifCond .ne 5, 3) := by decide +kernel
theorem dX11_more_31 : decode cX11_more 31 = .ok (.iconst (-1), 1) := by decide +kernel
theorem dX11_more_32 : decode cX11_more 32 = .ok (.ireturn, 1) := by decide +kernel
theorem dX11_more_33 : decode cX11_more 33 = .ok (.bipush (-2), 2) := by decide +kernel
theorem dX11_more_35 : decode cX11_more 35 = .ok (.istore 6, 2) := by decide +kernel
theorem dX11_more_37 : decode cX11_more 37 = .ok (.iload_n 1, 1) := by decide +kernel
theorem dX11_more_38 : decode cX11_more 38 = .ok (.iload_n 2, 1) := by decide +kernel
theorem dX11_more_39 : decode cX11_more 39 = .ok (.iadd, 1) := by decide +kernel
theorem dX11_more_40 : decode cX11_more 40 = .ok (.iload_n 3, 1) := by decide +kernel
theorem dX11_more_41 : decode cX11_more 41 = .ok (.isub, 1) := by decide +kernel
theorem dX11_more_42 : decode cX11_more 42 = .ok (.istore 7, 2) := by decide +kernel
theorem dX11_more_44 : decode cX11_more 44 = .ok (.iload 7, 2) := by decide +kernel
theorem dX11_more_46 : decode cX11_more 46 = .ok (.bipush 40, 2) := by decide +kernel
theorem dX11_more_48 : decode cX11_more 48 = .ok (.if_icmp .gt 47, 3) := by decide +kernel
theorem dX11_more_51 : decode cX11_more 51 = .ok (.iload_n 1, 1) := by decide +kernel
theorem dX11_more_52 : decode cX11_more 52 = .ok (.iload_n 2, 1) := by decide +kernel
theorem dX11_more_53 : decode cX11_more 53 = .ok (.iload_n 3, 1) := by decide +kernel
theorem dX11_more_54 : decode cX11_more 54 = .ok (.iload 7, 2) := by decide +kernel
theorem dX11_more_56 : decode cX11_more 56 = .ok (.invokestatic 283, 3) := by decide +kernel
theorem dX11_more_59 : decode cX11_more 59 = .ok (.ldc2_w 295, 3) := by decide +kernel
theorem dX11_more_62 : decode cX11_more 62 = .ok (.lmul, 1) := by decide +kernel
theorem dX11_more_63 : decode cX11_more 63 = .ok (.iload 7, 2) := by decide +kernel
theorem dX11_more_65 : decode cX11_more 65 = .ok (.iload_n 2, 1) := by decide +kernel
theorem dX11_more_66 : decode cX11_more 66 = .ok (.invokestatic 287, 3) := by decide +kernel
theorem dX11_more_69 : decode cX11_more 69 = .ok (.iload 4, 2) := by decide +kernel
theorem dX11_more_71 : decode cX11_more 71 = .ok (.i2l, 1) := by decide +kernel
theorem dX11_more_72 : decode cX11_more 72 = .ok (.lmul, 1) := by decide +kernel
theorem dX11_more_73 : decode cX11_more 73 = .ok (.lcmp, 1) := by decide +kernel
theorem dX11_more_74 : decode cX11_more 74 = .ok (.ifCond .lt 15, 3) := by decide +kernel
theorem dX11_more_77 : decode cX11_more 77 = .ok (.iload 5, 2) := by decide +kernel
theorem dX11_more_79 : decode cX11_more 79 = .ok (.ifCond .ne 6, 3) := by decide +kernel
theorem dX11_more_82 : decode cX11_more 82 = .ok (.iload 7, 2) := by decide +kernel
theorem dX11_more_84 : decode cX11_more 84 = .ok (.ireturn, 1) := by decide +kernel
theorem dX11_more_85 : decode cX11_more 85 = .ok (.iload 7, 2) := by decide +kernel
theorem dX11_more_87 : decode cX11_more 87 = .ok (.istore 6, 2) := by decide +kernel
theorem dX11_more_89 : decode cX11_more 89 = .ok (.iinc 7 1, 3) := by decide +kernel
theorem dX11_more_92 : decode cX11_more 92 = .ok (.goto (-48), 3) := by decide +kernel
theorem dX11_more_95 : decode cX11_more 95 = .ok (.iload 6, 2) := by decide +kernel
theorem dX11_more_97 : decode cX11_more 97 = .ok (.ireturn, 1) := by decide +kernel
theorem dX11_tapeHas_0 : decode cX11_tapeHas 0 = .ok (.iload_n 1, 1) := by decide +kernel
theorem dX11_tapeHas_1 : decode cX11_tapeHas 1 = .ok (.iconst 1, 1) := by decide +kernel
theorem dX11_tapeHas_2 : decode cX11_tapeHas 2 = .ok (.iload_n 2, 1) := by decide +kernel
theorem dX11_tapeHas_3 : decode cX11_tapeHas 3 = .ok (.invokestatic 75, 3) := by decide +kernel
theorem dX11_tapeHas_6 : decode cX11_tapeHas 6 = .ok (.ifCond .eq 18, 3) := by decide +kernel
theorem dX11_tapeHas_9 : decode cX11_tapeHas 9 = .ok (.iload_n 1, 1) := by decide +kernel
theorem dX11_tapeHas_10 : decode cX11_tapeHas 10 = .ok (.aload_n 0, 1) := by decide +kernel
theorem dX11_tapeHas_11 : decode cX11_tapeHas 11 = .ok (.getfield 10, 3) := by decide +kernel
theorem dX11_tapeHas_14 : decode cX11_tapeHas 14 = .ok (.getfield 101, 3) := by decide +kernel
theorem dX11_tapeHas_17 : decode cX11_tapeHas 17 = .ok (.if_icmp .gt 7, 3) := by decide +kernel
theorem dX11_tapeHas_20 : decode cX11_tapeHas 20 = .ok (.iconst 1, 1) := by decide +kernel
theorem dX11_tapeHas_21 : decode cX11_tapeHas 21 = .ok (.goto 4, 3) := by decide +kernel
theorem dX11_tapeHas_24 : decode cX11_tapeHas 24 = .ok (.iconst 0, 1) := by decide +kernel
theorem dX11_tapeHas_25 : decode cX11_tapeHas 25 = .ok (.ireturn, 1) := by decide +kernel
theorem dX11_canScan_0 : decode cX11_canScan 0 = .ok (.iload_n 1, 1) := by decide +kernel
theorem dX11_canScan_1 : decode cX11_canScan 1 = .ok (.invokestatic 207, 3) := by decide +kernel
theorem dX11_canScan_4 : decode cX11_canScan 4 = .ok (.ifCond .eq 25, 3) := by decide +kernel
theorem dX11_canScan_7 : decode cX11_canScan 7 = .ok (.iload_n 2, 1) := by decide +kernel
theorem dX11_canScan_8 : decode cX11_canScan 8 = .ok (.invokestatic 207, 3) := by decide +kernel
theorem dX11_canScan_11 : decode cX11_canScan 11 = .ok (.ifCond .eq 18, 3) := by decide +kernel
theorem dX11_canScan_14 : decode cX11_canScan 14 = .ok (.iload_n 3, 1) := by decide +kernel
theorem dX11_canScan_15 : decode cX11_canScan 15 = .ok (.iconst 0, 1) := by decide +kernel
theorem dX11_canScan_16 : decode cX11_canScan 16 = .ok (.sipush 1000, 3) := by decide +kernel
theorem dX11_canScan_19 : decode cX11_canScan 19 = .ok (.invokestatic 75, 3) := by decide +kernel
theorem dX11_canScan_22 : decode cX11_canScan 22 = .ok (.ifCond .eq 7, 3) := by decide +kernel
theorem dX11_canScan_25 : decode cX11_canScan 25 = .ok (.iconst 1, 1) := by decide +kernel
theorem dX11_canScan_26 : decode cX11_canScan 26 = .ok (.goto 4, 3) := by decide +kernel
theorem dX11_canScan_29 : decode cX11_canScan 29 = .ok (.iconst 0, 1) := by decide +kernel
theorem dX11_canScan_30 : decode cX11_canScan 30 = .ok (.istore 4, 2) := by decide +kernel
theorem dX11_canScan_32 : decode cX11_canScan 32 = .ok (.iload 4, 2) := by decide +kernel
theorem dX11_canScan_34 : decode cX11_canScan 34 = .ok (.ifCond .eq 39, 3) := by decide +kernel
theorem dX11_canScan_37 : decode cX11_canScan 37 = .ok (.iload_n 1, 1) := by decide +kernel
theorem dX11_canScan_38 : decode cX11_canScan 38 = .ok (.iload_n 2, 1) := by decide +kernel
theorem dX11_canScan_39 : decode cX11_canScan 39 = .ok (.if_icmp .gt 34, 3) := by decide +kernel
theorem dX11_canScan_42 : decode cX11_canScan 42 = .ok (.iload_n 2, 1) := by decide +kernel
theorem dX11_canScan_43 : decode cX11_canScan 43 = .ok (.iload_n 1, 1) := by decide +kernel
theorem dX11_canScan_44 : decode cX11_canScan 44 = .ok (.isub, 1) := by decide +kernel
theorem dX11_canScan_45 : decode cX11_canScan 45 = .ok (.sipush 2000, 3) := by decide +kernel
theorem dX11_canScan_48 : decode cX11_canScan 48 = .ok (.if_icmp .gt 25, 3) := by decide +kernel
theorem dX11_canScan_51 : decode cX11_canScan 51 = .ok (.iconst 2, 1) := by decide +kernel
theorem dX11_canScan_52 : decode cX11_canScan 52 = .ok (.iload_n 3, 1) := by decide +kernel
theorem dX11_canScan_53 : decode cX11_canScan 53 = .ok (.imul, 1) := by decide +kernel
theorem dX11_canScan_54 : decode cX11_canScan 54 = .ok (.iload_n 1, 1) := by decide +kernel
theorem dX11_canScan_55 : decode cX11_canScan 55 = .ok (.if_icmp .ge 18, 3) := by decide +kernel
theorem dX11_canScan_58 : decode cX11_canScan 58 = .ok (.aload_n 0, 1) := by decide +kernel
theorem dX11_canScan_59 : decode cX11_canScan 59 = .ok (.getfield 53, 3) := by decide +kernel
theorem dX11_canScan_62 : decode cX11_canScan 62 = .ok (.getfield 210, 3) := by decide +kernel
theorem dX11_canScan_65 : decode cX11_canScan 65 = .ok (.iconst 2, 1) := by decide +kernel
theorem dX11_canScan_66 : decode cX11_canScan 66 = .ok (.if_icmp .lt 7, 3) := by decide +kernel
theorem dX11_canScan_69 : decode cX11_canScan 69 = .ok (.iconst 1, 1) := by decide +kernel
theorem dX11_canScan_70 : decode cX11_canScan 70 = .ok (.goto 4, 3) := by decide +kernel
theorem dX11_canScan_73 : decode cX11_canScan 73 = .ok (.iconst 0, 1) := by decide +kernel
theorem dX11_canScan_74 : decode cX11_canScan 74 = .ok (.ireturn, 1) := by decide +kernel
theorem dX11_clausesOf_0 : decode cX11_clausesOf 0 = .ok (.aload_n 0, 1) := by decide +kernel
theorem dX11_clausesOf_1 : decode cX11_clausesOf 1 = .ok (.ifnonnull 7, 3) := by decide +kernel
theorem dX11_clausesOf_4 : decode cX11_clausesOf 4 = .ok (.iconst 0, 1) := by decide +kernel
theorem dX11_clausesOf_5 : decode cX11_clausesOf 5 = .ok (.goto 7, 3) := by decide +kernel
theorem dX11_clausesOf_8 : decode cX11_clausesOf 8 = .ok (.aload_n 0, 1) := by decide +kernel
theorem dX11_clausesOf_9 : decode cX11_clausesOf 9 = .ok (.getfield 135, 3) := by decide +kernel
theorem dX11_clausesOf_12 : decode cX11_clausesOf 12 = .ok (.ireturn, 1) := by decide +kernel
theorem dX11_isWithin_0 : decode cX11_isWithin 0 = .ok (.iload_n 0, 1) := by decide +kernel
theorem dX11_isWithin_1 : decode cX11_isWithin 1 = .ok (.iload_n 1, 1) := by decide +kernel
theorem dX11_isWithin_2 : decode cX11_isWithin 2 = .ok (.if_icmp .lt 12, 3) := by decide +kernel
theorem dX11_isWithin_5 : decode cX11_isWithin 5 = .ok (.iload_n 0, 1) := by decide +kernel
theorem dX11_isWithin_6 : decode cX11_isWithin 6 = .ok (.iload_n 2, 1) := by decide +kernel
theorem dX11_isWithin_7 : decode cX11_isWithin 7 = .ok (.if_icmp .gt 7, 3) := by decide +kernel
theorem dX11_isWithin_10 : decode cX11_isWithin 10 = .ok (.iconst 1, 1) := by decide +kernel
theorem dX11_isWithin_11 : decode cX11_isWithin 11 = .ok (.goto 4, 3) := by decide +kernel
theorem dX11_isWithin_14 : decode cX11_isWithin 14 = .ok (.iconst 0, 1) := by decide +kernel
theorem dX11_isWithin_15 : decode cX11_isWithin 15 = .ok (.ireturn, 1) := by decide +kernel
theorem dX11_isDay_0 : decode cX11_isDay 0 = .ok (.iload_n 0, 1) := by decide +kernel
theorem dX11_isDay_1 : decode cX11_isDay 1 = .ok (.iconst 0, 1) := by decide +kernel
theorem dX11_isDay_2 : decode cX11_isDay 2 = .ok (.sipush 399, 3) := by decide +kernel
theorem dX11_isDay_5 : decode cX11_isDay 5 = .ok (.invokestatic 75, 3) := by decide +kernel
theorem dX11_isDay_8 : decode cX11_isDay 8 = .ok (.ireturn, 1) := by decide +kernel
theorem dX11_isMinute_0 : decode cX11_isMinute 0 = .ok (.iload_n 0, 1) := by decide +kernel
theorem dX11_isMinute_1 : decode cX11_isMinute 1 = .ok (.iconst 0, 1) := by decide +kernel
theorem dX11_isMinute_2 : decode cX11_isMinute 2 = .ok (.sipush 1439, 3) := by decide +kernel
theorem dX11_isMinute_5 : decode cX11_isMinute 5 = .ok (.invokestatic 75, 3) := by decide +kernel
theorem dX11_isMinute_8 : decode cX11_isMinute 8 = .ok (.ireturn, 1) := by decide +kernel
theorem dX11_isShape_0 : decode cX11_isShape 0 = .ok (.iload_n 0, 1) := by decide +kernel
theorem dX11_isShape_1 : decode cX11_isShape 1 = .ok (.iconst 0, 1) := by decide +kernel
theorem dX11_isShape_2 : decode cX11_isShape 2 = .ok (.iconst 3, 1) := by decide +kernel
theorem dX11_isShape_3 : decode cX11_isShape 3 = .ok (.invokestatic 75, 3) := by decide +kernel
theorem dX11_isShape_6 : decode cX11_isShape 6 = .ok (.ireturn, 1) := by decide +kernel
theorem dX11_isReader_0 : decode cX11_isReader 0 = .ok (.iload_n 0, 1) := by decide +kernel
theorem dX11_isReader_1 : decode cX11_isReader 1 = .ok (.iconst 0, 1) := by decide +kernel
theorem dX11_isReader_2 : decode cX11_isReader 2 = .ok (.iconst 3, 1) := by decide +kernel
theorem dX11_isReader_3 : decode cX11_isReader 3 = .ok (.invokestatic 75, 3) := by decide +kernel
theorem dX11_isReader_6 : decode cX11_isReader 6 = .ok (.ireturn, 1) := by decide +kernel
theorem dX11_isStory_0 : decode cX11_isStory 0 = .ok (.iload_n 0, 1) := by decide +kernel
theorem dX11_isStory_1 : decode cX11_isStory 1 = .ok (.iconst 0, 1) := by decide +kernel
theorem dX11_isStory_2 : decode cX11_isStory 2 = .ok (.iconst 5, 1) := by decide +kernel
theorem dX11_isStory_3 : decode cX11_isStory 3 = .ok (.invokestatic 75, 3) := by decide +kernel
theorem dX11_isStory_6 : decode cX11_isStory 6 = .ok (.ireturn, 1) := by decide +kernel
theorem dX11_isBeat_0 : decode cX11_isBeat 0 = .ok (.iload_n 0, 1) := by decide +kernel
theorem dX11_isBeat_1 : decode cX11_isBeat 1 = .ok (.iconst 1, 1) := by decide +kernel
theorem dX11_isBeat_2 : decode cX11_isBeat 2 = .ok (.ldc_w 309, 3) := by decide +kernel
theorem dX11_isBeat_5 : decode cX11_isBeat 5 = .ok (.invokestatic 75, 3) := by decide +kernel
theorem dX11_isBeat_8 : decode cX11_isBeat 8 = .ok (.ireturn, 1) := by decide +kernel
theorem dX11_isNightError_0 : decode cX11_isNightError 0 = .ok (.iload_n 0, 1) := by decide +kernel
theorem dX11_isNightError_1 : decode cX11_isNightError 1 = .ok (.iconst 0, 1) := by decide +kernel
