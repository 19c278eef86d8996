theorem dq_dL_law_0_0 : (decode cL_law 0 = .ok (.new 7, 3)) ∧ (decode cL_law 3 = .ok (.dup, 1)) ∧ (decode cL_law 4 = .ok (.invokespecial 9, 3)) ∧ (decode cL_law 7 = .ok (.astore_n 1, 1)) ∧ (decode cL_law 8 = .ok (.new 10, 3)) ∧ (decode cL_law 11 = .ok (.dup, 1)) ∧ (decode cL_law 12 = .ok (.invokespecial 12, 3)) ∧ (decode cL_law 15 = .ok (.astore_n 2, 1)) ∧ (decode cL_law 16 = .ok (.iconst 0, 1)) ∧ (decode cL_law 17 = .ok (.istore_n 3, 1)) ∧ (decode cL_law 18 = .ok (.iload_n 3, 1)) ∧ (decode cL_law 19 = .ok (.aload_n 0, 1)) ∧ (decode cL_law 20 = .ok (.arraylength, 1)) ∧ (decode cL_law 21 = .ok (.bipush 6, 2)) := by decide +kernel
theorem dL_law_0 : decode cL_law 0 = .ok (.new 7, 3) := dq_dL_law_0_0.1
theorem dL_law_3 : decode cL_law 3 = .ok (.dup, 1) := dq_dL_law_0_0.2.1
theorem dL_law_4 : decode cL_law 4 = .ok (.invokespecial 9, 3) := dq_dL_law_0_0.2.2.1
theorem dL_law_7 : decode cL_law 7 = .ok (.astore_n 1, 1) := dq_dL_law_0_0.2.2.2.1
theorem dL_law_8 : decode cL_law 8 = .ok (.new 10, 3) := dq_dL_law_0_0.2.2.2.2.1
theorem dL_law_11 : decode cL_law 11 = .ok (.dup, 1) := dq_dL_law_0_0.2.2.2.2.2.1
theorem dL_law_12 : decode cL_law 12 = .ok (.invokespecial 12, 3) := dq_dL_law_0_0.2.2.2.2.2.2.1
theorem dL_law_15 : decode cL_law 15 = .ok (.astore_n 2, 1) := dq_dL_law_0_0.2.2.2.2.2.2.2.1
theorem dL_law_16 : decode cL_law 16 = .ok (.iconst 0, 1) := dq_dL_law_0_0.2.2.2.2.2.2.2.2.1
theorem dL_law_17 : decode cL_law 17 = .ok (.istore_n 3, 1) := dq_dL_law_0_0.2.2.2.2.2.2.2.2.2.1
theorem dL_law_18 : decode cL_law 18 = .ok (.iload_n 3, 1) := dq_dL_law_0_0.2.2.2.2.2.2.2.2.2.2.1
theorem dL_law_19 : decode cL_law 19 = .ok (.aload_n 0, 1) := dq_dL_law_0_0.2.2.2.2.2.2.2.2.2.2.2.1
theorem dL_law_20 : decode cL_law 20 = .ok (.arraylength, 1) := dq_dL_law_0_0.2.2.2.2.2.2.2.2.2.2.2.2.1
theorem dL_law_21 : decode cL_law 21 = .ok (.bipush 6, 2) := dq_dL_law_0_0.2.2.2.2.2.2.2.2.2.2.2.2.2
theorem dq_dL_law_23_1 : (decode cL_law 23 = .ok (.isub, 1)) ∧ (decode cL_law 24 = .ok (.if_icmp .gt 1460, 3)) ∧ (decode cL_law 27 = .ok (.aload_n 0, 1)) ∧ (decode cL_law 28 = .ok (.iload_n 3, 1)) ∧ (decode cL_law 29 = .ok (.iaload, 1)) ∧ (decode cL_law 30 = .ok (.bipush 31, 2)) ∧ (decode cL_law 32 = .ok (.iand, 1)) ∧ (decode cL_law 33 = .ok (.tableswitch 1445 0 31 #[143, 222, 245, 308, 341, 374, 407, 440, 483, 526, 569, 632, 675, 708, 741, 784, 807, 840, 893, 926, 969, 1012, 1045, 1078, 1111, 1144, 1177, 1210, 1253, 1316, 1379, 1422], 143)) ∧ (decode cL_law 176 = .ok (.aload_n 1, 1)) ∧ (decode cL_law 177 = .ok (.aload_n 0, 1)) ∧ (decode cL_law 178 = .ok (.iload_n 3, 1)) ∧ (decode cL_law 179 = .ok (.iconst 1, 1)) ∧ (decode cL_law 180 = .ok (.iadd, 1)) ∧ (decode cL_law 181 = .ok (.iaload, 1)) := by decide +kernel
theorem dL_law_23 : decode cL_law 23 = .ok (.isub, 1) := dq_dL_law_23_1.1
theorem dL_law_24 : decode cL_law 24 = .ok (.if_icmp .gt 1460, 3) := dq_dL_law_23_1.2.1
theorem dL_law_27 : decode cL_law 27 = .ok (.aload_n 0, 1) := dq_dL_law_23_1.2.2.1
theorem dL_law_28 : decode cL_law 28 = .ok (.iload_n 3, 1) := dq_dL_law_23_1.2.2.2.1
theorem dL_law_29 : decode cL_law 29 = .ok (.iaload, 1) := dq_dL_law_23_1.2.2.2.2.1
theorem dL_law_30 : decode cL_law 30 = .ok (.bipush 31, 2) := dq_dL_law_23_1.2.2.2.2.2.1
theorem dL_law_32 : decode cL_law 32 = .ok (.iand, 1) := dq_dL_law_23_1.2.2.2.2.2.2.1
theorem dL_law_33 : decode cL_law 33 = .ok (.tableswitch 1445 0 31 #[143, 222, 245, 308, 341, 374, 407, 440, 483, 526, 569, 632, 675, 708, 741, 784, 807, 840, 893, 926, 969, 1012, 1045, 1078, 1111, 1144, 1177, 1210, 1253, 1316, 1379, 1422], 143) := dq_dL_law_23_1.2.2.2.2.2.2.2.1
theorem dL_law_176 : decode cL_law 176 = .ok (.aload_n 1, 1) := dq_dL_law_23_1.2.2.2.2.2.2.2.2.1
theorem dL_law_177 : decode cL_law 177 = .ok (.aload_n 0, 1) := dq_dL_law_23_1.2.2.2.2.2.2.2.2.2.1
theorem dL_law_178 : decode cL_law 178 = .ok (.iload_n 3, 1) := dq_dL_law_23_1.2.2.2.2.2.2.2.2.2.2.1
theorem dL_law_179 : decode cL_law 179 = .ok (.iconst 1, 1) := dq_dL_law_23_1.2.2.2.2.2.2.2.2.2.2.2.1
theorem dL_law_180 : decode cL_law 180 = .ok (.iadd, 1) := dq_dL_law_23_1.2.2.2.2.2.2.2.2.2.2.2.2.1
theorem dL_law_181 : decode cL_law 181 = .ok (.iaload, 1) := dq_dL_law_23_1.2.2.2.2.2.2.2.2.2.2.2.2.2
theorem dq_dL_law_182_2 : (decode cL_law 182 = .ok (.ifCond .eq 7, 3)) ∧ (decode cL_law 185 = .ok (.iconst 1, 1)) ∧ (decode cL_law 186 = .ok (.goto 4, 3)) ∧ (decode cL_law 189 = .ok (.iconst 0, 1)) ∧ (decode cL_law 190 = .ok (.aload_n 0, 1)) ∧ (decode cL_law 191 = .ok (.iload_n 3, 1)) ∧ (decode cL_law 192 = .ok (.iconst 2, 1)) ∧ (decode cL_law 193 = .ok (.iadd, 1)) ∧ (decode cL_law 194 = .ok (.iaload, 1)) ∧ (decode cL_law 195 = .ok (.aload_n 0, 1)) ∧ (decode cL_law 196 = .ok (.iload_n 3, 1)) ∧ (decode cL_law 197 = .ok (.iconst 3, 1)) ∧ (decode cL_law 198 = .ok (.iadd, 1)) ∧ (decode cL_law 199 = .ok (.iaload, 1)) := by decide +kernel
theorem dL_law_182 : decode cL_law 182 = .ok (.ifCond .eq 7, 3) := dq_dL_law_182_2.1
theorem dL_law_185 : decode cL_law 185 = .ok (.iconst 1, 1) := dq_dL_law_182_2.2.1
theorem dL_law_186 : decode cL_law 186 = .ok (.goto 4, 3) := dq_dL_law_182_2.2.2.1
theorem dL_law_189 : decode cL_law 189 = .ok (.iconst 0, 1) := dq_dL_law_182_2.2.2.2.1
theorem dL_law_190 : decode cL_law 190 = .ok (.aload_n 0, 1) := dq_dL_law_182_2.2.2.2.2.1
theorem dL_law_191 : decode cL_law 191 = .ok (.iload_n 3, 1) := dq_dL_law_182_2.2.2.2.2.2.1
theorem dL_law_192 : decode cL_law 192 = .ok (.iconst 2, 1) := dq_dL_law_182_2.2.2.2.2.2.2.1
theorem dL_law_193 : decode cL_law 193 = .ok (.iadd, 1) := dq_dL_law_182_2.2.2.2.2.2.2.2.1
theorem dL_law_194 : decode cL_law 194 = .ok (.iaload, 1) := dq_dL_law_182_2.2.2.2.2.2.2.2.2.1
theorem dL_law_195 : decode cL_law 195 = .ok (.aload_n 0, 1) := dq_dL_law_182_2.2.2.2.2.2.2.2.2.2.1
theorem dL_law_196 : decode cL_law 196 = .ok (.iload_n 3, 1) := dq_dL_law_182_2.2.2.2.2.2.2.2.2.2.2.1
theorem dL_law_197 : decode cL_law 197 = .ok (.iconst 3, 1) := dq_dL_law_182_2.2.2.2.2.2.2.2.2.2.2.2.1
theorem dL_law_198 : decode cL_law 198 = .ok (.iadd, 1) := dq_dL_law_182_2.2.2.2.2.2.2.2.2.2.2.2.2.1
theorem dL_law_199 : decode cL_law 199 = .ok (.iaload, 1) := dq_dL_law_182_2.2.2.2.2.2.2.2.2.2.2.2.2.2
theorem dq_dL_law_200_3 : (decode cL_law 200 = .ok (.aload_n 0, 1)) ∧ (decode cL_law 201 = .ok (.iload_n 3, 1)) ∧ (decode cL_law 202 = .ok (.iconst 4, 1)) ∧ (decode cL_law 203 = .ok (.iadd, 1)) ∧ (decode cL_law 204 = .ok (.iaload, 1)) ∧ (decode cL_law 205 = .ok (.aload_n 0, 1)) ∧ (decode cL_law 206 = .ok (.iload_n 3, 1)) ∧ (decode cL_law 207 = .ok (.iconst 5, 1)) ∧ (decode cL_law 208 = .ok (.iadd, 1)) ∧ (decode cL_law 209 = .ok (.iaload, 1)) ∧ (decode cL_law 210 = .ok (.invokevirtual 13, 3)) ∧ (decode cL_law 213 = .ok (.pop, 1)) ∧ (decode cL_law 214 = .ok (.aload_n 2, 1)) ∧ (decode cL_law 215 = .ok (.aload_n 0, 1)) := by decide +kernel
theorem dL_law_200 : decode cL_law 200 = .ok (.aload_n 0, 1) := dq_dL_law_200_3.1
theorem dL_law_201 : decode cL_law 201 = .ok (.iload_n 3, 1) := dq_dL_law_200_3.2.1
theorem dL_law_202 : decode cL_law 202 = .ok (.iconst 4, 1) := dq_dL_law_200_3.2.2.1
theorem dL_law_203 : decode cL_law 203 = .ok (.iadd, 1) := dq_dL_law_200_3.2.2.2.1
theorem dL_law_204 : decode cL_law 204 = .ok (.iaload, 1) := dq_dL_law_200_3.2.2.2.2.1
theorem dL_law_205 : decode cL_law 205 = .ok (.aload_n 0, 1) := dq_dL_law_200_3.2.2.2.2.2.1
theorem dL_law_206 : decode cL_law 206 = .ok (.iload_n 3, 1) := dq_dL_law_200_3.2.2.2.2.2.2.1
theorem dL_law_207 : decode cL_law 207 = .ok (.iconst 5, 1) := dq_dL_law_200_3.2.2.2.2.2.2.2.1
theorem dL_law_208 : decode cL_law 208 = .ok (.iadd, 1) := dq_dL_law_200_3.2.2.2.2.2.2.2.2.1
theorem dL_law_209 : decode cL_law 209 = .ok (.iaload, 1) := dq_dL_law_200_3.2.2.2.2.2.2.2.2.2.1
theorem dL_law_210 : decode cL_law 210 = .ok (.invokevirtual 13, 3) := dq_dL_law_200_3.2.2.2.2.2.2.2.2.2.2.1
theorem dL_law_213 : decode cL_law 213 = .ok (.pop, 1) := dq_dL_law_200_3.2.2.2.2.2.2.2.2.2.2.2.1
theorem dL_law_214 : decode cL_law 214 = .ok (.aload_n 2, 1) := dq_dL_law_200_3.2.2.2.2.2.2.2.2.2.2.2.2.1
theorem dL_law_215 : decode cL_law 215 = .ok (.aload_n 0, 1) := dq_dL_law_200_3.2.2.2.2.2.2.2.2.2.2.2.2.2
theorem dq_dL_law_216_4 : (decode cL_law 216 = .ok (.iload_n 3, 1)) ∧ (decode cL_law 217 = .ok (.iconst 1, 1)) ∧ (decode cL_law 218 = .ok (.iadd, 1)) ∧ (decode cL_law 219 = .ok (.iaload, 1)) ∧ (decode cL_law 220 = .ok (.ifCond .eq 7, 3)) ∧ (decode cL_law 223 = .ok (.iconst 1, 1)) ∧ (decode cL_law 224 = .ok (.goto 4, 3)) ∧ (decode cL_law 227 = .ok (.iconst 0, 1)) ∧ (decode cL_law 228 = .ok (.aload_n 0, 1)) ∧ (decode cL_law 229 = .ok (.iload_n 3, 1)) ∧ (decode cL_law 230 = .ok (.iconst 2, 1)) ∧ (decode cL_law 231 = .ok (.iadd, 1)) ∧ (decode cL_law 232 = .ok (.iaload, 1)) ∧ (decode cL_law 233 = .ok (.aload_n 0, 1)) := by decide +kernel
theorem dL_law_216 : decode cL_law 216 = .ok (.iload_n 3, 1) := dq_dL_law_216_4.1
theorem dL_law_217 : decode cL_law 217 = .ok (.iconst 1, 1) := dq_dL_law_216_4.2.1
theorem dL_law_218 : decode cL_law 218 = .ok (.iadd, 1) := dq_dL_law_216_4.2.2.1
theorem dL_law_219 : decode cL_law 219 = .ok (.iaload, 1) := dq_dL_law_216_4.2.2.2.1
theorem dL_law_220 : decode cL_law 220 = .ok (.ifCond .eq 7, 3) := dq_dL_law_216_4.2.2.2.2.1
theorem dL_law_223 : decode cL_law 223 = .ok (.iconst 1, 1) := dq_dL_law_216_4.2.2.2.2.2.1
theorem dL_law_224 : decode cL_law 224 = .ok (.goto 4, 3) := dq_dL_law_216_4.2.2.2.2.2.2.1
theorem dL_law_227 : decode cL_law 227 = .ok (.iconst 0, 1) := dq_dL_law_216_4.2.2.2.2.2.2.2.1
theorem dL_law_228 : decode cL_law 228 = .ok (.aload_n 0, 1) := dq_dL_law_216_4.2.2.2.2.2.2.2.2.1
theorem dL_law_229 : decode cL_law 229 = .ok (.iload_n 3, 1) := dq_dL_law_216_4.2.2.2.2.2.2.2.2.2.1
theorem dL_law_230 : decode cL_law 230 = .ok (.iconst 2, 1) := dq_dL_law_216_4.2.2.2.2.2.2.2.2.2.2.1
theorem dL_law_231 : decode cL_law 231 = .ok (.iadd, 1) := dq_dL_law_216_4.2.2.2.2.2.2.2.2.2.2.2.1
theorem dL_law_232 : decode cL_law 232 = .ok (.iaload, 1) := dq_dL_law_216_4.2.2.2.2.2.2.2.2.2.2.2.2.1
theorem dL_law_233 : decode cL_law 233 = .ok (.aload_n 0, 1) := dq_dL_law_216_4.2.2.2.2.2.2.2.2.2.2.2.2.2
theorem dq_dL_law_234_5 : (decode cL_law 234 = .ok (.iload_n 3, 1)) ∧ (decode cL_law 235 = .ok (.iconst 3, 1)) ∧ (decode cL_law 236 = .ok (.iadd, 1)) ∧ (decode cL_law 237 = .ok (.iaload, 1)) ∧ (decode cL_law 238 = .ok (.aload_n 0, 1)) ∧ (decode cL_law 239 = .ok (.iload_n 3, 1)) ∧ (decode cL_law 240 = .ok (.iconst 4, 1)) ∧ (decode cL_law 241 = .ok (.iadd, 1)) ∧ (decode cL_law 242 = .ok (.iaload, 1)) ∧ (decode cL_law 243 = .ok (.aload_n 0, 1)) ∧ (decode cL_law 244 = .ok (.iload_n 3, 1)) ∧ (decode cL_law 245 = .ok (.iconst 5, 1)) ∧ (decode cL_law 246 = .ok (.iadd, 1)) ∧ (decode cL_law 247 = .ok (.iaload, 1)) := by decide +kernel
theorem dL_law_234 : decode cL_law 234 = .ok (.iload_n 3, 1) := dq_dL_law_234_5.1
theorem dL_law_235 : decode cL_law 235 = .ok (.iconst 3, 1) := dq_dL_law_234_5.2.1
theorem dL_law_236 : decode cL_law 236 = .ok (.iadd, 1) := dq_dL_law_234_5.2.2.1
theorem dL_law_237 : decode cL_law 237 = .ok (.iaload, 1) := dq_dL_law_234_5.2.2.2.1
theorem dL_law_238 : decode cL_law 238 = .ok (.aload_n 0, 1) := dq_dL_law_234_5.2.2.2.2.1
theorem dL_law_239 : decode cL_law 239 = .ok (.iload_n 3, 1) := dq_dL_law_234_5.2.2.2.2.2.1
theorem dL_law_240 : decode cL_law 240 = .ok (.iconst 4, 1) := dq_dL_law_234_5.2.2.2.2.2.2.1
theorem dL_law_241 : decode cL_law 241 = .ok (.iadd, 1) := dq_dL_law_234_5.2.2.2.2.2.2.2.1
theorem dL_law_242 : decode cL_law 242 = .ok (.iaload, 1) := dq_dL_law_234_5.2.2.2.2.2.2.2.2.1
theorem dL_law_243 : decode cL_law 243 = .ok (.aload_n 0, 1) := dq_dL_law_234_5.2.2.2.2.2.2.2.2.2.1
theorem dL_law_244 : decode cL_law 244 = .ok (.iload_n 3, 1) := dq_dL_law_234_5.2.2.2.2.2.2.2.2.2.2.1
theorem dL_law_245 : decode cL_law 245 = .ok (.iconst 5, 1) := dq_dL_law_234_5.2.2.2.2.2.2.2.2.2.2.2.1
theorem dL_law_246 : decode cL_law 246 = .ok (.iadd, 1) := dq_dL_law_234_5.2.2.2.2.2.2.2.2.2.2.2.2.1
theorem dL_law_247 : decode cL_law 247 = .ok (.iaload, 1) := dq_dL_law_234_5.2.2.2.2.2.2.2.2.2.2.2.2.2
theorem dq_dL_law_248_6 : (decode cL_law 248 = .ok (.invokevirtual 17, 3)) ∧ (decode cL_law 251 = .ok (.pop, 1)) ∧ (decode cL_law 252 = .ok (.goto 1226, 3)) ∧ (decode cL_law 255 = .ok (.aload_n 1, 1)) ∧ (decode cL_law 256 = .ok (.aload_n 0, 1)) ∧ (decode cL_law 257 = .ok (.iload_n 3, 1)) ∧ (decode cL_law 258 = .ok (.iconst 1, 1)) ∧ (decode cL_law 259 = .ok (.iadd, 1)) ∧ (decode cL_law 260 = .ok (.iaload, 1)) ∧ (decode cL_law 261 = .ok (.invokevirtual 18, 3)) ∧ (decode cL_law 264 = .ok (.pop, 1)) ∧ (decode cL_law 265 = .ok (.aload_n 2, 1)) ∧ (decode cL_law 266 = .ok (.aload_n 0, 1)) ∧ (decode cL_law 267 = .ok (.iload_n 3, 1)) := by decide +kernel
theorem dL_law_248 : decode cL_law 248 = .ok (.invokevirtual 17, 3) := dq_dL_law_248_6.1
theorem dL_law_251 : decode cL_law 251 = .ok (.pop, 1) := dq_dL_law_248_6.2.1
theorem dL_law_252 : decode cL_law 252 = .ok (.goto 1226, 3) := dq_dL_law_248_6.2.2.1
theorem dL_law_255 : decode cL_law 255 = .ok (.aload_n 1, 1) := dq_dL_law_248_6.2.2.2.1
theorem dL_law_256 : decode cL_law 256 = .ok (.aload_n 0, 1) := dq_dL_law_248_6.2.2.2.2.1
theorem dL_law_257 : decode cL_law 257 = .ok (.iload_n 3, 1) := dq_dL_law_248_6.2.2.2.2.2.1
theorem dL_law_258 : decode cL_law 258 = .ok (.iconst 1, 1) := dq_dL_law_248_6.2.2.2.2.2.2.1
theorem dL_law_259 : decode cL_law 259 = .ok (.iadd, 1) := dq_dL_law_248_6.2.2.2.2.2.2.2.1
theorem dL_law_260 : decode cL_law 260 = .ok (.iaload, 1) := dq_dL_law_248_6.2.2.2.2.2.2.2.2.1
theorem dL_law_261 : decode cL_law 261 = .ok (.invokevirtual 18, 3) := dq_dL_law_248_6.2.2.2.2.2.2.2.2.2.1
theorem dL_law_264 : decode cL_law 264 = .ok (.pop, 1) := dq_dL_law_248_6.2.2.2.2.2.2.2.2.2.2.1
theorem dL_law_265 : decode cL_law 265 = .ok (.aload_n 2, 1) := dq_dL_law_248_6.2.2.2.2.2.2.2.2.2.2.2.1
theorem dL_law_266 : decode cL_law 266 = .ok (.aload_n 0, 1) := dq_dL_law_248_6.2.2.2.2.2.2.2.2.2.2.2.2.1
theorem dL_law_267 : decode cL_law 267 = .ok (.iload_n 3, 1) := dq_dL_law_248_6.2.2.2.2.2.2.2.2.2.2.2.2.2
theorem dq_dL_law_268_7 : (decode cL_law 268 = .ok (.iconst 1, 1)) ∧ (decode cL_law 269 = .ok (.iadd, 1)) ∧ (decode cL_law 270 = .ok (.iaload, 1)) ∧ (decode cL_law 271 = .ok (.invokevirtual 22, 3)) ∧ (decode cL_law 274 = .ok (.pop, 1)) ∧ (decode cL_law 275 = .ok (.goto 1203, 3)) ∧ (decode cL_law 278 = .ok (.aload_n 1, 1)) ∧ (decode cL_law 279 = .ok (.aload_n 0, 1)) ∧ (decode cL_law 280 = .ok (.iload_n 3, 1)) ∧ (decode cL_law 281 = .ok (.iconst 1, 1)) ∧ (decode cL_law 282 = .ok (.iadd, 1)) ∧ (decode cL_law 283 = .ok (.iaload, 1)) ∧ (decode cL_law 284 = .ok (.aload_n 0, 1)) ∧ (decode cL_law 285 = .ok (.iload_n 3, 1)) := by decide +kernel
theorem dL_law_268 : decode cL_law 268 = .ok (.iconst 1, 1) := dq_dL_law_268_7.1
theorem dL_law_269 : decode cL_law 269 = .ok (.iadd, 1) := dq_dL_law_268_7.2.1
theorem dL_law_270 : decode cL_law 270 = .ok (.iaload, 1) := dq_dL_law_268_7.2.2.1
theorem dL_law_271 : decode cL_law 271 = .ok (.invokevirtual 22, 3) := dq_dL_law_268_7.2.2.2.1
theorem dL_law_274 : decode cL_law 274 = .ok (.pop, 1) := dq_dL_law_268_7.2.2.2.2.1
theorem dL_law_275 : decode cL_law 275 = .ok (.goto 1203, 3) := dq_dL_law_268_7.2.2.2.2.2.1
theorem dL_law_278 : decode cL_law 278 = .ok (.aload_n 1, 1) := dq_dL_law_268_7.2.2.2.2.2.2.1
theorem dL_law_279 : decode cL_law 279 = .ok (.aload_n 0, 1) := dq_dL_law_268_7.2.2.2.2.2.2.2.1
theorem dL_law_280 : decode cL_law 280 = .ok (.iload_n 3, 1) := dq_dL_law_268_7.2.2.2.2.2.2.2.2.1
theorem dL_law_281 : decode cL_law 281 = .ok (.iconst 1, 1) := dq_dL_law_268_7.2.2.2.2.2.2.2.2.2.1
theorem dL_law_282 : decode cL_law 282 = .ok (.iadd, 1) := dq_dL_law_268_7.2.2.2.2.2.2.2.2.2.2.1
theorem dL_law_283 : decode cL_law 283 = .ok (.iaload, 1) := dq_dL_law_268_7.2.2.2.2.2.2.2.2.2.2.2.1
theorem dL_law_284 : decode cL_law 284 = .ok (.aload_n 0, 1) := dq_dL_law_268_7.2.2.2.2.2.2.2.2.2.2.2.2.1
theorem dL_law_285 : decode cL_law 285 = .ok (.iload_n 3, 1) := dq_dL_law_268_7.2.2.2.2.2.2.2.2.2.2.2.2.2
theorem dq_dL_law_286_8 : (decode cL_law 286 = .ok (.iconst 2, 1)) ∧ (decode cL_law 287 = .ok (.iadd, 1)) ∧ (decode cL_law 288 = .ok (.iaload, 1)) ∧ (decode cL_law 289 = .ok (.aload_n 0, 1)) ∧ (decode cL_law 290 = .ok (.iload_n 3, 1)) ∧ (decode cL_law 291 = .ok (.iconst 3, 1)) ∧ (decode cL_law 292 = .ok (.iadd, 1)) ∧ (decode cL_law 293 = .ok (.iaload, 1)) ∧ (decode cL_law 294 = .ok (.aload_n 0, 1)) ∧ (decode cL_law 295 = .ok (.iload_n 3, 1)) ∧ (decode cL_law 296 = .ok (.iconst 4, 1)) ∧ (decode cL_law 297 = .ok (.iadd, 1)) ∧ (decode cL_law 298 = .ok (.iaload, 1)) ∧ (decode cL_law 299 = .ok (.aload_n 0, 1)) := by decide +kernel
theorem dL_law_286 : decode cL_law 286 = .ok (.iconst 2, 1) := dq_dL_law_286_8.1
theorem dL_law_287 : decode cL_law 287 = .ok (.iadd, 1) := dq_dL_law_286_8.2.1
theorem dL_law_288 : decode cL_law 288 = .ok (.iaload, 1) := dq_dL_law_286_8.2.2.1
theorem dL_law_289 : decode cL_law 289 = .ok (.aload_n 0, 1) := dq_dL_law_286_8.2.2.2.1
theorem dL_law_290 : decode cL_law 290 = .ok (.iload_n 3, 1) := dq_dL_law_286_8.2.2.2.2.1
theorem dL_law_291 : decode cL_law 291 = .ok (.iconst 3, 1) := dq_dL_law_286_8.2.2.2.2.2.1
theorem dL_law_292 : decode cL_law 292 = .ok (.iadd, 1) := dq_dL_law_286_8.2.2.2.2.2.2.1
theorem dL_law_293 : decode cL_law 293 = .ok (.iaload, 1) := dq_dL_law_286_8.2.2.2.2.2.2.2.1
theorem dL_law_294 : decode cL_law 294 = .ok (.aload_n 0, 1) := dq_dL_law_286_8.2.2.2.2.2.2.2.2.1
theorem dL_law_295 : decode cL_law 295 = .ok (.iload_n 3, 1) := dq_dL_law_286_8.2.2.2.2.2.2.2.2.2.1
theorem dL_law_296 : decode cL_law 296 = .ok (.iconst 4, 1) := dq_dL_law_286_8.2.2.2.2.2.2.2.2.2.2.1
theorem dL_law_297 : decode cL_law 297 = .ok (.iadd, 1) := dq_dL_law_286_8.2.2.2.2.2.2.2.2.2.2.2.1
theorem dL_law_298 : decode cL_law 298 = .ok (.iaload, 1) := dq_dL_law_286_8.2.2.2.2.2.2.2.2.2.2.2.2.1
theorem dL_law_299 : decode cL_law 299 = .ok (.aload_n 0, 1) := dq_dL_law_286_8.2.2.2.2.2.2.2.2.2.2.2.2.2
theorem dq_dL_law_300_9 : (decode cL_law 300 = .ok (.iload_n 3, 1)) ∧ (decode cL_law 301 = .ok (.iconst 5, 1)) ∧ (decode cL_law 302 = .ok (.iadd, 1)) ∧ (decode cL_law 303 = .ok (.iaload, 1)) ∧ (decode cL_law 304 = .ok (.invokevirtual 23, 3)) ∧ (decode cL_law 307 = .ok (.pop, 1)) ∧ (decode cL_law 308 = .ok (.aload_n 2, 1)) ∧ (decode cL_law 309 = .ok (.aload_n 0, 1)) ∧ (decode cL_law 310 = .ok (.iload_n 3, 1)) ∧ (decode cL_law 311 = .ok (.iconst 1, 1)) ∧ (decode cL_law 312 = .ok (.iadd, 1)) ∧ (decode cL_law 313 = .ok (.iaload, 1)) ∧ (decode cL_law 314 = .ok (.aload_n 0, 1)) ∧ (decode cL_law 315 = .ok (.iload_n 3, 1)) := by decide +kernel
theorem dL_law_300 : decode cL_law 300 = .ok (.iload_n 3, 1) := dq_dL_law_300_9.1
theorem dL_law_301 : decode cL_law 301 = .ok (.iconst 5, 1) := dq_dL_law_300_9.2.1
theorem dL_law_302 : decode cL_law 302 = .ok (.iadd, 1) := dq_dL_law_300_9.2.2.1
theorem dL_law_303 : decode cL_law 303 = .ok (.iaload, 1) := dq_dL_law_300_9.2.2.2.1
theorem dL_law_304 : decode cL_law 304 = .ok (.invokevirtual 23, 3) := dq_dL_law_300_9.2.2.2.2.1
theorem dL_law_307 : decode cL_law 307 = .ok (.pop, 1) := dq_dL_law_300_9.2.2.2.2.2.1
theorem dL_law_308 : decode cL_law 308 = .ok (.aload_n 2, 1) := dq_dL_law_300_9.2.2.2.2.2.2.1
theorem dL_law_309 : decode cL_law 309 = .ok (.aload_n 0, 1) := dq_dL_law_300_9.2.2.2.2.2.2.2.1
theorem dL_law_310 : decode cL_law 310 = .ok (.iload_n 3, 1) := dq_dL_law_300_9.2.2.2.2.2.2.2.2.1
theorem dL_law_311 : decode cL_law 311 = .ok (.iconst 1, 1) := dq_dL_law_300_9.2.2.2.2.2.2.2.2.2.1
theorem dL_law_312 : decode cL_law 312 = .ok (.iadd, 1) := dq_dL_law_300_9.2.2.2.2.2.2.2.2.2.2.1
theorem dL_law_313 : decode cL_law 313 = .ok (.iaload, 1) := dq_dL_law_300_9.2.2.2.2.2.2.2.2.2.2.2.1
theorem dL_law_314 : decode cL_law 314 = .ok (.aload_n 0, 1) := dq_dL_law_300_9.2.2.2.2.2.2.2.2.2.2.2.2.1
theorem dL_law_315 : decode cL_law 315 = .ok (.iload_n 3, 1) := dq_dL_law_300_9.2.2.2.2.2.2.2.2.2.2.2.2.2
theorem dq_dL_law_316_10 : (decode cL_law 316 = .ok (.iconst 2, 1)) ∧ (decode cL_law 317 = .ok (.iadd, 1)) ∧ (decode cL_law 318 = .ok (.iaload, 1)) ∧ (decode cL_law 319 = .ok (.aload_n 0, 1)) ∧ (decode cL_law 320 = .ok (.iload_n 3, 1)) ∧ (decode cL_law 321 = .ok (.iconst 3, 1)) ∧ (decode cL_law 322 = .ok (.iadd, 1)) ∧ (decode cL_law 323 = .ok (.iaload, 1)) ∧ (decode cL_law 324 = .ok (.aload_n 0, 1)) ∧ (decode cL_law 325 = .ok (.iload_n 3, 1)) ∧ (decode cL_law 326 = .ok (.iconst 4, 1)) ∧ (decode cL_law 327 = .ok (.iadd, 1)) ∧ (decode cL_law 328 = .ok (.iaload, 1)) ∧ (decode cL_law 329 = .ok (.aload_n 0, 1)) := by decide +kernel
theorem dL_law_316 : decode cL_law 316 = .ok (.iconst 2, 1) := dq_dL_law_316_10.1
theorem dL_law_317 : decode cL_law 317 = .ok (.iadd, 1) := dq_dL_law_316_10.2.1
theorem dL_law_318 : decode cL_law 318 = .ok (.iaload, 1) := dq_dL_law_316_10.2.2.1
theorem dL_law_319 : decode cL_law 319 = .ok (.aload_n 0, 1) := dq_dL_law_316_10.2.2.2.1
theorem dL_law_320 : decode cL_law 320 = .ok (.iload_n 3, 1) := dq_dL_law_316_10.2.2.2.2.1
theorem dL_law_321 : decode cL_law 321 = .ok (.iconst 3, 1) := dq_dL_law_316_10.2.2.2.2.2.1
theorem dL_law_322 : decode cL_law 322 = .ok (.iadd, 1) := dq_dL_law_316_10.2.2.2.2.2.2.1
theorem dL_law_323 : decode cL_law 323 = .ok (.iaload, 1) := dq_dL_law_316_10.2.2.2.2.2.2.2.1
theorem dL_law_324 : decode cL_law 324 = .ok (.aload_n 0, 1) := dq_dL_law_316_10.2.2.2.2.2.2.2.2.1
theorem dL_law_325 : decode cL_law 325 = .ok (.iload_n 3, 1) := dq_dL_law_316_10.2.2.2.2.2.2.2.2.2.1
theorem dL_law_326 : decode cL_law 326 = .ok (.iconst 4, 1) := dq_dL_law_316_10.2.2.2.2.2.2.2.2.2.2.1
theorem dL_law_327 : decode cL_law 327 = .ok (.iadd, 1) := dq_dL_law_316_10.2.2.2.2.2.2.2.2.2.2.2.1
theorem dL_law_328 : decode cL_law 328 = .ok (.iaload, 1) := dq_dL_law_316_10.2.2.2.2.2.2.2.2.2.2.2.2.1
theorem dL_law_329 : decode cL_law 329 = .ok (.aload_n 0, 1) := dq_dL_law_316_10.2.2.2.2.2.2.2.2.2.2.2.2.2
theorem dq_dL_law_330_11 : (decode cL_law 330 = .ok (.iload_n 3, 1)) ∧ (decode cL_law 331 = .ok (.iconst 5, 1)) ∧ (decode cL_law 332 = .ok (.iadd, 1)) ∧ (decode cL_law 333 = .ok (.iaload, 1)) ∧ (decode cL_law 334 = .ok (.invokevirtual 27, 3)) ∧ (decode cL_law 337 = .ok (.pop, 1)) ∧ (decode cL_law 338 = .ok (.goto 1140, 3)) ∧ (decode cL_law 341 = .ok (.aload_n 1, 1)) ∧ (decode cL_law 342 = .ok (.aload_n 0, 1)) ∧ (decode cL_law 343 = .ok (.iload_n 3, 1)) ∧ (decode cL_law 344 = .ok (.iconst 1, 1)) ∧ (decode cL_law 345 = .ok (.iadd, 1)) ∧ (decode cL_law 346 = .ok (.iaload, 1)) ∧ (decode cL_law 347 = .ok (.aload_n 0, 1)) := by decide +kernel
theorem dL_law_330 : decode cL_law 330 = .ok (.iload_n 3, 1) := dq_dL_law_330_11.1
theorem dL_law_331 : decode cL_law 331 = .ok (.iconst 5, 1) := dq_dL_law_330_11.2.1
theorem dL_law_332 : decode cL_law 332 = .ok (.iadd, 1) := dq_dL_law_330_11.2.2.1
theorem dL_law_333 : decode cL_law 333 = .ok (.iaload, 1) := dq_dL_law_330_11.2.2.2.1
theorem dL_law_334 : decode cL_law 334 = .ok (.invokevirtual 27, 3) := dq_dL_law_330_11.2.2.2.2.1
theorem dL_law_337 : decode cL_law 337 = .ok (.pop, 1) := dq_dL_law_330_11.2.2.2.2.2.1
theorem dL_law_338 : decode cL_law 338 = .ok (.goto 1140, 3) := dq_dL_law_330_11.2.2.2.2.2.2.1
theorem dL_law_341 : decode cL_law 341 = .ok (.aload_n 1, 1) := dq_dL_law_330_11.2.2.2.2.2.2.2.1
theorem dL_law_342 : decode cL_law 342 = .ok (.aload_n 0, 1) := dq_dL_law_330_11.2.2.2.2.2.2.2.2.1
theorem dL_law_343 : decode cL_law 343 = .ok (.iload_n 3, 1) := dq_dL_law_330_11.2.2.2.2.2.2.2.2.2.1
theorem dL_law_344 : decode cL_law 344 = .ok (.iconst 1, 1) := dq_dL_law_330_11.2.2.2.2.2.2.2.2.2.2.1
theorem dL_law_345 : decode cL_law 345 = .ok (.iadd, 1) := dq_dL_law_330_11.2.2.2.2.2.2.2.2.2.2.2.1
theorem dL_law_346 : decode cL_law 346 = .ok (.iaload, 1) := dq_dL_law_330_11.2.2.2.2.2.2.2.2.2.2.2.2.1
theorem dL_law_347 : decode cL_law 347 = .ok (.aload_n 0, 1) := dq_dL_law_330_11.2.2.2.2.2.2.2.2.2.2.2.2.2
theorem dq_dL_law_348_12 : (decode cL_law 348 = .ok (.iload_n 3, 1)) ∧ (decode cL_law 349 = .ok (.iconst 2, 1)) ∧ (decode cL_law 350 = .ok (.iadd, 1)) ∧ (decode cL_law 351 = .ok (.iaload, 1)) ∧ (decode cL_law 352 = .ok (.invokevirtual 28, 3)) ∧ (decode cL_law 355 = .ok (.pop, 1)) ∧ (decode cL_law 356 = .ok (.aload_n 2, 1)) ∧ (decode cL_law 357 = .ok (.aload_n 0, 1)) ∧ (decode cL_law 358 = .ok (.iload_n 3, 1)) ∧ (decode cL_law 359 = .ok (.iconst 1, 1)) ∧ (decode cL_law 360 = .ok (.iadd, 1)) ∧ (decode cL_law 361 = .ok (.iaload, 1)) ∧ (decode cL_law 362 = .ok (.aload_n 0, 1)) ∧ (decode cL_law 363 = .ok (.iload_n 3, 1)) := by decide +kernel
theorem dL_law_348 : decode cL_law 348 = .ok (.iload_n 3, 1) := dq_dL_law_348_12.1
theorem dL_law_349 : decode cL_law 349 = .ok (.iconst 2, 1) := dq_dL_law_348_12.2.1
theorem dL_law_350 : decode cL_law 350 = .ok (.iadd, 1) := dq_dL_law_348_12.2.2.1
theorem dL_law_351 : decode cL_law 351 = .ok (.iaload, 1) := dq_dL_law_348_12.2.2.2.1
theorem dL_law_352 : decode cL_law 352 = .ok (.invokevirtual 28, 3) := dq_dL_law_348_12.2.2.2.2.1
theorem dL_law_355 : decode cL_law 355 = .ok (.pop, 1) := dq_dL_law_348_12.2.2.2.2.2.1
theorem dL_law_356 : decode cL_law 356 = .ok (.aload_n 2, 1) := dq_dL_law_348_12.2.2.2.2.2.2.1
theorem dL_law_357 : decode cL_law 357 = .ok (.aload_n 0, 1) := dq_dL_law_348_12.2.2.2.2.2.2.2.1
theorem dL_law_358 : decode cL_law 358 = .ok (.iload_n 3, 1) := dq_dL_law_348_12.2.2.2.2.2.2.2.2.1
theorem dL_law_359 : decode cL_law 359 = .ok (.iconst 1, 1) := dq_dL_law_348_12.2.2.2.2.2.2.2.2.2.1
theorem dL_law_360 : decode cL_law 360 = .ok (.iadd, 1) := dq_dL_law_348_12.2.2.2.2.2.2.2.2.2.2.1
theorem dL_law_361 : decode cL_law 361 = .ok (.iaload, 1) := dq_dL_law_348_12.2.2.2.2.2.2.2.2.2.2.2.1
theorem dL_law_362 : decode cL_law 362 = .ok (.aload_n 0, 1) := dq_dL_law_348_12.2.2.2.2.2.2.2.2.2.2.2.2.1
theorem dL_law_363 : decode cL_law 363 = .ok (.iload_n 3, 1) := dq_dL_law_348_12.2.2.2.2.2.2.2.2.2.2.2.2.2
theorem dq_dL_law_364_13 : (decode cL_law 364 = .ok (.iconst 2, 1)) ∧ (decode cL_law 365 = .ok (.iadd, 1)) ∧ (decode cL_law 366 = .ok (.iaload, 1)) ∧ (decode cL_law 367 = .ok (.invokevirtual 32, 3)) ∧ (decode cL_law 370 = .ok (.pop, 1)) ∧ (decode cL_law 371 = .ok (.goto 1107, 3)) ∧ (decode cL_law 374 = .ok (.aload_n 1, 1)) ∧ (decode cL_law 375 = .ok (.aload_n 0, 1)) ∧ (decode cL_law 376 = .ok (.iload_n 3, 1)) ∧ (decode cL_law 377 = .ok (.iconst 1, 1)) ∧ (decode cL_law 378 = .ok (.iadd, 1)) ∧ (decode cL_law 379 = .ok (.iaload, 1)) ∧ (decode cL_law 380 = .ok (.aload_n 0, 1)) ∧ (decode cL_law 381 = .ok (.iload_n 3, 1)) := by decide +kernel
theorem dL_law_364 : decode cL_law 364 = .ok (.iconst 2, 1) := dq_dL_law_364_13.1
theorem dL_law_365 : decode cL_law 365 = .ok (.iadd, 1) := dq_dL_law_364_13.2.1
theorem dL_law_366 : decode cL_law 366 = .ok (.iaload, 1) := dq_dL_law_364_13.2.2.1
theorem dL_law_367 : decode cL_law 367 = .ok (.invokevirtual 32, 3) := dq_dL_law_364_13.2.2.2.1
theorem dL_law_370 : decode cL_law 370 = .ok (.pop, 1) := dq_dL_law_364_13.2.2.2.2.1
theorem dL_law_371 : decode cL_law 371 = .ok (.goto 1107, 3) := dq_dL_law_364_13.2.2.2.2.2.1
theorem dL_law_374 : decode cL_law 374 = .ok (.aload_n 1, 1) := dq_dL_law_364_13.2.2.2.2.2.2.1
theorem dL_law_375 : decode cL_law 375 = .ok (.aload_n 0, 1) := dq_dL_law_364_13.2.2.2.2.2.2.2.1
theorem dL_law_376 : decode cL_law 376 = .ok (.iload_n 3, 1) := dq_dL_law_364_13.2.2.2.2.2.2.2.2.1
theorem dL_law_377 : decode cL_law 377 = .ok (.iconst 1, 1) := dq_dL_law_364_13.2.2.2.2.2.2.2.2.2.1
theorem dL_law_378 : decode cL_law 378 = .ok (.iadd, 1) := dq_dL_law_364_13.2.2.2.2.2.2.2.2.2.2.1
theorem dL_law_379 : decode cL_law 379 = .ok (.iaload, 1) := dq_dL_law_364_13.2.2.2.2.2.2.2.2.2.2.2.1
theorem dL_law_380 : decode cL_law 380 = .ok (.aload_n 0, 1) := dq_dL_law_364_13.2.2.2.2.2.2.2.2.2.2.2.2.1
theorem dL_law_381 : decode cL_law 381 = .ok (.iload_n 3, 1) := dq_dL_law_364_13.2.2.2.2.2.2.2.2.2.2.2.2.2
theorem dq_dL_law_382_14 : (decode cL_law 382 = .ok (.iconst 2, 1)) ∧ (decode cL_law 383 = .ok (.iadd, 1)) ∧ (decode cL_law 384 = .ok (.iaload, 1)) ∧ (decode cL_law 385 = .ok (.invokevirtual 33, 3)) ∧ (decode cL_law 388 = .ok (.pop, 1)) ∧ (decode cL_law 389 = .ok (.aload_n 2, 1)) ∧ (decode cL_law 390 = .ok (.aload_n 0, 1)) ∧ (decode cL_law 391 = .ok (.iload_n 3, 1)) ∧ (decode cL_law 392 = .ok (.iconst 1, 1)) ∧ (decode cL_law 393 = .ok (.iadd, 1)) ∧ (decode cL_law 394 = .ok (.iaload, 1)) ∧ (decode cL_law 395 = .ok (.aload_n 0, 1)) ∧ (decode cL_law 396 = .ok (.iload_n 3, 1)) ∧ (decode cL_law 397 = .ok (.iconst 2, 1)) := by decide +kernel
theorem dL_law_382 : decode cL_law 382 = .ok (.iconst 2, 1) := dq_dL_law_382_14.1
theorem dL_law_383 : decode cL_law 383 = .ok (.iadd, 1) := dq_dL_law_382_14.2.1
theorem dL_law_384 : decode cL_law 384 = .ok (.iaload, 1) := dq_dL_law_382_14.2.2.1
theorem dL_law_385 : decode cL_law 385 = .ok (.invokevirtual 33, 3) := dq_dL_law_382_14.2.2.2.1
theorem dL_law_388 : decode cL_law 388 = .ok (.pop, 1) := dq_dL_law_382_14.2.2.2.2.1
theorem dL_law_389 : decode cL_law 389 = .ok (.aload_n 2, 1) := dq_dL_law_382_14.2.2.2.2.2.1
theorem dL_law_390 : decode cL_law 390 = .ok (.aload_n 0, 1) := dq_dL_law_382_14.2.2.2.2.2.2.1
theorem dL_law_391 : decode cL_law 391 = .ok (.iload_n 3, 1) := dq_dL_law_382_14.2.2.2.2.2.2.2.1
theorem dL_law_392 : decode cL_law 392 = .ok (.iconst 1, 1) := dq_dL_law_382_14.2.2.2.2.2.2.2.2.1
theorem dL_law_393 : decode cL_law 393 = .ok (.iadd, 1) := dq_dL_law_382_14.2.2.2.2.2.2.2.2.2.1
theorem dL_law_394 : decode cL_law 394 = .ok (.iaload, 1) := dq_dL_law_382_14.2.2.2.2.2.2.2.2.2.2.1
theorem dL_law_395 : decode cL_law 395 = .ok (.aload_n 0, 1) := dq_dL_law_382_14.2.2.2.2.2.2.2.2.2.2.2.1
theorem dL_law_396 : decode cL_law 396 = .ok (.iload_n 3, 1) := dq_dL_law_382_14.2.2.2.2.2.2.2.2.2.2.2.2.1
theorem dL_law_397 : decode cL_law 397 = .ok (.iconst 2, 1) := dq_dL_law_382_14.2.2.2.2.2.2.2.2.2.2.2.2.2
theorem dq_dL_law_398_15 : (decode cL_law 398 = .ok (.iadd, 1)) ∧ (decode cL_law 399 = .ok (.iaload, 1)) ∧ (decode cL_law 400 = .ok (.invokevirtual 36, 3)) ∧ (decode cL_law 403 = .ok (.pop, 1)) ∧ (decode cL_law 404 = .ok (.goto 1074, 3)) ∧ (decode cL_law 407 = .ok (.aload_n 1, 1)) ∧ (decode cL_law 408 = .ok (.aload_n 0, 1)) ∧ (decode cL_law 409 = .ok (.iload_n 3, 1)) ∧ (decode cL_law 410 = .ok (.iconst 1, 1)) ∧ (decode cL_law 411 = .ok (.iadd, 1)) ∧ (decode cL_law 412 = .ok (.iaload, 1)) ∧ (decode cL_law 413 = .ok (.aload_n 0, 1)) ∧ (decode cL_law 414 = .ok (.iload_n 3, 1)) ∧ (decode cL_law 415 = .ok (.iconst 2, 1)) := by decide +kernel
theorem dL_law_398 : decode cL_law 398 = .ok (.iadd, 1) := dq_dL_law_398_15.1
theorem dL_law_399 : decode cL_law 399 = .ok (.iaload, 1) := dq_dL_law_398_15.2.1
theorem dL_law_400 : decode cL_law 400 = .ok (.invokevirtual 36, 3) := dq_dL_law_398_15.2.2.1
theorem dL_law_403 : decode cL_law 403 = .ok (.pop, 1) := dq_dL_law_398_15.2.2.2.1
theorem dL_law_404 : decode cL_law 404 = .ok (.goto 1074, 3) := dq_dL_law_398_15.2.2.2.2.1
theorem dL_law_407 : decode cL_law 407 = .ok (.aload_n 1, 1) := dq_dL_law_398_15.2.2.2.2.2.1
theorem dL_law_408 : decode cL_law 408 = .ok (.aload_n 0, 1) := dq_dL_law_398_15.2.2.2.2.2.2.1
theorem dL_law_409 : decode cL_law 409 = .ok (.iload_n 3, 1) := dq_dL_law_398_15.2.2.2.2.2.2.2.1
theorem dL_law_410 : decode cL_law 410 = .ok (.iconst 1, 1) := dq_dL_law_398_15.2.2.2.2.2.2.2.2.1
theorem dL_law_411 : decode cL_law 411 = .ok (.iadd, 1) := dq_dL_law_398_15.2.2.2.2.2.2.2.2.2.1
theorem dL_law_412 : decode cL_law 412 = .ok (.iaload, 1) := dq_dL_law_398_15.2.2.2.2.2.2.2.2.2.2.1
theorem dL_law_413 : decode cL_law 413 = .ok (.aload_n 0, 1) := dq_dL_law_398_15.2.2.2.2.2.2.2.2.2.2.2.1
theorem dL_law_414 : decode cL_law 414 = .ok (.iload_n 3, 1) := dq_dL_law_398_15.2.2.2.2.2.2.2.2.2.2.2.2.1
theorem dL_law_415 : decode cL_law 415 = .ok (.iconst 2, 1) := dq_dL_law_398_15.2.2.2.2.2.2.2.2.2.2.2.2.2
theorem dq_dL_law_416_16 : (decode cL_law 416 = .ok (.iadd, 1)) ∧ (decode cL_law 417 = .ok (.iaload, 1)) ∧ (decode cL_law 418 = .ok (.invokevirtual 37, 3)) ∧ (decode cL_law 421 = .ok (.pop, 1)) ∧ (decode cL_law 422 = .ok (.aload_n 2, 1)) ∧ (decode cL_law 423 = .ok (.aload_n 0, 1)) ∧ (decode cL_law 424 = .ok (.iload_n 3, 1)) ∧ (decode cL_law 425 = .ok (.iconst 1, 1)) ∧ (decode cL_law 426 = .ok (.iadd, 1)) ∧ (decode cL_law 427 = .ok (.iaload, 1)) ∧ (decode cL_law 428 = .ok (.aload_n 0, 1)) ∧ (decode cL_law 429 = .ok (.iload_n 3, 1)) ∧ (decode cL_law 430 = .ok (.iconst 2, 1)) ∧ (decode cL_law 431 = .ok (.iadd, 1)) := by decide +kernel
theorem dL_law_416 : decode cL_law 416 = .ok (.iadd, 1) := dq_dL_law_416_16.1
theorem dL_law_417 : decode cL_law 417 = .ok (.iaload, 1) := dq_dL_law_416_16.2.1
theorem dL_law_418 : decode cL_law 418 = .ok (.invokevirtual 37, 3) := dq_dL_law_416_16.2.2.1
theorem dL_law_421 : decode cL_law 421 = .ok (.pop, 1) := dq_dL_law_416_16.2.2.2.1
theorem dL_law_422 : decode cL_law 422 = .ok (.aload_n 2, 1) := dq_dL_law_416_16.2.2.2.2.1
theorem dL_law_423 : decode cL_law 423 = .ok (.aload_n 0, 1) := dq_dL_law_416_16.2.2.2.2.2.1
theorem dL_law_424 : decode cL_law 424 = .ok (.iload_n 3, 1) := dq_dL_law_416_16.2.2.2.2.2.2.1
theorem dL_law_425 : decode cL_law 425 = .ok (.iconst 1, 1) := dq_dL_law_416_16.2.2.2.2.2.2.2.1
theorem dL_law_426 : decode cL_law 426 = .ok (.iadd, 1) := dq_dL_law_416_16.2.2.2.2.2.2.2.2.1
theorem dL_law_427 : decode cL_law 427 = .ok (.iaload, 1) := dq_dL_law_416_16.2.2.2.2.2.2.2.2.2.1
theorem dL_law_428 : decode cL_law 428 = .ok (.aload_n 0, 1) := dq_dL_law_416_16.2.2.2.2.2.2.2.2.2.2.1
theorem dL_law_429 : decode cL_law 429 = .ok (.iload_n 3, 1) := dq_dL_law_416_16.2.2.2.2.2.2.2.2.2.2.2.1
theorem dL_law_430 : decode cL_law 430 = .ok (.iconst 2, 1) := dq_dL_law_416_16.2.2.2.2.2.2.2.2.2.2.2.2.1
theorem dL_law_431 : decode cL_law 431 = .ok (.iadd, 1) := dq_dL_law_416_16.2.2.2.2.2.2.2.2.2.2.2.2.2
theorem dq_dL_law_432_17 : (decode cL_law 432 = .ok (.iaload, 1)) ∧ (decode cL_law 433 = .ok (.invokevirtual 40, 3)) ∧ (decode cL_law 436 = .ok (.pop, 1)) ∧ (decode cL_law 437 = .ok (.goto 1041, 3)) ∧ (decode cL_law 440 = .ok (.aload_n 1, 1)) ∧ (decode cL_law 441 = .ok (.aload_n 0, 1)) ∧ (decode cL_law 442 = .ok (.iload_n 3, 1)) ∧ (decode cL_law 443 = .ok (.iconst 1, 1)) ∧ (decode cL_law 444 = .ok (.iadd, 1)) ∧ (decode cL_law 445 = .ok (.iaload, 1)) ∧ (decode cL_law 446 = .ok (.aload_n 0, 1)) ∧ (decode cL_law 447 = .ok (.iload_n 3, 1)) ∧ (decode cL_law 448 = .ok (.iconst 2, 1)) ∧ (decode cL_law 449 = .ok (.iadd, 1)) := by decide +kernel
theorem dL_law_432 : decode cL_law 432 = .ok (.iaload, 1) := dq_dL_law_432_17.1
theorem dL_law_433 : decode cL_law 433 = .ok (.invokevirtual 40, 3) := dq_dL_law_432_17.2.1
theorem dL_law_436 : decode cL_law 436 = .ok (.pop, 1) := dq_dL_law_432_17.2.2.1
theorem dL_law_437 : decode cL_law 437 = .ok (.goto 1041, 3) := dq_dL_law_432_17.2.2.2.1
theorem dL_law_440 : decode cL_law 440 = .ok (.aload_n 1, 1) := dq_dL_law_432_17.2.2.2.2.1
theorem dL_law_441 : decode cL_law 441 = .ok (.aload_n 0, 1) := dq_dL_law_432_17.2.2.2.2.2.1
theorem dL_law_442 : decode cL_law 442 = .ok (.iload_n 3, 1) := dq_dL_law_432_17.2.2.2.2.2.2.1
theorem dL_law_443 : decode cL_law 443 = .ok (.iconst 1, 1) := dq_dL_law_432_17.2.2.2.2.2.2.2.1
theorem dL_law_444 : decode cL_law 444 = .ok (.iadd, 1) := dq_dL_law_432_17.2.2.2.2.2.2.2.2.1
theorem dL_law_445 : decode cL_law 445 = .ok (.iaload, 1) := dq_dL_law_432_17.2.2.2.2.2.2.2.2.2.1
theorem dL_law_446 : decode cL_law 446 = .ok (.aload_n 0, 1) := dq_dL_law_432_17.2.2.2.2.2.2.2.2.2.2.1
theorem dL_law_447 : decode cL_law 447 = .ok (.iload_n 3, 1) := dq_dL_law_432_17.2.2.2.2.2.2.2.2.2.2.2.1
theorem dL_law_448 : decode cL_law 448 = .ok (.iconst 2, 1) := dq_dL_law_432_17.2.2.2.2.2.2.2.2.2.2.2.2.1
theorem dL_law_449 : decode cL_law 449 = .ok (.iadd, 1) := dq_dL_law_432_17.2.2.2.2.2.2.2.2.2.2.2.2.2
theorem dq_dL_law_450_18 : (decode cL_law 450 = .ok (.iaload, 1)) ∧ (decode cL_law 451 = .ok (.invokevirtual 41, 3)) ∧ (decode cL_law 454 = .ok (.pop, 1)) ∧ (decode cL_law 455 = .ok (.aload_n 2, 1)) ∧ (decode cL_law 456 = .ok (.aload_n 0, 1)) ∧ (decode cL_law 457 = .ok (.iload_n 3, 1)) ∧ (decode cL_law 458 = .ok (.iconst 1, 1)) ∧ (decode cL_law 459 = .ok (.iadd, 1)) ∧ (decode cL_law 460 = .ok (.iaload, 1)) ∧ (decode cL_law 461 = .ok (.aload_n 0, 1)) ∧ (decode cL_law 462 = .ok (.iload_n 3, 1)) ∧ (decode cL_law 463 = .ok (.iconst 2, 1)) ∧ (decode cL_law 464 = .ok (.iadd, 1)) ∧ (decode cL_law 465 = .ok (.iaload, 1)) := by decide +kernel
theorem dL_law_450 : decode cL_law 450 = .ok (.iaload, 1) := dq_dL_law_450_18.1
theorem dL_law_451 : decode cL_law 451 = .ok (.invokevirtual 41, 3) := dq_dL_law_450_18.2.1
theorem dL_law_454 : decode cL_law 454 = .ok (.pop, 1) := dq_dL_law_450_18.2.2.1
theorem dL_law_455 : decode cL_law 455 = .ok (.aload_n 2, 1) := dq_dL_law_450_18.2.2.2.1
theorem dL_law_456 : decode cL_law 456 = .ok (.aload_n 0, 1) := dq_dL_law_450_18.2.2.2.2.1
theorem dL_law_457 : decode cL_law 457 = .ok (.iload_n 3, 1) := dq_dL_law_450_18.2.2.2.2.2.1
theorem dL_law_458 : decode cL_law 458 = .ok (.iconst 1, 1) := dq_dL_law_450_18.2.2.2.2.2.2.1
theorem dL_law_459 : decode cL_law 459 = .ok (.iadd, 1) := dq_dL_law_450_18.2.2.2.2.2.2.2.1
theorem dL_law_460 : decode cL_law 460 = .ok (.iaload, 1) := dq_dL_law_450_18.2.2.2.2.2.2.2.2.1
theorem dL_law_461 : decode cL_law 461 = .ok (.aload_n 0, 1) := dq_dL_law_450_18.2.2.2.2.2.2.2.2.2.1
theorem dL_law_462 : decode cL_law 462 = .ok (.iload_n 3, 1) := dq_dL_law_450_18.2.2.2.2.2.2.2.2.2.2.1
theorem dL_law_463 : decode cL_law 463 = .ok (.iconst 2, 1) := dq_dL_law_450_18.2.2.2.2.2.2.2.2.2.2.2.1
theorem dL_law_464 : decode cL_law 464 = .ok (.iadd, 1) := dq_dL_law_450_18.2.2.2.2.2.2.2.2.2.2.2.2.1
theorem dL_law_465 : decode cL_law 465 = .ok (.iaload, 1) := dq_dL_law_450_18.2.2.2.2.2.2.2.2.2.2.2.2.2
theorem dq_dL_law_466_19 : (decode cL_law 466 = .ok (.invokevirtual 44, 3)) ∧ (decode cL_law 469 = .ok (.pop, 1)) ∧ (decode cL_law 470 = .ok (.goto 1008, 3)) ∧ (decode cL_law 473 = .ok (.aload_n 1, 1)) ∧ (decode cL_law 474 = .ok (.aload_n 0, 1)) ∧ (decode cL_law 475 = .ok (.iload_n 3, 1)) ∧ (decode cL_law 476 = .ok (.iconst 1, 1)) ∧ (decode cL_law 477 = .ok (.iadd, 1)) ∧ (decode cL_law 478 = .ok (.iaload, 1)) ∧ (decode cL_law 479 = .ok (.aload_n 0, 1)) ∧ (decode cL_law 480 = .ok (.iload_n 3, 1)) ∧ (decode cL_law 481 = .ok (.iconst 2, 1)) ∧ (decode cL_law 482 = .ok (.iadd, 1)) ∧ (decode cL_law 483 = .ok (.iaload, 1)) := by decide +kernel
theorem dL_law_466 : decode cL_law 466 = .ok (.invokevirtual 44, 3) := dq_dL_law_466_19.1
theorem dL_law_469 : decode cL_law 469 = .ok (.pop, 1) := dq_dL_law_466_19.2.1
theorem dL_law_470 : decode cL_law 470 = .ok (.goto 1008, 3) := dq_dL_law_466_19.2.2.1
theorem dL_law_473 : decode cL_law 473 = .ok (.aload_n 1, 1) := dq_dL_law_466_19.2.2.2.1
theorem dL_law_474 : decode cL_law 474 = .ok (.aload_n 0, 1) := dq_dL_law_466_19.2.2.2.2.1
theorem dL_law_475 : decode cL_law 475 = .ok (.iload_n 3, 1) := dq_dL_law_466_19.2.2.2.2.2.1
theorem dL_law_476 : decode cL_law 476 = .ok (.iconst 1, 1) := dq_dL_law_466_19.2.2.2.2.2.2.1
theorem dL_law_477 : decode cL_law 477 = .ok (.iadd, 1) := dq_dL_law_466_19.2.2.2.2.2.2.2.1
theorem dL_law_478 : decode cL_law 478 = .ok (.iaload, 1) := dq_dL_law_466_19.2.2.2.2.2.2.2.2.1
theorem dL_law_479 : decode cL_law 479 = .ok (.aload_n 0, 1) := dq_dL_law_466_19.2.2.2.2.2.2.2.2.2.1
theorem dL_law_480 : decode cL_law 480 = .ok (.iload_n 3, 1) := dq_dL_law_466_19.2.2.2.2.2.2.2.2.2.2.1
theorem dL_law_481 : decode cL_law 481 = .ok (.iconst 2, 1) := dq_dL_law_466_19.2.2.2.2.2.2.2.2.2.2.2.1
theorem dL_law_482 : decode cL_law 482 = .ok (.iadd, 1) := dq_dL_law_466_19.2.2.2.2.2.2.2.2.2.2.2.2.1
theorem dL_law_483 : decode cL_law 483 = .ok (.iaload, 1) := dq_dL_law_466_19.2.2.2.2.2.2.2.2.2.2.2.2.2
theorem dq_dL_law_484_20 : (decode cL_law 484 = .ok (.aload_n 0, 1)) ∧ (decode cL_law 485 = .ok (.iload_n 3, 1)) ∧ (decode cL_law 486 = .ok (.iconst 3, 1)) ∧ (decode cL_law 487 = .ok (.iadd, 1)) ∧ (decode cL_law 488 = .ok (.iaload, 1)) ∧ (decode cL_law 489 = .ok (.invokevirtual 45, 3)) ∧ (decode cL_law 492 = .ok (.pop, 1)) ∧ (decode cL_law 493 = .ok (.aload_n 2, 1)) ∧ (decode cL_law 494 = .ok (.aload_n 0, 1)) ∧ (decode cL_law 495 = .ok (.iload_n 3, 1)) ∧ (decode cL_law 496 = .ok (.iconst 1, 1)) ∧ (decode cL_law 497 = .ok (.iadd, 1)) ∧ (decode cL_law 498 = .ok (.iaload, 1)) ∧ (decode cL_law 499 = .ok (.aload_n 0, 1)) := by decide +kernel
theorem dL_law_484 : decode cL_law 484 = .ok (.aload_n 0, 1) := dq_dL_law_484_20.1
theorem dL_law_485 : decode cL_law 485 = .ok (.iload_n 3, 1) := dq_dL_law_484_20.2.1
theorem dL_law_486 : decode cL_law 486 = .ok (.iconst 3, 1) := dq_dL_law_484_20.2.2.1
theorem dL_law_487 : decode cL_law 487 = .ok (.iadd, 1) := dq_dL_law_484_20.2.2.2.1
theorem dL_law_488 : decode cL_law 488 = .ok (.iaload, 1) := dq_dL_law_484_20.2.2.2.2.1
theorem dL_law_489 : decode cL_law 489 = .ok (.invokevirtual 45, 3) := dq_dL_law_484_20.2.2.2.2.2.1
theorem dL_law_492 : decode cL_law 492 = .ok (.pop, 1) := dq_dL_law_484_20.2.2.2.2.2.2.1
theorem dL_law_493 : decode cL_law 493 = .ok (.aload_n 2, 1) := dq_dL_law_484_20.2.2.2.2.2.2.2.1
theorem dL_law_494 : decode cL_law 494 = .ok (.aload_n 0, 1) := dq_dL_law_484_20.2.2.2.2.2.2.2.2.1
theorem dL_law_495 : decode cL_law 495 = .ok (.iload_n 3, 1) := dq_dL_law_484_20.2.2.2.2.2.2.2.2.2.1
theorem dL_law_496 : decode cL_law 496 = .ok (.iconst 1, 1) := dq_dL_law_484_20.2.2.2.2.2.2.2.2.2.2.1
theorem dL_law_497 : decode cL_law 497 = .ok (.iadd, 1) := dq_dL_law_484_20.2.2.2.2.2.2.2.2.2.2.2.1
theorem dL_law_498 : decode cL_law 498 = .ok (.iaload, 1) := dq_dL_law_484_20.2.2.2.2.2.2.2.2.2.2.2.2.1
theorem dL_law_499 : decode cL_law 499 = .ok (.aload_n 0, 1) := dq_dL_law_484_20.2.2.2.2.2.2.2.2.2.2.2.2.2
theorem dq_dL_law_500_21 : (decode cL_law 500 = .ok (.iload_n 3, 1)) ∧ (decode cL_law 501 = .ok (.iconst 2, 1)) ∧ (decode cL_law 502 = .ok (.iadd, 1)) ∧ (decode cL_law 503 = .ok (.iaload, 1)) ∧ (decode cL_law 504 = .ok (.aload_n 0, 1)) ∧ (decode cL_law 505 = .ok (.iload_n 3, 1)) ∧ (decode cL_law 506 = .ok (.iconst 3, 1)) ∧ (decode cL_law 507 = .ok (.iadd, 1)) ∧ (decode cL_law 508 = .ok (.iaload, 1)) ∧ (decode cL_law 509 = .ok (.invokevirtual 49, 3)) ∧ (decode cL_law 512 = .ok (.pop, 1)) ∧ (decode cL_law 513 = .ok (.goto 965, 3)) ∧ (decode cL_law 516 = .ok (.aload_n 1, 1)) ∧ (decode cL_law 517 = .ok (.aload_n 0, 1)) := by decide +kernel
theorem dL_law_500 : decode cL_law 500 = .ok (.iload_n 3, 1) := dq_dL_law_500_21.1
theorem dL_law_501 : decode cL_law 501 = .ok (.iconst 2, 1) := dq_dL_law_500_21.2.1
theorem dL_law_502 : decode cL_law 502 = .ok (.iadd, 1) := dq_dL_law_500_21.2.2.1
theorem dL_law_503 : decode cL_law 503 = .ok (.iaload, 1) := dq_dL_law_500_21.2.2.2.1
theorem dL_law_504 : decode cL_law 504 = .ok (.aload_n 0, 1) := dq_dL_law_500_21.2.2.2.2.1
theorem dL_law_505 : decode cL_law 505 = .ok (.iload_n 3, 1) := dq_dL_law_500_21.2.2.2.2.2.1
theorem dL_law_506 : decode cL_law 506 = .ok (.iconst 3, 1) := dq_dL_law_500_21.2.2.2.2.2.2.1
theorem dL_law_507 : decode cL_law 507 = .ok (.iadd, 1) := dq_dL_law_500_21.2.2.2.2.2.2.2.1
theorem dL_law_508 : decode cL_law 508 = .ok (.iaload, 1) := dq_dL_law_500_21.2.2.2.2.2.2.2.2.1
theorem dL_law_509 : decode cL_law 509 = .ok (.invokevirtual 49, 3) := dq_dL_law_500_21.2.2.2.2.2.2.2.2.2.1
theorem dL_law_512 : decode cL_law 512 = .ok (.pop, 1) := dq_dL_law_500_21.2.2.2.2.2.2.2.2.2.2.1
theorem dL_law_513 : decode cL_law 513 = .ok (.goto 965, 3) := dq_dL_law_500_21.2.2.2.2.2.2.2.2.2.2.2.1
theorem dL_law_516 : decode cL_law 516 = .ok (.aload_n 1, 1) := dq_dL_law_500_21.2.2.2.2.2.2.2.2.2.2.2.2.1
theorem dL_law_517 : decode cL_law 517 = .ok (.aload_n 0, 1) := dq_dL_law_500_21.2.2.2.2.2.2.2.2.2.2.2.2.2
theorem dq_dL_law_518_22 : (decode cL_law 518 = .ok (.iload_n 3, 1)) ∧ (decode cL_law 519 = .ok (.iconst 1, 1)) ∧ (decode cL_law 520 = .ok (.iadd, 1)) ∧ (decode cL_law 521 = .ok (.iaload, 1)) ∧ (decode cL_law 522 = .ok (.aload_n 0, 1)) ∧ (decode cL_law 523 = .ok (.iload_n 3, 1)) ∧ (decode cL_law 524 = .ok (.iconst 2, 1)) ∧ (decode cL_law 525 = .ok (.iadd, 1)) ∧ (decode cL_law 526 = .ok (.iaload, 1)) ∧ (decode cL_law 527 = .ok (.aload_n 0, 1)) ∧ (decode cL_law 528 = .ok (.iload_n 3, 1)) ∧ (decode cL_law 529 = .ok (.iconst 3, 1)) ∧ (decode cL_law 530 = .ok (.iadd, 1)) ∧ (decode cL_law 531 = .ok (.iaload, 1)) := by decide +kernel
theorem dL_law_518 : decode cL_law 518 = .ok (.iload_n 3, 1) := dq_dL_law_518_22.1
theorem dL_law_519 : decode cL_law 519 = .ok (.iconst 1, 1) := dq_dL_law_518_22.2.1
theorem dL_law_520 : decode cL_law 520 = .ok (.iadd, 1) := dq_dL_law_518_22.2.2.1
theorem dL_law_521 : decode cL_law 521 = .ok (.iaload, 1) := dq_dL_law_518_22.2.2.2.1
theorem dL_law_522 : decode cL_law 522 = .ok (.aload_n 0, 1) := dq_dL_law_518_22.2.2.2.2.1
theorem dL_law_523 : decode cL_law 523 = .ok (.iload_n 3, 1) := dq_dL_law_518_22.2.2.2.2.2.1
theorem dL_law_524 : decode cL_law 524 = .ok (.iconst 2, 1) := dq_dL_law_518_22.2.2.2.2.2.2.1
theorem dL_law_525 : decode cL_law 525 = .ok (.iadd, 1) := dq_dL_law_518_22.2.2.2.2.2.2.2.1
theorem dL_law_526 : decode cL_law 526 = .ok (.iaload, 1) := dq_dL_law_518_22.2.2.2.2.2.2.2.2.1
theorem dL_law_527 : decode cL_law 527 = .ok (.aload_n 0, 1) := dq_dL_law_518_22.2.2.2.2.2.2.2.2.2.1
theorem dL_law_528 : decode cL_law 528 = .ok (.iload_n 3, 1) := dq_dL_law_518_22.2.2.2.2.2.2.2.2.2.2.1
theorem dL_law_529 : decode cL_law 529 = .ok (.iconst 3, 1) := dq_dL_law_518_22.2.2.2.2.2.2.2.2.2.2.2.1
theorem dL_law_530 : decode cL_law 530 = .ok (.iadd, 1) := dq_dL_law_518_22.2.2.2.2.2.2.2.2.2.2.2.2.1
theorem dL_law_531 : decode cL_law 531 = .ok (.iaload, 1) := dq_dL_law_518_22.2.2.2.2.2.2.2.2.2.2.2.2.2
theorem dq_dL_law_532_23 : (decode cL_law 532 = .ok (.invokevirtual 50, 3)) ∧ (decode cL_law 535 = .ok (.pop, 1)) ∧ (decode cL_law 536 = .ok (.aload_n 2, 1)) ∧ (decode cL_law 537 = .ok (.aload_n 0, 1)) ∧ (decode cL_law 538 = .ok (.iload_n 3, 1)) ∧ (decode cL_law 539 = .ok (.iconst 1, 1)) ∧ (decode cL_law 540 = .ok (.iadd, 1)) ∧ (decode cL_law 541 = .ok (.iaload, 1)) ∧ (decode cL_law 542 = .ok (.aload_n 0, 1)) ∧ (decode cL_law 543 = .ok (.iload_n 3, 1)) ∧ (decode cL_law 544 = .ok (.iconst 2, 1)) ∧ (decode cL_law 545 = .ok (.iadd, 1)) ∧ (decode cL_law 546 = .ok (.iaload, 1)) ∧ (decode cL_law 547 = .ok (.aload_n 0, 1)) := by decide +kernel
theorem dL_law_532 : decode cL_law 532 = .ok (.invokevirtual 50, 3) := dq_dL_law_532_23.1
theorem dL_law_535 : decode cL_law 535 = .ok (.pop, 1) := dq_dL_law_532_23.2.1
theorem dL_law_536 : decode cL_law 536 = .ok (.aload_n 2, 1) := dq_dL_law_532_23.2.2.1
theorem dL_law_537 : decode cL_law 537 = .ok (.aload_n 0, 1) := dq_dL_law_532_23.2.2.2.1
theorem dL_law_538 : decode cL_law 538 = .ok (.iload_n 3, 1) := dq_dL_law_532_23.2.2.2.2.1
theorem dL_law_539 : decode cL_law 539 = .ok (.iconst 1, 1) := dq_dL_law_532_23.2.2.2.2.2.1
theorem dL_law_540 : decode cL_law 540 = .ok (.iadd, 1) := dq_dL_law_532_23.2.2.2.2.2.2.1
theorem dL_law_541 : decode cL_law 541 = .ok (.iaload, 1) := dq_dL_law_532_23.2.2.2.2.2.2.2.1
theorem dL_law_542 : decode cL_law 542 = .ok (.aload_n 0, 1) := dq_dL_law_532_23.2.2.2.2.2.2.2.2.1
theorem dL_law_543 : decode cL_law 543 = .ok (.iload_n 3, 1) := dq_dL_law_532_23.2.2.2.2.2.2.2.2.2.1
theorem dL_law_544 : decode cL_law 544 = .ok (.iconst 2, 1) := dq_dL_law_532_23.2.2.2.2.2.2.2.2.2.2.1
theorem dL_law_545 : decode cL_law 545 = .ok (.iadd, 1) := dq_dL_law_532_23.2.2.2.2.2.2.2.2.2.2.2.1
theorem dL_law_546 : decode cL_law 546 = .ok (.iaload, 1) := dq_dL_law_532_23.2.2.2.2.2.2.2.2.2.2.2.2.1
theorem dL_law_547 : decode cL_law 547 = .ok (.aload_n 0, 1) := dq_dL_law_532_23.2.2.2.2.2.2.2.2.2.2.2.2.2
theorem dq_dL_law_548_24 : (decode cL_law 548 = .ok (.iload_n 3, 1)) ∧ (decode cL_law 549 = .ok (.iconst 3, 1)) ∧ (decode cL_law 550 = .ok (.iadd, 1)) ∧ (decode cL_law 551 = .ok (.iaload, 1)) ∧ (decode cL_law 552 = .ok (.invokevirtual 53, 3)) ∧ (decode cL_law 555 = .ok (.pop, 1)) ∧ (decode cL_law 556 = .ok (.goto 922, 3)) ∧ (decode cL_law 559 = .ok (.aload_n 1, 1)) ∧ (decode cL_law 560 = .ok (.aload_n 0, 1)) ∧ (decode cL_law 561 = .ok (.iload_n 3, 1)) ∧ (decode cL_law 562 = .ok (.iconst 1, 1)) ∧ (decode cL_law 563 = .ok (.iadd, 1)) ∧ (decode cL_law 564 = .ok (.iaload, 1)) ∧ (decode cL_law 565 = .ok (.aload_n 0, 1)) := by decide +kernel
theorem dL_law_548 : decode cL_law 548 = .ok (.iload_n 3, 1) := dq_dL_law_548_24.1
theorem dL_law_549 : decode cL_law 549 = .ok (.iconst 3, 1) := dq_dL_law_548_24.2.1
theorem dL_law_550 : decode cL_law 550 = .ok (.iadd, 1) := dq_dL_law_548_24.2.2.1
theorem dL_law_551 : decode cL_law 551 = .ok (.iaload, 1) := dq_dL_law_548_24.2.2.2.1
theorem dL_law_552 : decode cL_law 552 = .ok (.invokevirtual 53, 3) := dq_dL_law_548_24.2.2.2.2.1
theorem dL_law_555 : decode cL_law 555 = .ok (.pop, 1) := dq_dL_law_548_24.2.2.2.2.2.1
theorem dL_law_556 : decode cL_law 556 = .ok (.goto 922, 3) := dq_dL_law_548_24.2.2.2.2.2.2.1
theorem dL_law_559 : decode cL_law 559 = .ok (.aload_n 1, 1) := dq_dL_law_548_24.2.2.2.2.2.2.2.1
theorem dL_law_560 : decode cL_law 560 = .ok (.aload_n 0, 1) := dq_dL_law_548_24.2.2.2.2.2.2.2.2.1
theorem dL_law_561 : decode cL_law 561 = .ok (.iload_n 3, 1) := dq_dL_law_548_24.2.2.2.2.2.2.2.2.2.1
theorem dL_law_562 : decode cL_law 562 = .ok (.iconst 1, 1) := dq_dL_law_548_24.2.2.2.2.2.2.2.2.2.2.1
theorem dL_law_563 : decode cL_law 563 = .ok (.iadd, 1) := dq_dL_law_548_24.2.2.2.2.2.2.2.2.2.2.2.1
theorem dL_law_564 : decode cL_law 564 = .ok (.iaload, 1) := dq_dL_law_548_24.2.2.2.2.2.2.2.2.2.2.2.2.1
theorem dL_law_565 : decode cL_law 565 = .ok (.aload_n 0, 1) := dq_dL_law_548_24.2.2.2.2.2.2.2.2.2.2.2.2.2
theorem dq_dL_law_566_25 : (decode cL_law 566 = .ok (.iload_n 3, 1)) ∧ (decode cL_law 567 = .ok (.iconst 2, 1)) ∧ (decode cL_law 568 = .ok (.iadd, 1)) ∧ (decode cL_law 569 = .ok (.iaload, 1)) ∧ (decode cL_law 570 = .ok (.aload_n 0, 1)) ∧ (decode cL_law 571 = .ok (.iload_n 3, 1)) ∧ (decode cL_law 572 = .ok (.iconst 3, 1)) ∧ (decode cL_law 573 = .ok (.iadd, 1)) ∧ (decode cL_law 574 = .ok (.iaload, 1)) ∧ (decode cL_law 575 = .ok (.invokevirtual 54, 3)) ∧ (decode cL_law 578 = .ok (.pop, 1)) ∧ (decode cL_law 579 = .ok (.aload_n 2, 1)) ∧ (decode cL_law 580 = .ok (.aload_n 0, 1)) ∧ (decode cL_law 581 = .ok (.iload_n 3, 1)) := by decide +kernel
theorem dL_law_566 : decode cL_law 566 = .ok (.iload_n 3, 1) := dq_dL_law_566_25.1
theorem dL_law_567 : decode cL_law 567 = .ok (.iconst 2, 1) := dq_dL_law_566_25.2.1
theorem dL_law_568 : decode cL_law 568 = .ok (.iadd, 1) := dq_dL_law_566_25.2.2.1
theorem dL_law_569 : decode cL_law 569 = .ok (.iaload, 1) := dq_dL_law_566_25.2.2.2.1
theorem dL_law_570 : decode cL_law 570 = .ok (.aload_n 0, 1) := dq_dL_law_566_25.2.2.2.2.1
theorem dL_law_571 : decode cL_law 571 = .ok (.iload_n 3, 1) := dq_dL_law_566_25.2.2.2.2.2.1
theorem dL_law_572 : decode cL_law 572 = .ok (.iconst 3, 1) := dq_dL_law_566_25.2.2.2.2.2.2.1
theorem dL_law_573 : decode cL_law 573 = .ok (.iadd, 1) := dq_dL_law_566_25.2.2.2.2.2.2.2.1
theorem dL_law_574 : decode cL_law 574 = .ok (.iaload, 1) := dq_dL_law_566_25.2.2.2.2.2.2.2.2.1
theorem dL_law_575 : decode cL_law 575 = .ok (.invokevirtual 54, 3) := dq_dL_law_566_25.2.2.2.2.2.2.2.2.2.1
theorem dL_law_578 : decode cL_law 578 = .ok (.pop, 1) := dq_dL_law_566_25.2.2.2.2.2.2.2.2.2.2.1
theorem dL_law_579 : decode cL_law 579 = .ok (.aload_n 2, 1) := dq_dL_law_566_25.2.2.2.2.2.2.2.2.2.2.2.1
theorem dL_law_580 : decode cL_law 580 = .ok (.aload_n 0, 1) := dq_dL_law_566_25.2.2.2.2.2.2.2.2.2.2.2.2.1
theorem dL_law_581 : decode cL_law 581 = .ok (.iload_n 3, 1) := dq_dL_law_566_25.2.2.2.2.2.2.2.2.2.2.2.2.2
theorem dq_dL_law_582_26 : (decode cL_law 582 = .ok (.iconst 1, 1)) ∧ (decode cL_law 583 = .ok (.iadd, 1)) ∧ (decode cL_law 584 = .ok (.iaload, 1)) ∧ (decode cL_law 585 = .ok (.aload_n 0, 1)) ∧ (decode cL_law 586 = .ok (.iload_n 3, 1)) ∧ (decode cL_law 587 = .ok (.iconst 2, 1)) ∧ (decode cL_law 588 = .ok (.iadd, 1)) ∧ (decode cL_law 589 = .ok (.iaload, 1)) ∧ (decode cL_law 590 = .ok (.aload_n 0, 1)) ∧ (decode cL_law 591 = .ok (.iload_n 3, 1)) ∧ (decode cL_law 592 = .ok (.iconst 3, 1)) ∧ (decode cL_law 593 = .ok (.iadd, 1)) ∧ (decode cL_law 594 = .ok (.iaload, 1)) ∧ (decode cL_law 595 = .ok (.invokevirtual 57, 3)) := by decide +kernel
theorem dL_law_582 : decode cL_law 582 = .ok (.iconst 1, 1) := dq_dL_law_582_26.1
theorem dL_law_583 : decode cL_law 583 = .ok (.iadd, 1) := dq_dL_law_582_26.2.1
theorem dL_law_584 : decode cL_law 584 = .ok (.iaload, 1) := dq_dL_law_582_26.2.2.1
theorem dL_law_585 : decode cL_law 585 = .ok (.aload_n 0, 1) := dq_dL_law_582_26.2.2.2.1
theorem dL_law_586 : decode cL_law 586 = .ok (.iload_n 3, 1) := dq_dL_law_582_26.2.2.2.2.1
theorem dL_law_587 : decode cL_law 587 = .ok (.iconst 2, 1) := dq_dL_law_582_26.2.2.2.2.2.1
theorem dL_law_588 : decode cL_law 588 = .ok (.iadd, 1) := dq_dL_law_582_26.2.2.2.2.2.2.1
theorem dL_law_589 : decode cL_law 589 = .ok (.iaload, 1) := dq_dL_law_582_26.2.2.2.2.2.2.2.1
theorem dL_law_590 : decode cL_law 590 = .ok (.aload_n 0, 1) := dq_dL_law_582_26.2.2.2.2.2.2.2.2.1
theorem dL_law_591 : decode cL_law 591 = .ok (.iload_n 3, 1) := dq_dL_law_582_26.2.2.2.2.2.2.2.2.2.1
theorem dL_law_592 : decode cL_law 592 = .ok (.iconst 3, 1) := dq_dL_law_582_26.2.2.2.2.2.2.2.2.2.2.1
theorem dL_law_593 : decode cL_law 593 = .ok (.iadd, 1) := dq_dL_law_582_26.2.2.2.2.2.2.2.2.2.2.2.1
theorem dL_law_594 : decode cL_law 594 = .ok (.iaload, 1) := dq_dL_law_582_26.2.2.2.2.2.2.2.2.2.2.2.2.1
theorem dL_law_595 : decode cL_law 595 = .ok (.invokevirtual 57, 3) := dq_dL_law_582_26.2.2.2.2.2.2.2.2.2.2.2.2.2
theorem dq_dL_law_598_27 : (decode cL_law 598 = .ok (.pop, 1)) ∧ (decode cL_law 599 = .ok (.goto 879, 3)) ∧ (decode cL_law 602 = .ok (.aload_n 1, 1)) ∧ (decode cL_law 603 = .ok (.aload_n 0, 1)) ∧ (decode cL_law 604 = .ok (.iload_n 3, 1)) ∧ (decode cL_law 605 = .ok (.iconst 1, 1)) ∧ (decode cL_law 606 = .ok (.iadd, 1)) ∧ (decode cL_law 607 = .ok (.iaload, 1)) ∧ (decode cL_law 608 = .ok (.aload_n 0, 1)) ∧ (decode cL_law 609 = .ok (.iload_n 3, 1)) ∧ (decode cL_law 610 = .ok (.iconst 2, 1)) ∧ (decode cL_law 611 = .ok (.iadd, 1)) ∧ (decode cL_law 612 = .ok (.iaload, 1)) ∧ (decode cL_law 613 = .ok (.aload_n 0, 1)) := by decide +kernel
theorem dL_law_598 : decode cL_law 598 = .ok (.pop, 1) := dq_dL_law_598_27.1
theorem dL_law_599 : decode cL_law 599 = .ok (.goto 879, 3) := dq_dL_law_598_27.2.1
theorem dL_law_602 : decode cL_law 602 = .ok (.aload_n 1, 1) := dq_dL_law_598_27.2.2.1
theorem dL_law_603 : decode cL_law 603 = .ok (.aload_n 0, 1) := dq_dL_law_598_27.2.2.2.1
theorem dL_law_604 : decode cL_law 604 = .ok (.iload_n 3, 1) := dq_dL_law_598_27.2.2.2.2.1
theorem dL_law_605 : decode cL_law 605 = .ok (.iconst 1, 1) := dq_dL_law_598_27.2.2.2.2.2.1
theorem dL_law_606 : decode cL_law 606 = .ok (.iadd, 1) := dq_dL_law_598_27.2.2.2.2.2.2.1
theorem dL_law_607 : decode cL_law 607 = .ok (.iaload, 1) := dq_dL_law_598_27.2.2.2.2.2.2.2.1
theorem dL_law_608 : decode cL_law 608 = .ok (.aload_n 0, 1) := dq_dL_law_598_27.2.2.2.2.2.2.2.2.1
theorem dL_law_609 : decode cL_law 609 = .ok (.iload_n 3, 1) := dq_dL_law_598_27.2.2.2.2.2.2.2.2.2.1
theorem dL_law_610 : decode cL_law 610 = .ok (.iconst 2, 1) := dq_dL_law_598_27.2.2.2.2.2.2.2.2.2.2.1
theorem dL_law_611 : decode cL_law 611 = .ok (.iadd, 1) := dq_dL_law_598_27.2.2.2.2.2.2.2.2.2.2.2.1
theorem dL_law_612 : decode cL_law 612 = .ok (.iaload, 1) := dq_dL_law_598_27.2.2.2.2.2.2.2.2.2.2.2.2.1
theorem dL_law_613 : decode cL_law 613 = .ok (.aload_n 0, 1) := dq_dL_law_598_27.2.2.2.2.2.2.2.2.2.2.2.2.2
theorem dq_dL_law_614_28 : (decode cL_law 614 = .ok (.iload_n 3, 1)) ∧ (decode cL_law 615 = .ok (.iconst 3, 1)) ∧ (decode cL_law 616 = .ok (.iadd, 1)) ∧ (decode cL_law 617 = .ok (.iaload, 1)) ∧ (decode cL_law 618 = .ok (.aload_n 0, 1)) ∧ (decode cL_law 619 = .ok (.iload_n 3, 1)) ∧ (decode cL_law 620 = .ok (.iconst 4, 1)) ∧ (decode cL_law 621 = .ok (.iadd, 1)) ∧ (decode cL_law 622 = .ok (.iaload, 1)) ∧ (decode cL_law 623 = .ok (.aload_n 0, 1)) ∧ (decode cL_law 624 = .ok (.iload_n 3, 1)) ∧ (decode cL_law 625 = .ok (.iconst 5, 1)) ∧ (decode cL_law 626 = .ok (.iadd, 1)) ∧ (decode cL_law 627 = .ok (.iaload, 1)) := by decide +kernel
theorem dL_law_614 : decode cL_law 614 = .ok (.iload_n 3, 1) := dq_dL_law_614_28.1
theorem dL_law_615 : decode cL_law 615 = .ok (.iconst 3, 1) := dq_dL_law_614_28.2.1
theorem dL_law_616 : decode cL_law 616 = .ok (.iadd, 1) := dq_dL_law_614_28.2.2.1
theorem dL_law_617 : decode cL_law 617 = .ok (.iaload, 1) := dq_dL_law_614_28.2.2.2.1
theorem dL_law_618 : decode cL_law 618 = .ok (.aload_n 0, 1) := dq_dL_law_614_28.2.2.2.2.1
theorem dL_law_619 : decode cL_law 619 = .ok (.iload_n 3, 1) := dq_dL_law_614_28.2.2.2.2.2.1
theorem dL_law_620 : decode cL_law 620 = .ok (.iconst 4, 1) := dq_dL_law_614_28.2.2.2.2.2.2.1
theorem dL_law_621 : decode cL_law 621 = .ok (.iadd, 1) := dq_dL_law_614_28.2.2.2.2.2.2.2.1
theorem dL_law_622 : decode cL_law 622 = .ok (.iaload, 1) := dq_dL_law_614_28.2.2.2.2.2.2.2.2.1
theorem dL_law_623 : decode cL_law 623 = .ok (.aload_n 0, 1) := dq_dL_law_614_28.2.2.2.2.2.2.2.2.2.1
theorem dL_law_624 : decode cL_law 624 = .ok (.iload_n 3, 1) := dq_dL_law_614_28.2.2.2.2.2.2.2.2.2.2.1
theorem dL_law_625 : decode cL_law 625 = .ok (.iconst 5, 1) := dq_dL_law_614_28.2.2.2.2.2.2.2.2.2.2.2.1
theorem dL_law_626 : decode cL_law 626 = .ok (.iadd, 1) := dq_dL_law_614_28.2.2.2.2.2.2.2.2.2.2.2.2.1
theorem dL_law_627 : decode cL_law 627 = .ok (.iaload, 1) := dq_dL_law_614_28.2.2.2.2.2.2.2.2.2.2.2.2.2
theorem dq_dL_law_628_29 : (decode cL_law 628 = .ok (.invokevirtual 58, 3)) ∧ (decode cL_law 631 = .ok (.pop, 1)) ∧ (decode cL_law 632 = .ok (.aload_n 2, 1)) ∧ (decode cL_law 633 = .ok (.aload_n 0, 1)) ∧ (decode cL_law 634 = .ok (.iload_n 3, 1)) ∧ (decode cL_law 635 = .ok (.iconst 1, 1)) ∧ (decode cL_law 636 = .ok (.iadd, 1)) ∧ (decode cL_law 637 = .ok (.iaload, 1)) ∧ (decode cL_law 638 = .ok (.aload_n 0, 1)) ∧ (decode cL_law 639 = .ok (.iload_n 3, 1)) ∧ (decode cL_law 640 = .ok (.iconst 2, 1)) ∧ (decode cL_law 641 = .ok (.iadd, 1)) ∧ (decode cL_law 642 = .ok (.iaload, 1)) ∧ (decode cL_law 643 = .ok (.aload_n 0, 1)) := by decide +kernel
theorem dL_law_628 : decode cL_law 628 = .ok (.invokevirtual 58, 3) := dq_dL_law_628_29.1
theorem dL_law_631 : decode cL_law 631 = .ok (.pop, 1) := dq_dL_law_628_29.2.1
theorem dL_law_632 : decode cL_law 632 = .ok (.aload_n 2, 1) := dq_dL_law_628_29.2.2.1
theorem dL_law_633 : decode cL_law 633 = .ok (.aload_n 0, 1) := dq_dL_law_628_29.2.2.2.1
theorem dL_law_634 : decode cL_law 634 = .ok (.iload_n 3, 1) := dq_dL_law_628_29.2.2.2.2.1
theorem dL_law_635 : decode cL_law 635 = .ok (.iconst 1, 1) := dq_dL_law_628_29.2.2.2.2.2.1
theorem dL_law_636 : decode cL_law 636 = .ok (.iadd, 1) := dq_dL_law_628_29.2.2.2.2.2.2.1
theorem dL_law_637 : decode cL_law 637 = .ok (.iaload, 1) := dq_dL_law_628_29.2.2.2.2.2.2.2.1
theorem dL_law_638 : decode cL_law 638 = .ok (.aload_n 0, 1) := dq_dL_law_628_29.2.2.2.2.2.2.2.2.1
theorem dL_law_639 : decode cL_law 639 = .ok (.iload_n 3, 1) := dq_dL_law_628_29.2.2.2.2.2.2.2.2.2.1
theorem dL_law_640 : decode cL_law 640 = .ok (.iconst 2, 1) := dq_dL_law_628_29.2.2.2.2.2.2.2.2.2.2.1
theorem dL_law_641 : decode cL_law 641 = .ok (.iadd, 1) := dq_dL_law_628_29.2.2.2.2.2.2.2.2.2.2.2.1
theorem dL_law_642 : decode cL_law 642 = .ok (.iaload, 1) := dq_dL_law_628_29.2.2.2.2.2.2.2.2.2.2.2.2.1
theorem dL_law_643 : decode cL_law 643 = .ok (.aload_n 0, 1) := dq_dL_law_628_29.2.2.2.2.2.2.2.2.2.2.2.2.2
theorem dq_dL_law_644_30 : (decode cL_law 644 = .ok (.iload_n 3, 1)) ∧ (decode cL_law 645 = .ok (.iconst 3, 1)) ∧ (decode cL_law 646 = .ok (.iadd, 1)) ∧ (decode cL_law 647 = .ok (.iaload, 1)) ∧ (decode cL_law 648 = .ok (.aload_n 0, 1)) ∧ (decode cL_law 649 = .ok (.iload_n 3, 1)) ∧ (decode cL_law 650 = .ok (.iconst 4, 1)) ∧ (decode cL_law 651 = .ok (.iadd, 1)) ∧ (decode cL_law 652 = .ok (.iaload, 1)) ∧ (decode cL_law 653 = .ok (.aload_n 0, 1)) ∧ (decode cL_law 654 = .ok (.iload_n 3, 1)) ∧ (decode cL_law 655 = .ok (.iconst 5, 1)) ∧ (decode cL_law 656 = .ok (.iadd, 1)) ∧ (decode cL_law 657 = .ok (.iaload, 1)) := by decide +kernel
theorem dL_law_644 : decode cL_law 644 = .ok (.iload_n 3, 1) := dq_dL_law_644_30.1
theorem dL_law_645 : decode cL_law 645 = .ok (.iconst 3, 1) := dq_dL_law_644_30.2.1
theorem dL_law_646 : decode cL_law 646 = .ok (.iadd, 1) := dq_dL_law_644_30.2.2.1
theorem dL_law_647 : decode cL_law 647 = .ok (.iaload, 1) := dq_dL_law_644_30.2.2.2.1
theorem dL_law_648 : decode cL_law 648 = .ok (.aload_n 0, 1) := dq_dL_law_644_30.2.2.2.2.1
theorem dL_law_649 : decode cL_law 649 = .ok (.iload_n 3, 1) := dq_dL_law_644_30.2.2.2.2.2.1
theorem dL_law_650 : decode cL_law 650 = .ok (.iconst 4, 1) := dq_dL_law_644_30.2.2.2.2.2.2.1
theorem dL_law_651 : decode cL_law 651 = .ok (.iadd, 1) := dq_dL_law_644_30.2.2.2.2.2.2.2.1
theorem dL_law_652 : decode cL_law 652 = .ok (.iaload, 1) := dq_dL_law_644_30.2.2.2.2.2.2.2.2.1
theorem dL_law_653 : decode cL_law 653 = .ok (.aload_n 0, 1) := dq_dL_law_644_30.2.2.2.2.2.2.2.2.2.1
theorem dL_law_654 : decode cL_law 654 = .ok (.iload_n 3, 1) := dq_dL_law_644_30.2.2.2.2.2.2.2.2.2.2.1
theorem dL_law_655 : decode cL_law 655 = .ok (.iconst 5, 1) := dq_dL_law_644_30.2.2.2.2.2.2.2.2.2.2.2.1
theorem dL_law_656 : decode cL_law 656 = .ok (.iadd, 1) := dq_dL_law_644_30.2.2.2.2.2.2.2.2.2.2.2.2.1
theorem dL_law_657 : decode cL_law 657 = .ok (.iaload, 1) := dq_dL_law_644_30.2.2.2.2.2.2.2.2.2.2.2.2.2
theorem dq_dL_law_658_31 : (decode cL_law 658 = .ok (.invokevirtual 61, 3)) ∧ (decode cL_law 661 = .ok (.pop, 1)) ∧ (decode cL_law 662 = .ok (.goto 816, 3)) ∧ (decode cL_law 665 = .ok (.aload_n 1, 1)) ∧ (decode cL_law 666 = .ok (.aload_n 0, 1)) ∧ (decode cL_law 667 = .ok (.iload_n 3, 1)) ∧ (decode cL_law 668 = .ok (.iconst 1, 1)) ∧ (decode cL_law 669 = .ok (.iadd, 1)) ∧ (decode cL_law 670 = .ok (.iaload, 1)) ∧ (decode cL_law 671 = .ok (.aload_n 0, 1)) ∧ (decode cL_law 672 = .ok (.iload_n 3, 1)) ∧ (decode cL_law 673 = .ok (.iconst 2, 1)) ∧ (decode cL_law 674 = .ok (.iadd, 1)) ∧ (decode cL_law 675 = .ok (.iaload, 1)) := by decide +kernel
theorem dL_law_658 : decode cL_law 658 = .ok (.invokevirtual 61, 3) := dq_dL_law_658_31.1
theorem dL_law_661 : decode cL_law 661 = .ok (.pop, 1) := dq_dL_law_658_31.2.1
theorem dL_law_662 : decode cL_law 662 = .ok (.goto 816, 3) := dq_dL_law_658_31.2.2.1
theorem dL_law_665 : decode cL_law 665 = .ok (.aload_n 1, 1) := dq_dL_law_658_31.2.2.2.1
theorem dL_law_666 : decode cL_law 666 = .ok (.aload_n 0, 1) := dq_dL_law_658_31.2.2.2.2.1
theorem dL_law_667 : decode cL_law 667 = .ok (.iload_n 3, 1) := dq_dL_law_658_31.2.2.2.2.2.1
theorem dL_law_668 : decode cL_law 668 = .ok (.iconst 1, 1) := dq_dL_law_658_31.2.2.2.2.2.2.1
theorem dL_law_669 : decode cL_law 669 = .ok (.iadd, 1) := dq_dL_law_658_31.2.2.2.2.2.2.2.1
theorem dL_law_670 : decode cL_law 670 = .ok (.iaload, 1) := dq_dL_law_658_31.2.2.2.2.2.2.2.2.1
theorem dL_law_671 : decode cL_law 671 = .ok (.aload_n 0, 1) := dq_dL_law_658_31.2.2.2.2.2.2.2.2.2.1
theorem dL_law_672 : decode cL_law 672 = .ok (.iload_n 3, 1) := dq_dL_law_658_31.2.2.2.2.2.2.2.2.2.2.1
theorem dL_law_673 : decode cL_law 673 = .ok (.iconst 2, 1) := dq_dL_law_658_31.2.2.2.2.2.2.2.2.2.2.2.1
theorem dL_law_674 : decode cL_law 674 = .ok (.iadd, 1) := dq_dL_law_658_31.2.2.2.2.2.2.2.2.2.2.2.2.1
theorem dL_law_675 : decode cL_law 675 = .ok (.iaload, 1) := dq_dL_law_658_31.2.2.2.2.2.2.2.2.2.2.2.2.2
theorem dq_dL_law_676_32 : (decode cL_law 676 = .ok (.aload_n 0, 1)) ∧ (decode cL_law 677 = .ok (.iload_n 3, 1)) ∧ (decode cL_law 678 = .ok (.iconst 3, 1)) ∧ (decode cL_law 679 = .ok (.iadd, 1)) ∧ (decode cL_law 680 = .ok (.iaload, 1)) ∧ (decode cL_law 681 = .ok (.invokevirtual 62, 3)) ∧ (decode cL_law 684 = .ok (.pop, 1)) ∧ (decode cL_law 685 = .ok (.aload_n 2, 1)) ∧ (decode cL_law 686 = .ok (.aload_n 0, 1)) ∧ (decode cL_law 687 = .ok (.iload_n 3, 1)) ∧ (decode cL_law 688 = .ok (.iconst 1, 1)) ∧ (decode cL_law 689 = .ok (.iadd, 1)) ∧ (decode cL_law 690 = .ok (.iaload, 1)) ∧ (decode cL_law 691 = .ok (.aload_n 0, 1)) := by decide +kernel
theorem dL_law_676 : decode cL_law 676 = .ok (.aload_n 0, 1) := dq_dL_law_676_32.1
theorem dL_law_677 : decode cL_law 677 = .ok (.iload_n 3, 1) := dq_dL_law_676_32.2.1
theorem dL_law_678 : decode cL_law 678 = .ok (.iconst 3, 1) := dq_dL_law_676_32.2.2.1
theorem dL_law_679 : decode cL_law 679 = .ok (.iadd, 1) := dq_dL_law_676_32.2.2.2.1
theorem dL_law_680 : decode cL_law 680 = .ok (.iaload, 1) := dq_dL_law_676_32.2.2.2.2.1
theorem dL_law_681 : decode cL_law 681 = .ok (.invokevirtual 62, 3) := dq_dL_law_676_32.2.2.2.2.2.1
theorem dL_law_684 : decode cL_law 684 = .ok (.pop, 1) := dq_dL_law_676_32.2.2.2.2.2.2.1
theorem dL_law_685 : decode cL_law 685 = .ok (.aload_n 2, 1) := dq_dL_law_676_32.2.2.2.2.2.2.2.1
theorem dL_law_686 : decode cL_law 686 = .ok (.aload_n 0, 1) := dq_dL_law_676_32.2.2.2.2.2.2.2.2.1
theorem dL_law_687 : decode cL_law 687 = .ok (.iload_n 3, 1) := dq_dL_law_676_32.2.2.2.2.2.2.2.2.2.1
theorem dL_law_688 : decode cL_law 688 = .ok (.iconst 1, 1) := dq_dL_law_676_32.2.2.2.2.2.2.2.2.2.2.1
theorem dL_law_689 : decode cL_law 689 = .ok (.iadd, 1) := dq_dL_law_676_32.2.2.2.2.2.2.2.2.2.2.2.1
theorem dL_law_690 : decode cL_law 690 = .ok (.iaload, 1) := dq_dL_law_676_32.2.2.2.2.2.2.2.2.2.2.2.2.1
theorem dL_law_691 : decode cL_law 691 = .ok (.aload_n 0, 1) := dq_dL_law_676_32.2.2.2.2.2.2.2.2.2.2.2.2.2
theorem dq_dL_law_692_33 : (decode cL_law 692 = .ok (.iload_n 3, 1)) ∧ (decode cL_law 693 = .ok (.iconst 2, 1)) ∧ (decode cL_law 694 = .ok (.iadd, 1)) ∧ (decode cL_law 695 = .ok (.iaload, 1)) ∧ (decode cL_law 696 = .ok (.aload_n 0, 1)) ∧ (decode cL_law 697 = .ok (.iload_n 3, 1)) ∧ (decode cL_law 698 = .ok (.iconst 3, 1)) ∧ (decode cL_law 699 = .ok (.iadd, 1)) ∧ (decode cL_law 700 = .ok (.iaload, 1)) ∧ (decode cL_law 701 = .ok (.invokevirtual 65, 3)) ∧ (decode cL_law 704 = .ok (.pop, 1)) ∧ (decode cL_law 705 = .ok (.goto 773, 3)) ∧ (decode cL_law 708 = .ok (.aload_n 1, 1)) ∧ (decode cL_law 709 = .ok (.aload_n 0, 1)) := by decide +kernel
theorem dL_law_692 : decode cL_law 692 = .ok (.iload_n 3, 1) := dq_dL_law_692_33.1
theorem dL_law_693 : decode cL_law 693 = .ok (.iconst 2, 1) := dq_dL_law_692_33.2.1
theorem dL_law_694 : decode cL_law 694 = .ok (.iadd, 1) := dq_dL_law_692_33.2.2.1
theorem dL_law_695 : decode cL_law 695 = .ok (.iaload, 1) := dq_dL_law_692_33.2.2.2.1
theorem dL_law_696 : decode cL_law 696 = .ok (.aload_n 0, 1) := dq_dL_law_692_33.2.2.2.2.1
theorem dL_law_697 : decode cL_law 697 = .ok (.iload_n 3, 1) := dq_dL_law_692_33.2.2.2.2.2.1
theorem dL_law_698 : decode cL_law 698 = .ok (.iconst 3, 1) := dq_dL_law_692_33.2.2.2.2.2.2.1
theorem dL_law_699 : decode cL_law 699 = .ok (.iadd, 1) := dq_dL_law_692_33.2.2.2.2.2.2.2.1
theorem dL_law_700 : decode cL_law 700 = .ok (.iaload, 1) := dq_dL_law_692_33.2.2.2.2.2.2.2.2.1
theorem dL_law_701 : decode cL_law 701 = .ok (.invokevirtual 65, 3) := dq_dL_law_692_33.2.2.2.2.2.2.2.2.2.1
theorem dL_law_704 : decode cL_law 704 = .ok (.pop, 1) := dq_dL_law_692_33.2.2.2.2.2.2.2.2.2.2.1
theorem dL_law_705 : decode cL_law 705 = .ok (.goto 773, 3) := dq_dL_law_692_33.2.2.2.2.2.2.2.2.2.2.2.1
theorem dL_law_708 : decode cL_law 708 = .ok (.aload_n 1, 1) := dq_dL_law_692_33.2.2.2.2.2.2.2.2.2.2.2.2.1
theorem dL_law_709 : decode cL_law 709 = .ok (.aload_n 0, 1) := dq_dL_law_692_33.2.2.2.2.2.2.2.2.2.2.2.2.2
theorem dq_dL_law_710_34 : (decode cL_law 710 = .ok (.iload_n 3, 1)) ∧ (decode cL_law 711 = .ok (.iconst 1, 1)) ∧ (decode cL_law 712 = .ok (.iadd, 1)) ∧ (decode cL_law 713 = .ok (.iaload, 1)) ∧ (decode cL_law 714 = .ok (.aload_n 0, 1)) ∧ (decode cL_law 715 = .ok (.iload_n 3, 1)) ∧ (decode cL_law 716 = .ok (.iconst 2, 1)) ∧ (decode cL_law 717 = .ok (.iadd, 1)) ∧ (decode cL_law 718 = .ok (.iaload, 1)) ∧ (decode cL_law 719 = .ok (.invokevirtual 66, 3)) ∧ (decode cL_law 722 = .ok (.aload_n 2, 1)) ∧ (decode cL_law 723 = .ok (.aload_n 0, 1)) ∧ (decode cL_law 724 = .ok (.iload_n 3, 1)) ∧ (decode cL_law 725 = .ok (.iconst 1, 1)) := by decide +kernel
theorem dL_law_710 : decode cL_law 710 = .ok (.iload_n 3, 1) := dq_dL_law_710_34.1
theorem dL_law_711 : decode cL_law 711 = .ok (.iconst 1, 1) := dq_dL_law_710_34.2.1
theorem dL_law_712 : decode cL_law 712 = .ok (.iadd, 1) := dq_dL_law_710_34.2.2.1
theorem dL_law_713 : decode cL_law 713 = .ok (.iaload, 1) := dq_dL_law_710_34.2.2.2.1
theorem dL_law_714 : decode cL_law 714 = .ok (.aload_n 0, 1) := dq_dL_law_710_34.2.2.2.2.1
theorem dL_law_715 : decode cL_law 715 = .ok (.iload_n 3, 1) := dq_dL_law_710_34.2.2.2.2.2.1
theorem dL_law_716 : decode cL_law 716 = .ok (.iconst 2, 1) := dq_dL_law_710_34.2.2.2.2.2.2.1
theorem dL_law_717 : decode cL_law 717 = .ok (.iadd, 1) := dq_dL_law_710_34.2.2.2.2.2.2.2.1
theorem dL_law_718 : decode cL_law 718 = .ok (.iaload, 1) := dq_dL_law_710_34.2.2.2.2.2.2.2.2.1
theorem dL_law_719 : decode cL_law 719 = .ok (.invokevirtual 66, 3) := dq_dL_law_710_34.2.2.2.2.2.2.2.2.2.1
theorem dL_law_722 : decode cL_law 722 = .ok (.aload_n 2, 1) := dq_dL_law_710_34.2.2.2.2.2.2.2.2.2.2.1
theorem dL_law_723 : decode cL_law 723 = .ok (.aload_n 0, 1) := dq_dL_law_710_34.2.2.2.2.2.2.2.2.2.2.2.1
theorem dL_law_724 : decode cL_law 724 = .ok (.iload_n 3, 1) := dq_dL_law_710_34.2.2.2.2.2.2.2.2.2.2.2.2.1
theorem dL_law_725 : decode cL_law 725 = .ok (.iconst 1, 1) := dq_dL_law_710_34.2.2.2.2.2.2.2.2.2.2.2.2.2
theorem dq_dL_law_726_35 : (decode cL_law 726 = .ok (.iadd, 1)) ∧ (decode cL_law 727 = .ok (.iaload, 1)) ∧ (decode cL_law 728 = .ok (.aload_n 0, 1)) ∧ (decode cL_law 729 = .ok (.iload_n 3, 1)) ∧ (decode cL_law 730 = .ok (.iconst 2, 1)) ∧ (decode cL_law 731 = .ok (.iadd, 1)) ∧ (decode cL_law 732 = .ok (.iaload, 1)) ∧ (decode cL_law 733 = .ok (.invokevirtual 69, 3)) ∧ (decode cL_law 736 = .ok (.if_icmp .eq 742, 3)) ∧ (decode cL_law 741 = .ok (.aload_n 1, 1)) ∧ (decode cL_law 742 = .ok (.aload_n 0, 1)) ∧ (decode cL_law 743 = .ok (.iload_n 3, 1)) ∧ (decode cL_law 744 = .ok (.iconst 1, 1)) ∧ (decode cL_law 745 = .ok (.iadd, 1)) := by decide +kernel
theorem dL_law_726 : decode cL_law 726 = .ok (.iadd, 1) := dq_dL_law_726_35.1
theorem dL_law_727 : decode cL_law 727 = .ok (.iaload, 1) := dq_dL_law_726_35.2.1
theorem dL_law_728 : decode cL_law 728 = .ok (.aload_n 0, 1) := dq_dL_law_726_35.2.2.1
theorem dL_law_729 : decode cL_law 729 = .ok (.iload_n 3, 1) := dq_dL_law_726_35.2.2.2.1
theorem dL_law_730 : decode cL_law 730 = .ok (.iconst 2, 1) := dq_dL_law_726_35.2.2.2.2.1
theorem dL_law_731 : decode cL_law 731 = .ok (.iadd, 1) := dq_dL_law_726_35.2.2.2.2.2.1
theorem dL_law_732 : decode cL_law 732 = .ok (.iaload, 1) := dq_dL_law_726_35.2.2.2.2.2.2.1
theorem dL_law_733 : decode cL_law 733 = .ok (.invokevirtual 69, 3) := dq_dL_law_726_35.2.2.2.2.2.2.2.1
theorem dL_law_736 : decode cL_law 736 = .ok (.if_icmp .eq 742, 3) := dq_dL_law_726_35.2.2.2.2.2.2.2.2.1
theorem dL_law_741 : decode cL_law 741 = .ok (.aload_n 1, 1) := dq_dL_law_726_35.2.2.2.2.2.2.2.2.2.1
theorem dL_law_742 : decode cL_law 742 = .ok (.aload_n 0, 1) := dq_dL_law_726_35.2.2.2.2.2.2.2.2.2.2.1
theorem dL_law_743 : decode cL_law 743 = .ok (.iload_n 3, 1) := dq_dL_law_726_35.2.2.2.2.2.2.2.2.2.2.2.1
theorem dL_law_744 : decode cL_law 744 = .ok (.iconst 1, 1) := dq_dL_law_726_35.2.2.2.2.2.2.2.2.2.2.2.2.1
theorem dL_law_745 : decode cL_law 745 = .ok (.iadd, 1) := dq_dL_law_726_35.2.2.2.2.2.2.2.2.2.2.2.2.2
theorem dq_dL_law_746_36 : (decode cL_law 746 = .ok (.iaload, 1)) ∧ (decode cL_law 747 = .ok (.aload_n 0, 1)) ∧ (decode cL_law 748 = .ok (.iload_n 3, 1)) ∧ (decode cL_law 749 = .ok (.iconst 2, 1)) ∧ (decode cL_law 750 = .ok (.iadd, 1)) ∧ (decode cL_law 751 = .ok (.iaload, 1)) ∧ (decode cL_law 752 = .ok (.invokevirtual 70, 3)) ∧ (decode cL_law 755 = .ok (.pop, 1)) ∧ (decode cL_law 756 = .ok (.aload_n 2, 1)) ∧ (decode cL_law 757 = .ok (.aload_n 0, 1)) ∧ (decode cL_law 758 = .ok (.iload_n 3, 1)) ∧ (decode cL_law 759 = .ok (.iconst 1, 1)) ∧ (decode cL_law 760 = .ok (.iadd, 1)) ∧ (decode cL_law 761 = .ok (.iaload, 1)) := by decide +kernel
theorem dL_law_746 : decode cL_law 746 = .ok (.iaload, 1) := dq_dL_law_746_36.1
theorem dL_law_747 : decode cL_law 747 = .ok (.aload_n 0, 1) := dq_dL_law_746_36.2.1
theorem dL_law_748 : decode cL_law 748 = .ok (.iload_n 3, 1) := dq_dL_law_746_36.2.2.1
theorem dL_law_749 : decode cL_law 749 = .ok (.iconst 2, 1) := dq_dL_law_746_36.2.2.2.1
theorem dL_law_750 : decode cL_law 750 = .ok (.iadd, 1) := dq_dL_law_746_36.2.2.2.2.1
theorem dL_law_751 : decode cL_law 751 = .ok (.iaload, 1) := dq_dL_law_746_36.2.2.2.2.2.1
theorem dL_law_752 : decode cL_law 752 = .ok (.invokevirtual 70, 3) := dq_dL_law_746_36.2.2.2.2.2.2.1
theorem dL_law_755 : decode cL_law 755 = .ok (.pop, 1) := dq_dL_law_746_36.2.2.2.2.2.2.2.1
theorem dL_law_756 : decode cL_law 756 = .ok (.aload_n 2, 1) := dq_dL_law_746_36.2.2.2.2.2.2.2.2.1
theorem dL_law_757 : decode cL_law 757 = .ok (.aload_n 0, 1) := dq_dL_law_746_36.2.2.2.2.2.2.2.2.2.1
theorem dL_law_758 : decode cL_law 758 = .ok (.iload_n 3, 1) := dq_dL_law_746_36.2.2.2.2.2.2.2.2.2.2.1
theorem dL_law_759 : decode cL_law 759 = .ok (.iconst 1, 1) := dq_dL_law_746_36.2.2.2.2.2.2.2.2.2.2.2.1
theorem dL_law_760 : decode cL_law 760 = .ok (.iadd, 1) := dq_dL_law_746_36.2.2.2.2.2.2.2.2.2.2.2.2.1
theorem dL_law_761 : decode cL_law 761 = .ok (.iaload, 1) := dq_dL_law_746_36.2.2.2.2.2.2.2.2.2.2.2.2.2
theorem dq_dL_law_762_37 : (decode cL_law 762 = .ok (.aload_n 0, 1)) ∧ (decode cL_law 763 = .ok (.iload_n 3, 1)) ∧ (decode cL_law 764 = .ok (.iconst 2, 1)) ∧ (decode cL_law 765 = .ok (.iadd, 1)) ∧ (decode cL_law 766 = .ok (.iaload, 1)) ∧ (decode cL_law 767 = .ok (.invokevirtual 73, 3)) ∧ (decode cL_law 770 = .ok (.pop, 1)) ∧ (decode cL_law 771 = .ok (.goto 707, 3)) ∧ (decode cL_law 774 = .ok (.aload_n 1, 1)) ∧ (decode cL_law 775 = .ok (.aload_n 0, 1)) ∧ (decode cL_law 776 = .ok (.iload_n 3, 1)) ∧ (decode cL_law 777 = .ok (.iconst 1, 1)) ∧ (decode cL_law 778 = .ok (.iadd, 1)) ∧ (decode cL_law 779 = .ok (.iaload, 1)) := by decide +kernel
theorem dL_law_762 : decode cL_law 762 = .ok (.aload_n 0, 1) := dq_dL_law_762_37.1
theorem dL_law_763 : decode cL_law 763 = .ok (.iload_n 3, 1) := dq_dL_law_762_37.2.1
theorem dL_law_764 : decode cL_law 764 = .ok (.iconst 2, 1) := dq_dL_law_762_37.2.2.1
theorem dL_law_765 : decode cL_law 765 = .ok (.iadd, 1) := dq_dL_law_762_37.2.2.2.1
theorem dL_law_766 : decode cL_law 766 = .ok (.iaload, 1) := dq_dL_law_762_37.2.2.2.2.1
theorem dL_law_767 : decode cL_law 767 = .ok (.invokevirtual 73, 3) := dq_dL_law_762_37.2.2.2.2.2.1
theorem dL_law_770 : decode cL_law 770 = .ok (.pop, 1) := dq_dL_law_762_37.2.2.2.2.2.2.1
theorem dL_law_771 : decode cL_law 771 = .ok (.goto 707, 3) := dq_dL_law_762_37.2.2.2.2.2.2.2.1
theorem dL_law_774 : decode cL_law 774 = .ok (.aload_n 1, 1) := dq_dL_law_762_37.2.2.2.2.2.2.2.2.1
theorem dL_law_775 : decode cL_law 775 = .ok (.aload_n 0, 1) := dq_dL_law_762_37.2.2.2.2.2.2.2.2.2.1
theorem dL_law_776 : decode cL_law 776 = .ok (.iload_n 3, 1) := dq_dL_law_762_37.2.2.2.2.2.2.2.2.2.2.1
theorem dL_law_777 : decode cL_law 777 = .ok (.iconst 1, 1) := dq_dL_law_762_37.2.2.2.2.2.2.2.2.2.2.2.1
theorem dL_law_778 : decode cL_law 778 = .ok (.iadd, 1) := dq_dL_law_762_37.2.2.2.2.2.2.2.2.2.2.2.2.1
theorem dL_law_779 : decode cL_law 779 = .ok (.iaload, 1) := dq_dL_law_762_37.2.2.2.2.2.2.2.2.2.2.2.2.2
theorem dq_dL_law_780_38 : (decode cL_law 780 = .ok (.aload_n 0, 1)) ∧ (decode cL_law 781 = .ok (.iload_n 3, 1)) ∧ (decode cL_law 782 = .ok (.iconst 2, 1)) ∧ (decode cL_law 783 = .ok (.iadd, 1)) ∧ (decode cL_law 784 = .ok (.iaload, 1)) ∧ (decode cL_law 785 = .ok (.aload_n 0, 1)) ∧ (decode cL_law 786 = .ok (.iload_n 3, 1)) ∧ (decode cL_law 787 = .ok (.iconst 3, 1)) ∧ (decode cL_law 788 = .ok (.iadd, 1)) ∧ (decode cL_law 789 = .ok (.iaload, 1)) ∧ (decode cL_law 790 = .ok (.invokevirtual 74, 3)) ∧ (decode cL_law 793 = .ok (.pop, 1)) ∧ (decode cL_law 794 = .ok (.aload_n 2, 1)) ∧ (decode cL_law 795 = .ok (.aload_n 0, 1)) := by decide +kernel
theorem dL_law_780 : decode cL_law 780 = .ok (.aload_n 0, 1) := dq_dL_law_780_38.1
theorem dL_law_781 : decode cL_law 781 = .ok (.iload_n 3, 1) := dq_dL_law_780_38.2.1
theorem dL_law_782 : decode cL_law 782 = .ok (.iconst 2, 1) := dq_dL_law_780_38.2.2.1
theorem dL_law_783 : decode cL_law 783 = .ok (.iadd, 1) := dq_dL_law_780_38.2.2.2.1
theorem dL_law_784 : decode cL_law 784 = .ok (.iaload, 1) := dq_dL_law_780_38.2.2.2.2.1
theorem dL_law_785 : decode cL_law 785 = .ok (.aload_n 0, 1) := dq_dL_law_780_38.2.2.2.2.2.1
theorem dL_law_786 : decode cL_law 786 = .ok (.iload_n 3, 1) := dq_dL_law_780_38.2.2.2.2.2.2.1
theorem dL_law_787 : decode cL_law 787 = .ok (.iconst 3, 1) := dq_dL_law_780_38.2.2.2.2.2.2.2.1
theorem dL_law_788 : decode cL_law 788 = .ok (.iadd, 1) := dq_dL_law_780_38.2.2.2.2.2.2.2.2.1
theorem dL_law_789 : decode cL_law 789 = .ok (.iaload, 1) := dq_dL_law_780_38.2.2.2.2.2.2.2.2.2.1
theorem dL_law_790 : decode cL_law 790 = .ok (.invokevirtual 74, 3) := dq_dL_law_780_38.2.2.2.2.2.2.2.2.2.2.1
theorem dL_law_793 : decode cL_law 793 = .ok (.pop, 1) := dq_dL_law_780_38.2.2.2.2.2.2.2.2.2.2.2.1
theorem dL_law_794 : decode cL_law 794 = .ok (.aload_n 2, 1) := dq_dL_law_780_38.2.2.2.2.2.2.2.2.2.2.2.2.1
theorem dL_law_795 : decode cL_law 795 = .ok (.aload_n 0, 1) := dq_dL_law_780_38.2.2.2.2.2.2.2.2.2.2.2.2.2
theorem dq_dL_law_796_39 : (decode cL_law 796 = .ok (.iload_n 3, 1)) ∧ (decode cL_law 797 = .ok (.iconst 1, 1)) ∧ (decode cL_law 798 = .ok (.iadd, 1)) ∧ (decode cL_law 799 = .ok (.iaload, 1)) ∧ (decode cL_law 800 = .ok (.aload_n 0, 1)) ∧ (decode cL_law 801 = .ok (.iload_n 3, 1)) ∧ (decode cL_law 802 = .ok (.iconst 2, 1)) ∧ (decode cL_law 803 = .ok (.iadd, 1)) ∧ (decode cL_law 804 = .ok (.iaload, 1)) ∧ (decode cL_law 805 = .ok (.aload_n 0, 1)) ∧ (decode cL_law 806 = .ok (.iload_n 3, 1)) ∧ (decode cL_law 807 = .ok (.iconst 3, 1)) ∧ (decode cL_law 808 = .ok (.iadd, 1)) ∧ (decode cL_law 809 = .ok (.iaload, 1)) := by decide +kernel
theorem dL_law_796 : decode cL_law 796 = .ok (.iload_n 3, 1) := dq_dL_law_796_39.1
theorem dL_law_797 : decode cL_law 797 = .ok (.iconst 1, 1) := dq_dL_law_796_39.2.1
theorem dL_law_798 : decode cL_law 798 = .ok (.iadd, 1) := dq_dL_law_796_39.2.2.1
theorem dL_law_799 : decode cL_law 799 = .ok (.iaload, 1) := dq_dL_law_796_39.2.2.2.1
theorem dL_law_800 : decode cL_law 800 = .ok (.aload_n 0, 1) := dq_dL_law_796_39.2.2.2.2.1
theorem dL_law_801 : decode cL_law 801 = .ok (.iload_n 3, 1) := dq_dL_law_796_39.2.2.2.2.2.1
theorem dL_law_802 : decode cL_law 802 = .ok (.iconst 2, 1) := dq_dL_law_796_39.2.2.2.2.2.2.1
theorem dL_law_803 : decode cL_law 803 = .ok (.iadd, 1) := dq_dL_law_796_39.2.2.2.2.2.2.2.1
theorem dL_law_804 : decode cL_law 804 = .ok (.iaload, 1) := dq_dL_law_796_39.2.2.2.2.2.2.2.2.1
theorem dL_law_805 : decode cL_law 805 = .ok (.aload_n 0, 1) := dq_dL_law_796_39.2.2.2.2.2.2.2.2.2.1
theorem dL_law_806 : decode cL_law 806 = .ok (.iload_n 3, 1) := dq_dL_law_796_39.2.2.2.2.2.2.2.2.2.2.1
theorem dL_law_807 : decode cL_law 807 = .ok (.iconst 3, 1) := dq_dL_law_796_39.2.2.2.2.2.2.2.2.2.2.2.1
theorem dL_law_808 : decode cL_law 808 = .ok (.iadd, 1) := dq_dL_law_796_39.2.2.2.2.2.2.2.2.2.2.2.2.1
theorem dL_law_809 : decode cL_law 809 = .ok (.iaload, 1) := dq_dL_law_796_39.2.2.2.2.2.2.2.2.2.2.2.2.2
theorem dq_dL_law_810_40 : (decode cL_law 810 = .ok (.invokevirtual 77, 3)) ∧ (decode cL_law 813 = .ok (.pop, 1)) ∧ (decode cL_law 814 = .ok (.goto 664, 3)) ∧ (decode cL_law 817 = .ok (.aload_n 1, 1)) ∧ (decode cL_law 818 = .ok (.aload_n 0, 1)) ∧ (decode cL_law 819 = .ok (.iload_n 3, 1)) ∧ (decode cL_law 820 = .ok (.iconst 1, 1)) ∧ (decode cL_law 821 = .ok (.iadd, 1)) ∧ (decode cL_law 822 = .ok (.iaload, 1)) ∧ (decode cL_law 823 = .ok (.invokevirtual 78, 3)) ∧ (decode cL_law 826 = .ok (.pop, 1)) ∧ (decode cL_law 827 = .ok (.aload_n 2, 1)) ∧ (decode cL_law 828 = .ok (.aload_n 0, 1)) ∧ (decode cL_law 829 = .ok (.iload_n 3, 1)) := by decide +kernel
theorem dL_law_810 : decode cL_law 810 = .ok (.invokevirtual 77, 3) := dq_dL_law_810_40.1
theorem dL_law_813 : decode cL_law 813 = .ok (.pop, 1) := dq_dL_law_810_40.2.1
theorem dL_law_814 : decode cL_law 814 = .ok (.goto 664, 3) := dq_dL_law_810_40.2.2.1
theorem dL_law_817 : decode cL_law 817 = .ok (.aload_n 1, 1) := dq_dL_law_810_40.2.2.2.1
theorem dL_law_818 : decode cL_law 818 = .ok (.aload_n 0, 1) := dq_dL_law_810_40.2.2.2.2.1
theorem dL_law_819 : decode cL_law 819 = .ok (.iload_n 3, 1) := dq_dL_law_810_40.2.2.2.2.2.1
theorem dL_law_820 : decode cL_law 820 = .ok (.iconst 1, 1) := dq_dL_law_810_40.2.2.2.2.2.2.1
theorem dL_law_821 : decode cL_law 821 = .ok (.iadd, 1) := dq_dL_law_810_40.2.2.2.2.2.2.2.1
theorem dL_law_822 : decode cL_law 822 = .ok (.iaload, 1) := dq_dL_law_810_40.2.2.2.2.2.2.2.2.1
theorem dL_law_823 : decode cL_law 823 = .ok (.invokevirtual 78, 3) := dq_dL_law_810_40.2.2.2.2.2.2.2.2.2.1
theorem dL_law_826 : decode cL_law 826 = .ok (.pop, 1) := dq_dL_law_810_40.2.2.2.2.2.2.2.2.2.2.1
theorem dL_law_827 : decode cL_law 827 = .ok (.aload_n 2, 1) := dq_dL_law_810_40.2.2.2.2.2.2.2.2.2.2.2.1
theorem dL_law_828 : decode cL_law 828 = .ok (.aload_n 0, 1) := dq_dL_law_810_40.2.2.2.2.2.2.2.2.2.2.2.2.1
theorem dL_law_829 : decode cL_law 829 = .ok (.iload_n 3, 1) := dq_dL_law_810_40.2.2.2.2.2.2.2.2.2.2.2.2.2
theorem dq_dL_law_830_41 : (decode cL_law 830 = .ok (.iconst 1, 1)) ∧ (decode cL_law 831 = .ok (.iadd, 1)) ∧ (decode cL_law 832 = .ok (.iaload, 1)) ∧ (decode cL_law 833 = .ok (.invokevirtual 82, 3)) ∧ (decode cL_law 836 = .ok (.pop, 1)) ∧ (decode cL_law 837 = .ok (.goto 641, 3)) ∧ (decode cL_law 840 = .ok (.aload_n 1, 1)) ∧ (decode cL_law 841 = .ok (.aload_n 0, 1)) ∧ (decode cL_law 842 = .ok (.iload_n 3, 1)) ∧ (decode cL_law 843 = .ok (.iconst 1, 1)) ∧ (decode cL_law 844 = .ok (.iadd, 1)) ∧ (decode cL_law 845 = .ok (.iaload, 1)) ∧ (decode cL_law 846 = .ok (.aload_n 0, 1)) ∧ (decode cL_law 847 = .ok (.iload_n 3, 1)) := by decide +kernel
theorem dL_law_830 : decode cL_law 830 = .ok (.iconst 1, 1) := dq_dL_law_830_41.1
theorem dL_law_831 : decode cL_law 831 = .ok (.iadd, 1) := dq_dL_law_830_41.2.1
theorem dL_law_832 : decode cL_law 832 = .ok (.iaload, 1) := dq_dL_law_830_41.2.2.1
theorem dL_law_833 : decode cL_law 833 = .ok (.invokevirtual 82, 3) := dq_dL_law_830_41.2.2.2.1
theorem dL_law_836 : decode cL_law 836 = .ok (.pop, 1) := dq_dL_law_830_41.2.2.2.2.1
theorem dL_law_837 : decode cL_law 837 = .ok (.goto 641, 3) := dq_dL_law_830_41.2.2.2.2.2.1
theorem dL_law_840 : decode cL_law 840 = .ok (.aload_n 1, 1) := dq_dL_law_830_41.2.2.2.2.2.2.1
theorem dL_law_841 : decode cL_law 841 = .ok (.aload_n 0, 1) := dq_dL_law_830_41.2.2.2.2.2.2.2.1
theorem dL_law_842 : decode cL_law 842 = .ok (.iload_n 3, 1) := dq_dL_law_830_41.2.2.2.2.2.2.2.2.1
theorem dL_law_843 : decode cL_law 843 = .ok (.iconst 1, 1) := dq_dL_law_830_41.2.2.2.2.2.2.2.2.2.1
theorem dL_law_844 : decode cL_law 844 = .ok (.iadd, 1) := dq_dL_law_830_41.2.2.2.2.2.2.2.2.2.2.1
theorem dL_law_845 : decode cL_law 845 = .ok (.iaload, 1) := dq_dL_law_830_41.2.2.2.2.2.2.2.2.2.2.2.1
theorem dL_law_846 : decode cL_law 846 = .ok (.aload_n 0, 1) := dq_dL_law_830_41.2.2.2.2.2.2.2.2.2.2.2.2.1
theorem dL_law_847 : decode cL_law 847 = .ok (.iload_n 3, 1) := dq_dL_law_830_41.2.2.2.2.2.2.2.2.2.2.2.2.2
theorem dq_dL_law_848_42 : (decode cL_law 848 = .ok (.iconst 2, 1)) ∧ (decode cL_law 849 = .ok (.iadd, 1)) ∧ (decode cL_law 850 = .ok (.iaload, 1)) ∧ (decode cL_law 851 = .ok (.invokevirtual 83, 3)) ∧ (decode cL_law 854 = .ok (.pop, 1)) ∧ (decode cL_law 855 = .ok (.aload_n 2, 1)) ∧ (decode cL_law 856 = .ok (.aload_n 0, 1)) ∧ (decode cL_law 857 = .ok (.iload_n 3, 1)) ∧ (decode cL_law 858 = .ok (.iconst 1, 1)) ∧ (decode cL_law 859 = .ok (.iadd, 1)) ∧ (decode cL_law 860 = .ok (.iaload, 1)) ∧ (decode cL_law 861 = .ok (.aload_n 0, 1)) ∧ (decode cL_law 862 = .ok (.iload_n 3, 1)) ∧ (decode cL_law 863 = .ok (.iconst 2, 1)) := by decide +kernel
theorem dL_law_848 : decode cL_law 848 = .ok (.iconst 2, 1) := dq_dL_law_848_42.1
theorem dL_law_849 : decode cL_law 849 = .ok (.iadd, 1) := dq_dL_law_848_42.2.1
theorem dL_law_850 : decode cL_law 850 = .ok (.iaload, 1) := dq_dL_law_848_42.2.2.1
theorem dL_law_851 : decode cL_law 851 = .ok (.invokevirtual 83, 3) := dq_dL_law_848_42.2.2.2.1
theorem dL_law_854 : decode cL_law 854 = .ok (.pop, 1) := dq_dL_law_848_42.2.2.2.2.1
theorem dL_law_855 : decode cL_law 855 = .ok (.aload_n 2, 1) := dq_dL_law_848_42.2.2.2.2.2.1
theorem dL_law_856 : decode cL_law 856 = .ok (.aload_n 0, 1) := dq_dL_law_848_42.2.2.2.2.2.2.1
theorem dL_law_857 : decode cL_law 857 = .ok (.iload_n 3, 1) := dq_dL_law_848_42.2.2.2.2.2.2.2.1
theorem dL_law_858 : decode cL_law 858 = .ok (.iconst 1, 1) := dq_dL_law_848_42.2.2.2.2.2.2.2.2.1
theorem dL_law_859 : decode cL_law 859 = .ok (.iadd, 1) := dq_dL_law_848_42.2.2.2.2.2.2.2.2.2.1
theorem dL_law_860 : decode cL_law 860 = .ok (.iaload, 1) := dq_dL_law_848_42.2.2.2.2.2.2.2.2.2.2.1
theorem dL_law_861 : decode cL_law 861 = .ok (.aload_n 0, 1) := dq_dL_law_848_42.2.2.2.2.2.2.2.2.2.2.2.1
theorem dL_law_862 : decode cL_law 862 = .ok (.iload_n 3, 1) := dq_dL_law_848_42.2.2.2.2.2.2.2.2.2.2.2.2.1
theorem dL_law_863 : decode cL_law 863 = .ok (.iconst 2, 1) := dq_dL_law_848_42.2.2.2.2.2.2.2.2.2.2.2.2.2
theorem dq_dL_law_864_43 : (decode cL_law 864 = .ok (.iadd, 1)) ∧ (decode cL_law 865 = .ok (.iaload, 1)) ∧ (decode cL_law 866 = .ok (.invokevirtual 86, 3)) ∧ (decode cL_law 869 = .ok (.pop, 1)) ∧ (decode cL_law 870 = .ok (.goto 608, 3)) ∧ (decode cL_law 873 = .ok (.aload_n 1, 1)) ∧ (decode cL_law 874 = .ok (.aload_n 0, 1)) ∧ (decode cL_law 875 = .ok (.iload_n 3, 1)) ∧ (decode cL_law 876 = .ok (.iconst 1, 1)) ∧ (decode cL_law 877 = .ok (.iadd, 1)) ∧ (decode cL_law 878 = .ok (.iaload, 1)) ∧ (decode cL_law 879 = .ok (.aload_n 0, 1)) ∧ (decode cL_law 880 = .ok (.iload_n 3, 1)) ∧ (decode cL_law 881 = .ok (.iconst 2, 1)) := by decide +kernel
theorem dL_law_864 : decode cL_law 864 = .ok (.iadd, 1) := dq_dL_law_864_43.1
theorem dL_law_865 : decode cL_law 865 = .ok (.iaload, 1) := dq_dL_law_864_43.2.1
theorem dL_law_866 : decode cL_law 866 = .ok (.invokevirtual 86, 3) := dq_dL_law_864_43.2.2.1
theorem dL_law_869 : decode cL_law 869 = .ok (.pop, 1) := dq_dL_law_864_43.2.2.2.1
theorem dL_law_870 : decode cL_law 870 = .ok (.goto 608, 3) := dq_dL_law_864_43.2.2.2.2.1
theorem dL_law_873 : decode cL_law 873 = .ok (.aload_n 1, 1) := dq_dL_law_864_43.2.2.2.2.2.1
theorem dL_law_874 : decode cL_law 874 = .ok (.aload_n 0, 1) := dq_dL_law_864_43.2.2.2.2.2.2.1
theorem dL_law_875 : decode cL_law 875 = .ok (.iload_n 3, 1) := dq_dL_law_864_43.2.2.2.2.2.2.2.1
theorem dL_law_876 : decode cL_law 876 = .ok (.iconst 1, 1) := dq_dL_law_864_43.2.2.2.2.2.2.2.2.1
theorem dL_law_877 : decode cL_law 877 = .ok (.iadd, 1) := dq_dL_law_864_43.2.2.2.2.2.2.2.2.2.1
theorem dL_law_878 : decode cL_law 878 = .ok (.iaload, 1) := dq_dL_law_864_43.2.2.2.2.2.2.2.2.2.2.1
theorem dL_law_879 : decode cL_law 879 = .ok (.aload_n 0, 1) := dq_dL_law_864_43.2.2.2.2.2.2.2.2.2.2.2.1
theorem dL_law_880 : decode cL_law 880 = .ok (.iload_n 3, 1) := dq_dL_law_864_43.2.2.2.2.2.2.2.2.2.2.2.2.1
theorem dL_law_881 : decode cL_law 881 = .ok (.iconst 2, 1) := dq_dL_law_864_43.2.2.2.2.2.2.2.2.2.2.2.2.2
theorem dq_dL_law_882_44 : (decode cL_law 882 = .ok (.iadd, 1)) ∧ (decode cL_law 883 = .ok (.iaload, 1)) ∧ (decode cL_law 884 = .ok (.aload_n 0, 1)) ∧ (decode cL_law 885 = .ok (.iload_n 3, 1)) ∧ (decode cL_law 886 = .ok (.iconst 3, 1)) ∧ (decode cL_law 887 = .ok (.iadd, 1)) ∧ (decode cL_law 888 = .ok (.iaload, 1)) ∧ (decode cL_law 889 = .ok (.aload_n 0, 1)) ∧ (decode cL_law 890 = .ok (.iload_n 3, 1)) ∧ (decode cL_law 891 = .ok (.iconst 4, 1)) ∧ (decode cL_law 892 = .ok (.iadd, 1)) ∧ (decode cL_law 893 = .ok (.iaload, 1)) ∧ (decode cL_law 894 = .ok (.invokevirtual 87, 3)) ∧ (decode cL_law 897 = .ok (.pop, 1)) := by decide +kernel
theorem dL_law_882 : decode cL_law 882 = .ok (.iadd, 1) := dq_dL_law_882_44.1
theorem dL_law_883 : decode cL_law 883 = .ok (.iaload, 1) := dq_dL_law_882_44.2.1
theorem dL_law_884 : decode cL_law 884 = .ok (.aload_n 0, 1) := dq_dL_law_882_44.2.2.1
theorem dL_law_885 : decode cL_law 885 = .ok (.iload_n 3, 1) := dq_dL_law_882_44.2.2.2.1
theorem dL_law_886 : decode cL_law 886 = .ok (.iconst 3, 1) := dq_dL_law_882_44.2.2.2.2.1
theorem dL_law_887 : decode cL_law 887 = .ok (.iadd, 1) := dq_dL_law_882_44.2.2.2.2.2.1
theorem dL_law_888 : decode cL_law 888 = .ok (.iaload, 1) := dq_dL_law_882_44.2.2.2.2.2.2.1
theorem dL_law_889 : decode cL_law 889 = .ok (.aload_n 0, 1) := dq_dL_law_882_44.2.2.2.2.2.2.2.1
theorem dL_law_890 : decode cL_law 890 = .ok (.iload_n 3, 1) := dq_dL_law_882_44.2.2.2.2.2.2.2.2.1
theorem dL_law_891 : decode cL_law 891 = .ok (.iconst 4, 1) := dq_dL_law_882_44.2.2.2.2.2.2.2.2.2.1
theorem dL_law_892 : decode cL_law 892 = .ok (.iadd, 1) := dq_dL_law_882_44.2.2.2.2.2.2.2.2.2.2.1
theorem dL_law_893 : decode cL_law 893 = .ok (.iaload, 1) := dq_dL_law_882_44.2.2.2.2.2.2.2.2.2.2.2.1
theorem dL_law_894 : decode cL_law 894 = .ok (.invokevirtual 87, 3) := dq_dL_law_882_44.2.2.2.2.2.2.2.2.2.2.2.2.1
theorem dL_law_897 : decode cL_law 897 = .ok (.pop, 1) := dq_dL_law_882_44.2.2.2.2.2.2.2.2.2.2.2.2.2
theorem dq_dL_law_898_45 : (decode cL_law 898 = .ok (.aload_n 2, 1)) ∧ (decode cL_law 899 = .ok (.aload_n 0, 1)) ∧ (decode cL_law 900 = .ok (.iload_n 3, 1)) ∧ (decode cL_law 901 = .ok (.iconst 1, 1)) ∧ (decode cL_law 902 = .ok (.iadd, 1)) ∧ (decode cL_law 903 = .ok (.iaload, 1)) ∧ (decode cL_law 904 = .ok (.aload_n 0, 1)) ∧ (decode cL_law 905 = .ok (.iload_n 3, 1)) ∧ (decode cL_law 906 = .ok (.iconst 2, 1)) ∧ (decode cL_law 907 = .ok (.iadd, 1)) ∧ (decode cL_law 908 = .ok (.iaload, 1)) ∧ (decode cL_law 909 = .ok (.aload_n 0, 1)) ∧ (decode cL_law 910 = .ok (.iload_n 3, 1)) ∧ (decode cL_law 911 = .ok (.iconst 3, 1)) := by decide +kernel
theorem dL_law_898 : decode cL_law 898 = .ok (.aload_n 2, 1) := dq_dL_law_898_45.1
theorem dL_law_899 : decode cL_law 899 = .ok (.aload_n 0, 1) := dq_dL_law_898_45.2.1
theorem dL_law_900 : decode cL_law 900 = .ok (.iload_n 3, 1) := dq_dL_law_898_45.2.2.1
theorem dL_law_901 : decode cL_law 901 = .ok (.iconst 1, 1) := dq_dL_law_898_45.2.2.2.1
theorem dL_law_902 : decode cL_law 902 = .ok (.iadd, 1) := dq_dL_law_898_45.2.2.2.2.1
theorem dL_law_903 : decode cL_law 903 = .ok (.iaload, 1) := dq_dL_law_898_45.2.2.2.2.2.1
theorem dL_law_904 : decode cL_law 904 = .ok (.aload_n 0, 1) := dq_dL_law_898_45.2.2.2.2.2.2.1
theorem dL_law_905 : decode cL_law 905 = .ok (.iload_n 3, 1) := dq_dL_law_898_45.2.2.2.2.2.2.2.1
theorem dL_law_906 : decode cL_law 906 = .ok (.iconst 2, 1) := dq_dL_law_898_45.2.2.2.2.2.2.2.2.1
theorem dL_law_907 : decode cL_law 907 = .ok (.iadd, 1) := dq_dL_law_898_45.2.2.2.2.2.2.2.2.2.1
theorem dL_law_908 : decode cL_law 908 = .ok (.iaload, 1) := dq_dL_law_898_45.2.2.2.2.2.2.2.2.2.2.1
theorem dL_law_909 : decode cL_law 909 = .ok (.aload_n 0, 1) := dq_dL_law_898_45.2.2.2.2.2.2.2.2.2.2.2.1
theorem dL_law_910 : decode cL_law 910 = .ok (.iload_n 3, 1) := dq_dL_law_898_45.2.2.2.2.2.2.2.2.2.2.2.2.1
theorem dL_law_911 : decode cL_law 911 = .ok (.iconst 3, 1) := dq_dL_law_898_45.2.2.2.2.2.2.2.2.2.2.2.2.2
theorem dq_dL_law_912_46 : (decode cL_law 912 = .ok (.iadd, 1)) ∧ (decode cL_law 913 = .ok (.iaload, 1)) ∧ (decode cL_law 914 = .ok (.aload_n 0, 1)) ∧ (decode cL_law 915 = .ok (.iload_n 3, 1)) ∧ (decode cL_law 916 = .ok (.iconst 4, 1)) ∧ (decode cL_law 917 = .ok (.iadd, 1)) ∧ (decode cL_law 918 = .ok (.iaload, 1)) ∧ (decode cL_law 919 = .ok (.invokevirtual 91, 3)) ∧ (decode cL_law 922 = .ok (.pop, 1)) ∧ (decode cL_law 923 = .ok (.goto 555, 3)) ∧ (decode cL_law 926 = .ok (.aload_n 1, 1)) ∧ (decode cL_law 927 = .ok (.aload_n 0, 1)) ∧ (decode cL_law 928 = .ok (.iload_n 3, 1)) ∧ (decode cL_law 929 = .ok (.iconst 1, 1)) := by decide +kernel
theorem dL_law_912 : decode cL_law 912 = .ok (.iadd, 1) := dq_dL_law_912_46.1
theorem dL_law_913 : decode cL_law 913 = .ok (.iaload, 1) := dq_dL_law_912_46.2.1
theorem dL_law_914 : decode cL_law 914 = .ok (.aload_n 0, 1) := dq_dL_law_912_46.2.2.1
theorem dL_law_915 : decode cL_law 915 = .ok (.iload_n 3, 1) := dq_dL_law_912_46.2.2.2.1
theorem dL_law_916 : decode cL_law 916 = .ok (.iconst 4, 1) := dq_dL_law_912_46.2.2.2.2.1
theorem dL_law_917 : decode cL_law 917 = .ok (.iadd, 1) := dq_dL_law_912_46.2.2.2.2.2.1
theorem dL_law_918 : decode cL_law 918 = .ok (.iaload, 1) := dq_dL_law_912_46.2.2.2.2.2.2.1
theorem dL_law_919 : decode cL_law 919 = .ok (.invokevirtual 91, 3) := dq_dL_law_912_46.2.2.2.2.2.2.2.1
theorem dL_law_922 : decode cL_law 922 = .ok (.pop, 1) := dq_dL_law_912_46.2.2.2.2.2.2.2.2.1
theorem dL_law_923 : decode cL_law 923 = .ok (.goto 555, 3) := dq_dL_law_912_46.2.2.2.2.2.2.2.2.2.1
theorem dL_law_926 : decode cL_law 926 = .ok (.aload_n 1, 1) := dq_dL_law_912_46.2.2.2.2.2.2.2.2.2.2.1
theorem dL_law_927 : decode cL_law 927 = .ok (.aload_n 0, 1) := dq_dL_law_912_46.2.2.2.2.2.2.2.2.2.2.2.1
theorem dL_law_928 : decode cL_law 928 = .ok (.iload_n 3, 1) := dq_dL_law_912_46.2.2.2.2.2.2.2.2.2.2.2.2.1
theorem dL_law_929 : decode cL_law 929 = .ok (.iconst 1, 1) := dq_dL_law_912_46.2.2.2.2.2.2.2.2.2.2.2.2.2
theorem dq_dL_law_930_47 : (decode cL_law 930 = .ok (.iadd, 1)) ∧ (decode cL_law 931 = .ok (.iaload, 1)) ∧ (decode cL_law 932 = .ok (.aload_n 0, 1)) ∧ (decode cL_law 933 = .ok (.iload_n 3, 1)) ∧ (decode cL_law 934 = .ok (.iconst 2, 1)) ∧ (decode cL_law 935 = .ok (.iadd, 1)) ∧ (decode cL_law 936 = .ok (.iaload, 1)) ∧ (decode cL_law 937 = .ok (.invokevirtual 92, 3)) ∧ (decode cL_law 940 = .ok (.pop, 1)) ∧ (decode cL_law 941 = .ok (.aload_n 2, 1)) ∧ (decode cL_law 942 = .ok (.aload_n 0, 1)) ∧ (decode cL_law 943 = .ok (.iload_n 3, 1)) ∧ (decode cL_law 944 = .ok (.iconst 1, 1)) ∧ (decode cL_law 945 = .ok (.iadd, 1)) := by decide +kernel
theorem dL_law_930 : decode cL_law 930 = .ok (.iadd, 1) := dq_dL_law_930_47.1
theorem dL_law_931 : decode cL_law 931 = .ok (.iaload, 1) := dq_dL_law_930_47.2.1
theorem dL_law_932 : decode cL_law 932 = .ok (.aload_n 0, 1) := dq_dL_law_930_47.2.2.1
theorem dL_law_933 : decode cL_law 933 = .ok (.iload_n 3, 1) := dq_dL_law_930_47.2.2.2.1
theorem dL_law_934 : decode cL_law 934 = .ok (.iconst 2, 1) := dq_dL_law_930_47.2.2.2.2.1
theorem dL_law_935 : decode cL_law 935 = .ok (.iadd, 1) := dq_dL_law_930_47.2.2.2.2.2.1
theorem dL_law_936 : decode cL_law 936 = .ok (.iaload, 1) := dq_dL_law_930_47.2.2.2.2.2.2.1
theorem dL_law_937 : decode cL_law 937 = .ok (.invokevirtual 92, 3) := dq_dL_law_930_47.2.2.2.2.2.2.2.1
theorem dL_law_940 : decode cL_law 940 = .ok (.pop, 1) := dq_dL_law_930_47.2.2.2.2.2.2.2.2.1
theorem dL_law_941 : decode cL_law 941 = .ok (.aload_n 2, 1) := dq_dL_law_930_47.2.2.2.2.2.2.2.2.2.1
theorem dL_law_942 : decode cL_law 942 = .ok (.aload_n 0, 1) := dq_dL_law_930_47.2.2.2.2.2.2.2.2.2.2.1
theorem dL_law_943 : decode cL_law 943 = .ok (.iload_n 3, 1) := dq_dL_law_930_47.2.2.2.2.2.2.2.2.2.2.2.1
theorem dL_law_944 : decode cL_law 944 = .ok (.iconst 1, 1) := dq_dL_law_930_47.2.2.2.2.2.2.2.2.2.2.2.2.1
theorem dL_law_945 : decode cL_law 945 = .ok (.iadd, 1) := dq_dL_law_930_47.2.2.2.2.2.2.2.2.2.2.2.2.2
theorem dq_dL_law_946_48 : (decode cL_law 946 = .ok (.iaload, 1)) ∧ (decode cL_law 947 = .ok (.aload_n 0, 1)) ∧ (decode cL_law 948 = .ok (.iload_n 3, 1)) ∧ (decode cL_law 949 = .ok (.iconst 2, 1)) ∧ (decode cL_law 950 = .ok (.iadd, 1)) ∧ (decode cL_law 951 = .ok (.iaload, 1)) ∧ (decode cL_law 952 = .ok (.invokevirtual 95, 3)) ∧ (decode cL_law 955 = .ok (.pop, 1)) ∧ (decode cL_law 956 = .ok (.goto 522, 3)) ∧ (decode cL_law 959 = .ok (.aload_n 1, 1)) ∧ (decode cL_law 960 = .ok (.aload_n 0, 1)) ∧ (decode cL_law 961 = .ok (.iload_n 3, 1)) ∧ (decode cL_law 962 = .ok (.iconst 1, 1)) ∧ (decode cL_law 963 = .ok (.iadd, 1)) := by decide +kernel
theorem dL_law_946 : decode cL_law 946 = .ok (.iaload, 1) := dq_dL_law_946_48.1
theorem dL_law_947 : decode cL_law 947 = .ok (.aload_n 0, 1) := dq_dL_law_946_48.2.1
theorem dL_law_948 : decode cL_law 948 = .ok (.iload_n 3, 1) := dq_dL_law_946_48.2.2.1
theorem dL_law_949 : decode cL_law 949 = .ok (.iconst 2, 1) := dq_dL_law_946_48.2.2.2.1
theorem dL_law_950 : decode cL_law 950 = .ok (.iadd, 1) := dq_dL_law_946_48.2.2.2.2.1
theorem dL_law_951 : decode cL_law 951 = .ok (.iaload, 1) := dq_dL_law_946_48.2.2.2.2.2.1
theorem dL_law_952 : decode cL_law 952 = .ok (.invokevirtual 95, 3) := dq_dL_law_946_48.2.2.2.2.2.2.1
theorem dL_law_955 : decode cL_law 955 = .ok (.pop, 1) := dq_dL_law_946_48.2.2.2.2.2.2.2.1
theorem dL_law_956 : decode cL_law 956 = .ok (.goto 522, 3) := dq_dL_law_946_48.2.2.2.2.2.2.2.2.1
theorem dL_law_959 : decode cL_law 959 = .ok (.aload_n 1, 1) := dq_dL_law_946_48.2.2.2.2.2.2.2.2.2.1
theorem dL_law_960 : decode cL_law 960 = .ok (.aload_n 0, 1) := dq_dL_law_946_48.2.2.2.2.2.2.2.2.2.2.1
theorem dL_law_961 : decode cL_law 961 = .ok (.iload_n 3, 1) := dq_dL_law_946_48.2.2.2.2.2.2.2.2.2.2.2.1
theorem dL_law_962 : decode cL_law 962 = .ok (.iconst 1, 1) := dq_dL_law_946_48.2.2.2.2.2.2.2.2.2.2.2.2.1
theorem dL_law_963 : decode cL_law 963 = .ok (.iadd, 1) := dq_dL_law_946_48.2.2.2.2.2.2.2.2.2.2.2.2.2
theorem dq_dL_law_964_49 : (decode cL_law 964 = .ok (.iaload, 1)) ∧ (decode cL_law 965 = .ok (.aload_n 0, 1)) ∧ (decode cL_law 966 = .ok (.iload_n 3, 1)) ∧ (decode cL_law 967 = .ok (.iconst 2, 1)) ∧ (decode cL_law 968 = .ok (.iadd, 1)) ∧ (decode cL_law 969 = .ok (.iaload, 1)) ∧ (decode cL_law 970 = .ok (.aload_n 0, 1)) ∧ (decode cL_law 971 = .ok (.iload_n 3, 1)) ∧ (decode cL_law 972 = .ok (.iconst 3, 1)) ∧ (decode cL_law 973 = .ok (.iadd, 1)) ∧ (decode cL_law 974 = .ok (.iaload, 1)) ∧ (decode cL_law 975 = .ok (.invokevirtual 96, 3)) ∧ (decode cL_law 978 = .ok (.pop, 1)) ∧ (decode cL_law 979 = .ok (.aload_n 2, 1)) := by decide +kernel
theorem dL_law_964 : decode cL_law 964 = .ok (.iaload, 1) := dq_dL_law_964_49.1
theorem dL_law_965 : decode cL_law 965 = .ok (.aload_n 0, 1) := dq_dL_law_964_49.2.1
theorem dL_law_966 : decode cL_law 966 = .ok (.iload_n 3, 1) := dq_dL_law_964_49.2.2.1
theorem dL_law_967 : decode cL_law 967 = .ok (.iconst 2, 1) := dq_dL_law_964_49.2.2.2.1
theorem dL_law_968 : decode cL_law 968 = .ok (.iadd, 1) := dq_dL_law_964_49.2.2.2.2.1
theorem dL_law_969 : decode cL_law 969 = .ok (.iaload, 1) := dq_dL_law_964_49.2.2.2.2.2.1
theorem dL_law_970 : decode cL_law 970 = .ok (.aload_n 0, 1) := dq_dL_law_964_49.2.2.2.2.2.2.1
theorem dL_law_971 : decode cL_law 971 = .ok (.iload_n 3, 1) := dq_dL_law_964_49.2.2.2.2.2.2.2.1
theorem dL_law_972 : decode cL_law 972 = .ok (.iconst 3, 1) := dq_dL_law_964_49.2.2.2.2.2.2.2.2.1
theorem dL_law_973 : decode cL_law 973 = .ok (.iadd, 1) := dq_dL_law_964_49.2.2.2.2.2.2.2.2.2.1
theorem dL_law_974 : decode cL_law 974 = .ok (.iaload, 1) := dq_dL_law_964_49.2.2.2.2.2.2.2.2.2.2.1
theorem dL_law_975 : decode cL_law 975 = .ok (.invokevirtual 96, 3) := dq_dL_law_964_49.2.2.2.2.2.2.2.2.2.2.2.1
theorem dL_law_978 : decode cL_law 978 = .ok (.pop, 1) := dq_dL_law_964_49.2.2.2.2.2.2.2.2.2.2.2.2.1
theorem dL_law_979 : decode cL_law 979 = .ok (.aload_n 2, 1) := dq_dL_law_964_49.2.2.2.2.2.2.2.2.2.2.2.2.2
theorem dq_dL_law_980_50 : (decode cL_law 980 = .ok (.aload_n 0, 1)) ∧ (decode cL_law 981 = .ok (.iload_n 3, 1)) ∧ (decode cL_law 982 = .ok (.iconst 1, 1)) ∧ (decode cL_law 983 = .ok (.iadd, 1)) ∧ (decode cL_law 984 = .ok (.iaload, 1)) ∧ (decode cL_law 985 = .ok (.aload_n 0, 1)) ∧ (decode cL_law 986 = .ok (.iload_n 3, 1)) ∧ (decode cL_law 987 = .ok (.iconst 2, 1)) ∧ (decode cL_law 988 = .ok (.iadd, 1)) ∧ (decode cL_law 989 = .ok (.iaload, 1)) ∧ (decode cL_law 990 = .ok (.aload_n 0, 1)) ∧ (decode cL_law 991 = .ok (.iload_n 3, 1)) ∧ (decode cL_law 992 = .ok (.iconst 3, 1)) ∧ (decode cL_law 993 = .ok (.iadd, 1)) := by decide +kernel
theorem dL_law_980 : decode cL_law 980 = .ok (.aload_n 0, 1) := dq_dL_law_980_50.1
theorem dL_law_981 : decode cL_law 981 = .ok (.iload_n 3, 1) := dq_dL_law_980_50.2.1
theorem dL_law_982 : decode cL_law 982 = .ok (.iconst 1, 1) := dq_dL_law_980_50.2.2.1
theorem dL_law_983 : decode cL_law 983 = .ok (.iadd, 1) := dq_dL_law_980_50.2.2.2.1
theorem dL_law_984 : decode cL_law 984 = .ok (.iaload, 1) := dq_dL_law_980_50.2.2.2.2.1
theorem dL_law_985 : decode cL_law 985 = .ok (.aload_n 0, 1) := dq_dL_law_980_50.2.2.2.2.2.1
theorem dL_law_986 : decode cL_law 986 = .ok (.iload_n 3, 1) := dq_dL_law_980_50.2.2.2.2.2.2.1
theorem dL_law_987 : decode cL_law 987 = .ok (.iconst 2, 1) := dq_dL_law_980_50.2.2.2.2.2.2.2.1
theorem dL_law_988 : decode cL_law 988 = .ok (.iadd, 1) := dq_dL_law_980_50.2.2.2.2.2.2.2.2.1
theorem dL_law_989 : decode cL_law 989 = .ok (.iaload, 1) := dq_dL_law_980_50.2.2.2.2.2.2.2.2.2.1
theorem dL_law_990 : decode cL_law 990 = .ok (.aload_n 0, 1) := dq_dL_law_980_50.2.2.2.2.2.2.2.2.2.2.1
theorem dL_law_991 : decode cL_law 991 = .ok (.iload_n 3, 1) := dq_dL_law_980_50.2.2.2.2.2.2.2.2.2.2.2.1
theorem dL_law_992 : decode cL_law 992 = .ok (.iconst 3, 1) := dq_dL_law_980_50.2.2.2.2.2.2.2.2.2.2.2.2.1
theorem dL_law_993 : decode cL_law 993 = .ok (.iadd, 1) := dq_dL_law_980_50.2.2.2.2.2.2.2.2.2.2.2.2.2
theorem dq_dL_law_994_51 : (decode cL_law 994 = .ok (.iaload, 1)) ∧ (decode cL_law 995 = .ok (.invokevirtual 99, 3)) ∧ (decode cL_law 998 = .ok (.pop, 1)) ∧ (decode cL_law 999 = .ok (.goto 479, 3)) ∧ (decode cL_law 1002 = .ok (.aload_n 1, 1)) ∧ (decode cL_law 1003 = .ok (.aload_n 0, 1)) ∧ (decode cL_law 1004 = .ok (.iload_n 3, 1)) ∧ (decode cL_law 1005 = .ok (.iconst 1, 1)) ∧ (decode cL_law 1006 = .ok (.iadd, 1)) ∧ (decode cL_law 1007 = .ok (.iaload, 1)) ∧ (decode cL_law 1008 = .ok (.aload_n 0, 1)) ∧ (decode cL_law 1009 = .ok (.iload_n 3, 1)) ∧ (decode cL_law 1010 = .ok (.iconst 2, 1)) ∧ (decode cL_law 1011 = .ok (.iadd, 1)) := by decide +kernel
theorem dL_law_994 : decode cL_law 994 = .ok (.iaload, 1) := dq_dL_law_994_51.1
theorem dL_law_995 : decode cL_law 995 = .ok (.invokevirtual 99, 3) := dq_dL_law_994_51.2.1
theorem dL_law_998 : decode cL_law 998 = .ok (.pop, 1) := dq_dL_law_994_51.2.2.1
theorem dL_law_999 : decode cL_law 999 = .ok (.goto 479, 3) := dq_dL_law_994_51.2.2.2.1
theorem dL_law_1002 : decode cL_law 1002 = .ok (.aload_n 1, 1) := dq_dL_law_994_51.2.2.2.2.1
theorem dL_law_1003 : decode cL_law 1003 = .ok (.aload_n 0, 1) := dq_dL_law_994_51.2.2.2.2.2.1
theorem dL_law_1004 : decode cL_law 1004 = .ok (.iload_n 3, 1) := dq_dL_law_994_51.2.2.2.2.2.2.1
theorem dL_law_1005 : decode cL_law 1005 = .ok (.iconst 1, 1) := dq_dL_law_994_51.2.2.2.2.2.2.2.1
theorem dL_law_1006 : decode cL_law 1006 = .ok (.iadd, 1) := dq_dL_law_994_51.2.2.2.2.2.2.2.2.1
theorem dL_law_1007 : decode cL_law 1007 = .ok (.iaload, 1) := dq_dL_law_994_51.2.2.2.2.2.2.2.2.2.1
theorem dL_law_1008 : decode cL_law 1008 = .ok (.aload_n 0, 1) := dq_dL_law_994_51.2.2.2.2.2.2.2.2.2.2.1
theorem dL_law_1009 : decode cL_law 1009 = .ok (.iload_n 3, 1) := dq_dL_law_994_51.2.2.2.2.2.2.2.2.2.2.2.1
theorem dL_law_1010 : decode cL_law 1010 = .ok (.iconst 2, 1) := dq_dL_law_994_51.2.2.2.2.2.2.2.2.2.2.2.2.1
theorem dL_law_1011 : decode cL_law 1011 = .ok (.iadd, 1) := dq_dL_law_994_51.2.2.2.2.2.2.2.2.2.2.2.2.2
theorem dq_dL_law_1012_52 : (decode cL_law 1012 = .ok (.iaload, 1)) ∧ (decode cL_law 1013 = .ok (.aload_n 0, 1)) ∧ (decode cL_law 1014 = .ok (.iload_n 3, 1)) ∧ (decode cL_law 1015 = .ok (.iconst 3, 1)) ∧ (decode cL_law 1016 = .ok (.iadd, 1)) ∧ (decode cL_law 1017 = .ok (.iaload, 1)) ∧ (decode cL_law 1018 = .ok (.invokevirtual 100, 3)) ∧ (decode cL_law 1021 = .ok (.pop, 1)) ∧ (decode cL_law 1022 = .ok (.aload_n 2, 1)) ∧ (decode cL_law 1023 = .ok (.aload_n 0, 1)) ∧ (decode cL_law 1024 = .ok (.iload_n 3, 1)) ∧ (decode cL_law 1025 = .ok (.iconst 1, 1)) ∧ (decode cL_law 1026 = .ok (.iadd, 1)) ∧ (decode cL_law 1027 = .ok (.iaload, 1)) := by decide +kernel
theorem dL_law_1012 : decode cL_law 1012 = .ok (.iaload, 1) := dq_dL_law_1012_52.1
theorem dL_law_1013 : decode cL_law 1013 = .ok (.aload_n 0, 1) := dq_dL_law_1012_52.2.1
theorem dL_law_1014 : decode cL_law 1014 = .ok (.iload_n 3, 1) := dq_dL_law_1012_52.2.2.1
theorem dL_law_1015 : decode cL_law 1015 = .ok (.iconst 3, 1) := dq_dL_law_1012_52.2.2.2.1
theorem dL_law_1016 : decode cL_law 1016 = .ok (.iadd, 1) := dq_dL_law_1012_52.2.2.2.2.1
theorem dL_law_1017 : decode cL_law 1017 = .ok (.iaload, 1) := dq_dL_law_1012_52.2.2.2.2.2.1
theorem dL_law_1018 : decode cL_law 1018 = .ok (.invokevirtual 100, 3) := dq_dL_law_1012_52.2.2.2.2.2.2.1
theorem dL_law_1021 : decode cL_law 1021 = .ok (.pop, 1) := dq_dL_law_1012_52.2.2.2.2.2.2.2.1
theorem dL_law_1022 : decode cL_law 1022 = .ok (.aload_n 2, 1) := dq_dL_law_1012_52.2.2.2.2.2.2.2.2.1
theorem dL_law_1023 : decode cL_law 1023 = .ok (.aload_n 0, 1) := dq_dL_law_1012_52.2.2.2.2.2.2.2.2.2.1
theorem dL_law_1024 : decode cL_law 1024 = .ok (.iload_n 3, 1) := dq_dL_law_1012_52.2.2.2.2.2.2.2.2.2.2.1
theorem dL_law_1025 : decode cL_law 1025 = .ok (.iconst 1, 1) := dq_dL_law_1012_52.2.2.2.2.2.2.2.2.2.2.2.1
theorem dL_law_1026 : decode cL_law 1026 = .ok (.iadd, 1) := dq_dL_law_1012_52.2.2.2.2.2.2.2.2.2.2.2.2.1
theorem dL_law_1027 : decode cL_law 1027 = .ok (.iaload, 1) := dq_dL_law_1012_52.2.2.2.2.2.2.2.2.2.2.2.2.2
theorem dq_dL_law_1028_53 : (decode cL_law 1028 = .ok (.aload_n 0, 1)) ∧ (decode cL_law 1029 = .ok (.iload_n 3, 1)) ∧ (decode cL_law 1030 = .ok (.iconst 2, 1)) ∧ (decode cL_law 1031 = .ok (.iadd, 1)) ∧ (decode cL_law 1032 = .ok (.iaload, 1)) ∧ (decode cL_law 1033 = .ok (.aload_n 0, 1)) ∧ (decode cL_law 1034 = .ok (.iload_n 3, 1)) ∧ (decode cL_law 1035 = .ok (.iconst 3, 1)) ∧ (decode cL_law 1036 = .ok (.iadd, 1)) ∧ (decode cL_law 1037 = .ok (.iaload, 1)) ∧ (decode cL_law 1038 = .ok (.invokevirtual 103, 3)) ∧ (decode cL_law 1041 = .ok (.pop, 1)) ∧ (decode cL_law 1042 = .ok (.goto 436, 3)) ∧ (decode cL_law 1045 = .ok (.aload_n 1, 1)) := by decide +kernel
theorem dL_law_1028 : decode cL_law 1028 = .ok (.aload_n 0, 1) := dq_dL_law_1028_53.1
theorem dL_law_1029 : decode cL_law 1029 = .ok (.iload_n 3, 1) := dq_dL_law_1028_53.2.1
theorem dL_law_1030 : decode cL_law 1030 = .ok (.iconst 2, 1) := dq_dL_law_1028_53.2.2.1
theorem dL_law_1031 : decode cL_law 1031 = .ok (.iadd, 1) := dq_dL_law_1028_53.2.2.2.1
theorem dL_law_1032 : decode cL_law 1032 = .ok (.iaload, 1) := dq_dL_law_1028_53.2.2.2.2.1
theorem dL_law_1033 : decode cL_law 1033 = .ok (.aload_n 0, 1) := dq_dL_law_1028_53.2.2.2.2.2.1
theorem dL_law_1034 : decode cL_law 1034 = .ok (.iload_n 3, 1) := dq_dL_law_1028_53.2.2.2.2.2.2.1
theorem dL_law_1035 : decode cL_law 1035 = .ok (.iconst 3, 1) := dq_dL_law_1028_53.2.2.2.2.2.2.2.1
theorem dL_law_1036 : decode cL_law 1036 = .ok (.iadd, 1) := dq_dL_law_1028_53.2.2.2.2.2.2.2.2.1
theorem dL_law_1037 : decode cL_law 1037 = .ok (.iaload, 1) := dq_dL_law_1028_53.2.2.2.2.2.2.2.2.2.1
theorem dL_law_1038 : decode cL_law 1038 = .ok (.invokevirtual 103, 3) := dq_dL_law_1028_53.2.2.2.2.2.2.2.2.2.2.1
theorem dL_law_1041 : decode cL_law 1041 = .ok (.pop, 1) := dq_dL_law_1028_53.2.2.2.2.2.2.2.2.2.2.2.1
theorem dL_law_1042 : decode cL_law 1042 = .ok (.goto 436, 3) := dq_dL_law_1028_53.2.2.2.2.2.2.2.2.2.2.2.2.1
theorem dL_law_1045 : decode cL_law 1045 = .ok (.aload_n 1, 1) := dq_dL_law_1028_53.2.2.2.2.2.2.2.2.2.2.2.2.2
theorem dq_dL_law_1046_54 : (decode cL_law 1046 = .ok (.aload_n 0, 1)) ∧ (decode cL_law 1047 = .ok (.iload_n 3, 1)) ∧ (decode cL_law 1048 = .ok (.iconst 1, 1)) ∧ (decode cL_law 1049 = .ok (.iadd, 1)) ∧ (decode cL_law 1050 = .ok (.iaload, 1)) ∧ (decode cL_law 1051 = .ok (.aload_n 0, 1)) ∧ (decode cL_law 1052 = .ok (.iload_n 3, 1)) ∧ (decode cL_law 1053 = .ok (.iconst 2, 1)) ∧ (decode cL_law 1054 = .ok (.iadd, 1)) ∧ (decode cL_law 1055 = .ok (.iaload, 1)) ∧ (decode cL_law 1056 = .ok (.invokevirtual 104, 3)) ∧ (decode cL_law 1059 = .ok (.pop, 1)) ∧ (decode cL_law 1060 = .ok (.aload_n 2, 1)) ∧ (decode cL_law 1061 = .ok (.aload_n 0, 1)) := by decide +kernel
theorem dL_law_1046 : decode cL_law 1046 = .ok (.aload_n 0, 1) := dq_dL_law_1046_54.1
theorem dL_law_1047 : decode cL_law 1047 = .ok (.iload_n 3, 1) := dq_dL_law_1046_54.2.1
theorem dL_law_1048 : decode cL_law 1048 = .ok (.iconst 1, 1) := dq_dL_law_1046_54.2.2.1
theorem dL_law_1049 : decode cL_law 1049 = .ok (.iadd, 1) := dq_dL_law_1046_54.2.2.2.1
theorem dL_law_1050 : decode cL_law 1050 = .ok (.iaload, 1) := dq_dL_law_1046_54.2.2.2.2.1
theorem dL_law_1051 : decode cL_law 1051 = .ok (.aload_n 0, 1) := dq_dL_law_1046_54.2.2.2.2.2.1
theorem dL_law_1052 : decode cL_law 1052 = .ok (.iload_n 3, 1) := dq_dL_law_1046_54.2.2.2.2.2.2.1
theorem dL_law_1053 : decode cL_law 1053 = .ok (.iconst 2, 1) := dq_dL_law_1046_54.2.2.2.2.2.2.2.1
theorem dL_law_1054 : decode cL_law 1054 = .ok (.iadd, 1) := dq_dL_law_1046_54.2.2.2.2.2.2.2.2.1
theorem dL_law_1055 : decode cL_law 1055 = .ok (.iaload, 1) := dq_dL_law_1046_54.2.2.2.2.2.2.2.2.2.1
theorem dL_law_1056 : decode cL_law 1056 = .ok (.invokevirtual 104, 3) := dq_dL_law_1046_54.2.2.2.2.2.2.2.2.2.2.1
theorem dL_law_1059 : decode cL_law 1059 = .ok (.pop, 1) := dq_dL_law_1046_54.2.2.2.2.2.2.2.2.2.2.2.1
theorem dL_law_1060 : decode cL_law 1060 = .ok (.aload_n 2, 1) := dq_dL_law_1046_54.2.2.2.2.2.2.2.2.2.2.2.2.1
theorem dL_law_1061 : decode cL_law 1061 = .ok (.aload_n 0, 1) := dq_dL_law_1046_54.2.2.2.2.2.2.2.2.2.2.2.2.2
theorem dq_dL_law_1062_55 : (decode cL_law 1062 = .ok (.iload_n 3, 1)) ∧ (decode cL_law 1063 = .ok (.iconst 1, 1)) ∧ (decode cL_law 1064 = .ok (.iadd, 1)) ∧ (decode cL_law 1065 = .ok (.iaload, 1)) ∧ (decode cL_law 1066 = .ok (.aload_n 0, 1)) ∧ (decode cL_law 1067 = .ok (.iload_n 3, 1)) ∧ (decode cL_law 1068 = .ok (.iconst 2, 1)) ∧ (decode cL_law 1069 = .ok (.iadd, 1)) ∧ (decode cL_law 1070 = .ok (.iaload, 1)) ∧ (decode cL_law 1071 = .ok (.invokevirtual 107, 3)) ∧ (decode cL_law 1074 = .ok (.pop, 1)) ∧ (decode cL_law 1075 = .ok (.goto 403, 3)) ∧ (decode cL_law 1078 = .ok (.aload_n 1, 1)) ∧ (decode cL_law 1079 = .ok (.aload_n 0, 1)) := by decide +kernel
theorem dL_law_1062 : decode cL_law 1062 = .ok (.iload_n 3, 1) := dq_dL_law_1062_55.1
theorem dL_law_1063 : decode cL_law 1063 = .ok (.iconst 1, 1) := dq_dL_law_1062_55.2.1
theorem dL_law_1064 : decode cL_law 1064 = .ok (.iadd, 1) := dq_dL_law_1062_55.2.2.1
theorem dL_law_1065 : decode cL_law 1065 = .ok (.iaload, 1) := dq_dL_law_1062_55.2.2.2.1
theorem dL_law_1066 : decode cL_law 1066 = .ok (.aload_n 0, 1) := dq_dL_law_1062_55.2.2.2.2.1
theorem dL_law_1067 : decode cL_law 1067 = .ok (.iload_n 3, 1) := dq_dL_law_1062_55.2.2.2.2.2.1
theorem dL_law_1068 : decode cL_law 1068 = .ok (.iconst 2, 1) := dq_dL_law_1062_55.2.2.2.2.2.2.1
theorem dL_law_1069 : decode cL_law 1069 = .ok (.iadd, 1) := dq_dL_law_1062_55.2.2.2.2.2.2.2.1
theorem dL_law_1070 : decode cL_law 1070 = .ok (.iaload, 1) := dq_dL_law_1062_55.2.2.2.2.2.2.2.2.1
theorem dL_law_1071 : decode cL_law 1071 = .ok (.invokevirtual 107, 3) := dq_dL_law_1062_55.2.2.2.2.2.2.2.2.2.1
theorem dL_law_1074 : decode cL_law 1074 = .ok (.pop, 1) := dq_dL_law_1062_55.2.2.2.2.2.2.2.2.2.2.1
theorem dL_law_1075 : decode cL_law 1075 = .ok (.goto 403, 3) := dq_dL_law_1062_55.2.2.2.2.2.2.2.2.2.2.2.1
theorem dL_law_1078 : decode cL_law 1078 = .ok (.aload_n 1, 1) := dq_dL_law_1062_55.2.2.2.2.2.2.2.2.2.2.2.2.1
theorem dL_law_1079 : decode cL_law 1079 = .ok (.aload_n 0, 1) := dq_dL_law_1062_55.2.2.2.2.2.2.2.2.2.2.2.2.2
theorem dq_dL_law_1080_56 : (decode cL_law 1080 = .ok (.iload_n 3, 1)) ∧ (decode cL_law 1081 = .ok (.iconst 1, 1)) ∧ (decode cL_law 1082 = .ok (.iadd, 1)) ∧ (decode cL_law 1083 = .ok (.iaload, 1)) ∧ (decode cL_law 1084 = .ok (.aload_n 0, 1)) ∧ (decode cL_law 1085 = .ok (.iload_n 3, 1)) ∧ (decode cL_law 1086 = .ok (.iconst 2, 1)) ∧ (decode cL_law 1087 = .ok (.iadd, 1)) ∧ (decode cL_law 1088 = .ok (.iaload, 1)) ∧ (decode cL_law 1089 = .ok (.invokevirtual 108, 3)) ∧ (decode cL_law 1092 = .ok (.pop, 1)) ∧ (decode cL_law 1093 = .ok (.aload_n 2, 1)) ∧ (decode cL_law 1094 = .ok (.aload_n 0, 1)) ∧ (decode cL_law 1095 = .ok (.iload_n 3, 1)) := by decide +kernel
theorem dL_law_1080 : decode cL_law 1080 = .ok (.iload_n 3, 1) := dq_dL_law_1080_56.1
theorem dL_law_1081 : decode cL_law 1081 = .ok (.iconst 1, 1) := dq_dL_law_1080_56.2.1
theorem dL_law_1082 : decode cL_law 1082 = .ok (.iadd, 1) := dq_dL_law_1080_56.2.2.1
theorem dL_law_1083 : decode cL_law 1083 = .ok (.iaload, 1) := dq_dL_law_1080_56.2.2.2.1
theorem dL_law_1084 : decode cL_law 1084 = .ok (.aload_n 0, 1) := dq_dL_law_1080_56.2.2.2.2.1
theorem dL_law_1085 : decode cL_law 1085 = .ok (.iload_n 3, 1) := dq_dL_law_1080_56.2.2.2.2.2.1
theorem dL_law_1086 : decode cL_law 1086 = .ok (.iconst 2, 1) := dq_dL_law_1080_56.2.2.2.2.2.2.1
theorem dL_law_1087 : decode cL_law 1087 = .ok (.iadd, 1) := dq_dL_law_1080_56.2.2.2.2.2.2.2.1
theorem dL_law_1088 : decode cL_law 1088 = .ok (.iaload, 1) := dq_dL_law_1080_56.2.2.2.2.2.2.2.2.1
theorem dL_law_1089 : decode cL_law 1089 = .ok (.invokevirtual 108, 3) := dq_dL_law_1080_56.2.2.2.2.2.2.2.2.2.1
theorem dL_law_1092 : decode cL_law 1092 = .ok (.pop, 1) := dq_dL_law_1080_56.2.2.2.2.2.2.2.2.2.2.1
theorem dL_law_1093 : decode cL_law 1093 = .ok (.aload_n 2, 1) := dq_dL_law_1080_56.2.2.2.2.2.2.2.2.2.2.2.1
theorem dL_law_1094 : decode cL_law 1094 = .ok (.aload_n 0, 1) := dq_dL_law_1080_56.2.2.2.2.2.2.2.2.2.2.2.2.1
theorem dL_law_1095 : decode cL_law 1095 = .ok (.iload_n 3, 1) := dq_dL_law_1080_56.2.2.2.2.2.2.2.2.2.2.2.2.2
theorem dq_dL_law_1096_57 : (decode cL_law 1096 = .ok (.iconst 1, 1)) ∧ (decode cL_law 1097 = .ok (.iadd, 1)) ∧ (decode cL_law 1098 = .ok (.iaload, 1)) ∧ (decode cL_law 1099 = .ok (.aload_n 0, 1)) ∧ (decode cL_law 1100 = .ok (.iload_n 3, 1)) ∧ (decode cL_law 1101 = .ok (.iconst 2, 1)) ∧ (decode cL_law 1102 = .ok (.iadd, 1)) ∧ (decode cL_law 1103 = .ok (.iaload, 1)) ∧ (decode cL_law 1104 = .ok (.invokevirtual 111, 3)) ∧ (decode cL_law 1107 = .ok (.pop, 1)) ∧ (decode cL_law 1108 = .ok (.goto 370, 3)) ∧ (decode cL_law 1111 = .ok (.aload_n 1, 1)) ∧ (decode cL_law 1112 = .ok (.aload_n 0, 1)) ∧ (decode cL_law 1113 = .ok (.iload_n 3, 1)) := by decide +kernel
theorem dL_law_1096 : decode cL_law 1096 = .ok (.iconst 1, 1) := dq_dL_law_1096_57.1
theorem dL_law_1097 : decode cL_law 1097 = .ok (.iadd, 1) := dq_dL_law_1096_57.2.1
theorem dL_law_1098 : decode cL_law 1098 = .ok (.iaload, 1) := dq_dL_law_1096_57.2.2.1
theorem dL_law_1099 : decode cL_law 1099 = .ok (.aload_n 0, 1) := dq_dL_law_1096_57.2.2.2.1
theorem dL_law_1100 : decode cL_law 1100 = .ok (.iload_n 3, 1) := dq_dL_law_1096_57.2.2.2.2.1
theorem dL_law_1101 : decode cL_law 1101 = .ok (.iconst 2, 1) := dq_dL_law_1096_57.2.2.2.2.2.1
theorem dL_law_1102 : decode cL_law 1102 = .ok (.iadd, 1) := dq_dL_law_1096_57.2.2.2.2.2.2.1
theorem dL_law_1103 : decode cL_law 1103 = .ok (.iaload, 1) := dq_dL_law_1096_57.2.2.2.2.2.2.2.1
theorem dL_law_1104 : decode cL_law 1104 = .ok (.invokevirtual 111, 3) := dq_dL_law_1096_57.2.2.2.2.2.2.2.2.1
theorem dL_law_1107 : decode cL_law 1107 = .ok (.pop, 1) := dq_dL_law_1096_57.2.2.2.2.2.2.2.2.2.1
theorem dL_law_1108 : decode cL_law 1108 = .ok (.goto 370, 3) := dq_dL_law_1096_57.2.2.2.2.2.2.2.2.2.2.1
theorem dL_law_1111 : decode cL_law 1111 = .ok (.aload_n 1, 1) := dq_dL_law_1096_57.2.2.2.2.2.2.2.2.2.2.2.1
theorem dL_law_1112 : decode cL_law 1112 = .ok (.aload_n 0, 1) := dq_dL_law_1096_57.2.2.2.2.2.2.2.2.2.2.2.2.1
theorem dL_law_1113 : decode cL_law 1113 = .ok (.iload_n 3, 1) := dq_dL_law_1096_57.2.2.2.2.2.2.2.2.2.2.2.2.2
theorem dq_dL_law_1114_58 : (decode cL_law 1114 = .ok (.iconst 1, 1)) ∧ (decode cL_law 1115 = .ok (.iadd, 1)) ∧ (decode cL_law 1116 = .ok (.iaload, 1)) ∧ (decode cL_law 1117 = .ok (.aload_n 0, 1)) ∧ (decode cL_law 1118 = .ok (.iload_n 3, 1)) ∧ (decode cL_law 1119 = .ok (.iconst 2, 1)) ∧ (decode cL_law 1120 = .ok (.iadd, 1)) ∧ (decode cL_law 1121 = .ok (.iaload, 1)) ∧ (decode cL_law 1122 = .ok (.invokevirtual 112, 3)) ∧ (decode cL_law 1125 = .ok (.pop, 1)) ∧ (decode cL_law 1126 = .ok (.aload_n 2, 1)) ∧ (decode cL_law 1127 = .ok (.aload_n 0, 1)) ∧ (decode cL_law 1128 = .ok (.iload_n 3, 1)) ∧ (decode cL_law 1129 = .ok (.iconst 1, 1)) := by decide +kernel
theorem dL_law_1114 : decode cL_law 1114 = .ok (.iconst 1, 1) := dq_dL_law_1114_58.1
theorem dL_law_1115 : decode cL_law 1115 = .ok (.iadd, 1) := dq_dL_law_1114_58.2.1
theorem dL_law_1116 : decode cL_law 1116 = .ok (.iaload, 1) := dq_dL_law_1114_58.2.2.1
theorem dL_law_1117 : decode cL_law 1117 = .ok (.aload_n 0, 1) := dq_dL_law_1114_58.2.2.2.1
theorem dL_law_1118 : decode cL_law 1118 = .ok (.iload_n 3, 1) := dq_dL_law_1114_58.2.2.2.2.1
theorem dL_law_1119 : decode cL_law 1119 = .ok (.iconst 2, 1) := dq_dL_law_1114_58.2.2.2.2.2.1
theorem dL_law_1120 : decode cL_law 1120 = .ok (.iadd, 1) := dq_dL_law_1114_58.2.2.2.2.2.2.1
theorem dL_law_1121 : decode cL_law 1121 = .ok (.iaload, 1) := dq_dL_law_1114_58.2.2.2.2.2.2.2.1
theorem dL_law_1122 : decode cL_law 1122 = .ok (.invokevirtual 112, 3) := dq_dL_law_1114_58.2.2.2.2.2.2.2.2.1
theorem dL_law_1125 : decode cL_law 1125 = .ok (.pop, 1) := dq_dL_law_1114_58.2.2.2.2.2.2.2.2.2.1
theorem dL_law_1126 : decode cL_law 1126 = .ok (.aload_n 2, 1) := dq_dL_law_1114_58.2.2.2.2.2.2.2.2.2.2.1
theorem dL_law_1127 : decode cL_law 1127 = .ok (.aload_n 0, 1) := dq_dL_law_1114_58.2.2.2.2.2.2.2.2.2.2.2.1
theorem dL_law_1128 : decode cL_law 1128 = .ok (.iload_n 3, 1) := dq_dL_law_1114_58.2.2.2.2.2.2.2.2.2.2.2.2.1
theorem dL_law_1129 : decode cL_law 1129 = .ok (.iconst 1, 1) := dq_dL_law_1114_58.2.2.2.2.2.2.2.2.2.2.2.2.2
theorem dq_dL_law_1130_59 : (decode cL_law 1130 = .ok (.iadd, 1)) ∧ (decode cL_law 1131 = .ok (.iaload, 1)) ∧ (decode cL_law 1132 = .ok (.aload_n 0, 1)) ∧ (decode cL_law 1133 = .ok (.iload_n 3, 1)) ∧ (decode cL_law 1134 = .ok (.iconst 2, 1)) ∧ (decode cL_law 1135 = .ok (.iadd, 1)) ∧ (decode cL_law 1136 = .ok (.iaload, 1)) ∧ (decode cL_law 1137 = .ok (.invokevirtual 115, 3)) ∧ (decode cL_law 1140 = .ok (.pop, 1)) ∧ (decode cL_law 1141 = .ok (.goto 337, 3)) ∧ (decode cL_law 1144 = .ok (.aload_n 1, 1)) ∧ (decode cL_law 1145 = .ok (.aload_n 0, 1)) ∧ (decode cL_law 1146 = .ok (.iload_n 3, 1)) ∧ (decode cL_law 1147 = .ok (.iconst 1, 1)) := by decide +kernel
theorem dL_law_1130 : decode cL_law 1130 = .ok (.iadd, 1) := dq_dL_law_1130_59.1
theorem dL_law_1131 : decode cL_law 1131 = .ok (.iaload, 1) := dq_dL_law_1130_59.2.1
theorem dL_law_1132 : decode cL_law 1132 = .ok (.aload_n 0, 1) := dq_dL_law_1130_59.2.2.1
theorem dL_law_1133 : decode cL_law 1133 = .ok (.iload_n 3, 1) := dq_dL_law_1130_59.2.2.2.1
theorem dL_law_1134 : decode cL_law 1134 = .ok (.iconst 2, 1) := dq_dL_law_1130_59.2.2.2.2.1
theorem dL_law_1135 : decode cL_law 1135 = .ok (.iadd, 1) := dq_dL_law_1130_59.2.2.2.2.2.1
theorem dL_law_1136 : decode cL_law 1136 = .ok (.iaload, 1) := dq_dL_law_1130_59.2.2.2.2.2.2.1
theorem dL_law_1137 : decode cL_law 1137 = .ok (.invokevirtual 115, 3) := dq_dL_law_1130_59.2.2.2.2.2.2.2.1
theorem dL_law_1140 : decode cL_law 1140 = .ok (.pop, 1) := dq_dL_law_1130_59.2.2.2.2.2.2.2.2.1
theorem dL_law_1141 : decode cL_law 1141 = .ok (.goto 337, 3) := dq_dL_law_1130_59.2.2.2.2.2.2.2.2.2.1
theorem dL_law_1144 : decode cL_law 1144 = .ok (.aload_n 1, 1) := dq_dL_law_1130_59.2.2.2.2.2.2.2.2.2.2.1
theorem dL_law_1145 : decode cL_law 1145 = .ok (.aload_n 0, 1) := dq_dL_law_1130_59.2.2.2.2.2.2.2.2.2.2.2.1
theorem dL_law_1146 : decode cL_law 1146 = .ok (.iload_n 3, 1) := dq_dL_law_1130_59.2.2.2.2.2.2.2.2.2.2.2.2.1
theorem dL_law_1147 : decode cL_law 1147 = .ok (.iconst 1, 1) := dq_dL_law_1130_59.2.2.2.2.2.2.2.2.2.2.2.2.2
theorem dq_dL_law_1148_60 : (decode cL_law 1148 = .ok (.iadd, 1)) ∧ (decode cL_law 1149 = .ok (.iaload, 1)) ∧ (decode cL_law 1150 = .ok (.aload_n 0, 1)) ∧ (decode cL_law 1151 = .ok (.iload_n 3, 1)) ∧ (decode cL_law 1152 = .ok (.iconst 2, 1)) ∧ (decode cL_law 1153 = .ok (.iadd, 1)) ∧ (decode cL_law 1154 = .ok (.iaload, 1)) ∧ (decode cL_law 1155 = .ok (.invokevirtual 116, 3)) ∧ (decode cL_law 1158 = .ok (.pop, 1)) ∧ (decode cL_law 1159 = .ok (.aload_n 2, 1)) ∧ (decode cL_law 1160 = .ok (.aload_n 0, 1)) ∧ (decode cL_law 1161 = .ok (.iload_n 3, 1)) ∧ (decode cL_law 1162 = .ok (.iconst 1, 1)) ∧ (decode cL_law 1163 = .ok (.iadd, 1)) := by decide +kernel
theorem dL_law_1148 : decode cL_law 1148 = .ok (.iadd, 1) := dq_dL_law_1148_60.1
theorem dL_law_1149 : decode cL_law 1149 = .ok (.iaload, 1) := dq_dL_law_1148_60.2.1
theorem dL_law_1150 : decode cL_law 1150 = .ok (.aload_n 0, 1) := dq_dL_law_1148_60.2.2.1
theorem dL_law_1151 : decode cL_law 1151 = .ok (.iload_n 3, 1) := dq_dL_law_1148_60.2.2.2.1
theorem dL_law_1152 : decode cL_law 1152 = .ok (.iconst 2, 1) := dq_dL_law_1148_60.2.2.2.2.1
theorem dL_law_1153 : decode cL_law 1153 = .ok (.iadd, 1) := dq_dL_law_1148_60.2.2.2.2.2.1
theorem dL_law_1154 : decode cL_law 1154 = .ok (.iaload, 1) := dq_dL_law_1148_60.2.2.2.2.2.2.1
theorem dL_law_1155 : decode cL_law 1155 = .ok (.invokevirtual 116, 3) := dq_dL_law_1148_60.2.2.2.2.2.2.2.1
theorem dL_law_1158 : decode cL_law 1158 = .ok (.pop, 1) := dq_dL_law_1148_60.2.2.2.2.2.2.2.2.1
theorem dL_law_1159 : decode cL_law 1159 = .ok (.aload_n 2, 1) := dq_dL_law_1148_60.2.2.2.2.2.2.2.2.2.1
theorem dL_law_1160 : decode cL_law 1160 = .ok (.aload_n 0, 1) := dq_dL_law_1148_60.2.2.2.2.2.2.2.2.2.2.1
theorem dL_law_1161 : decode cL_law 1161 = .ok (.iload_n 3, 1) := dq_dL_law_1148_60.2.2.2.2.2.2.2.2.2.2.2.1
theorem dL_law_1162 : decode cL_law 1162 = .ok (.iconst 1, 1) := dq_dL_law_1148_60.2.2.2.2.2.2.2.2.2.2.2.2.1
theorem dL_law_1163 : decode cL_law 1163 = .ok (.iadd, 1) := dq_dL_law_1148_60.2.2.2.2.2.2.2.2.2.2.2.2.2
theorem dq_dL_law_1164_61 : (decode cL_law 1164 = .ok (.iaload, 1)) ∧ (decode cL_law 1165 = .ok (.aload_n 0, 1)) ∧ (decode cL_law 1166 = .ok (.iload_n 3, 1)) ∧ (decode cL_law 1167 = .ok (.iconst 2, 1)) ∧ (decode cL_law 1168 = .ok (.iadd, 1)) ∧ (decode cL_law 1169 = .ok (.iaload, 1)) ∧ (decode cL_law 1170 = .ok (.invokevirtual 119, 3)) ∧ (decode cL_law 1173 = .ok (.pop, 1)) ∧ (decode cL_law 1174 = .ok (.goto 304, 3)) ∧ (decode cL_law 1177 = .ok (.aload_n 1, 1)) ∧ (decode cL_law 1178 = .ok (.aload_n 0, 1)) ∧ (decode cL_law 1179 = .ok (.iload_n 3, 1)) ∧ (decode cL_law 1180 = .ok (.iconst 1, 1)) ∧ (decode cL_law 1181 = .ok (.iadd, 1)) := by decide +kernel
theorem dL_law_1164 : decode cL_law 1164 = .ok (.iaload, 1) := dq_dL_law_1164_61.1
theorem dL_law_1165 : decode cL_law 1165 = .ok (.aload_n 0, 1) := dq_dL_law_1164_61.2.1
theorem dL_law_1166 : decode cL_law 1166 = .ok (.iload_n 3, 1) := dq_dL_law_1164_61.2.2.1
theorem dL_law_1167 : decode cL_law 1167 = .ok (.iconst 2, 1) := dq_dL_law_1164_61.2.2.2.1
theorem dL_law_1168 : decode cL_law 1168 = .ok (.iadd, 1) := dq_dL_law_1164_61.2.2.2.2.1
theorem dL_law_1169 : decode cL_law 1169 = .ok (.iaload, 1) := dq_dL_law_1164_61.2.2.2.2.2.1
theorem dL_law_1170 : decode cL_law 1170 = .ok (.invokevirtual 119, 3) := dq_dL_law_1164_61.2.2.2.2.2.2.1
theorem dL_law_1173 : decode cL_law 1173 = .ok (.pop, 1) := dq_dL_law_1164_61.2.2.2.2.2.2.2.1
theorem dL_law_1174 : decode cL_law 1174 = .ok (.goto 304, 3) := dq_dL_law_1164_61.2.2.2.2.2.2.2.2.1
theorem dL_law_1177 : decode cL_law 1177 = .ok (.aload_n 1, 1) := dq_dL_law_1164_61.2.2.2.2.2.2.2.2.2.1
theorem dL_law_1178 : decode cL_law 1178 = .ok (.aload_n 0, 1) := dq_dL_law_1164_61.2.2.2.2.2.2.2.2.2.2.1
theorem dL_law_1179 : decode cL_law 1179 = .ok (.iload_n 3, 1) := dq_dL_law_1164_61.2.2.2.2.2.2.2.2.2.2.2.1
theorem dL_law_1180 : decode cL_law 1180 = .ok (.iconst 1, 1) := dq_dL_law_1164_61.2.2.2.2.2.2.2.2.2.2.2.2.1
theorem dL_law_1181 : decode cL_law 1181 = .ok (.iadd, 1) := dq_dL_law_1164_61.2.2.2.2.2.2.2.2.2.2.2.2.2
theorem dq_dL_law_1182_62 : (decode cL_law 1182 = .ok (.iaload, 1)) ∧ (decode cL_law 1183 = .ok (.aload_n 0, 1)) ∧ (decode cL_law 1184 = .ok (.iload_n 3, 1)) ∧ (decode cL_law 1185 = .ok (.iconst 2, 1)) ∧ (decode cL_law 1186 = .ok (.iadd, 1)) ∧ (decode cL_law 1187 = .ok (.iaload, 1)) ∧ (decode cL_law 1188 = .ok (.invokevirtual 120, 3)) ∧ (decode cL_law 1191 = .ok (.pop, 1)) ∧ (decode cL_law 1192 = .ok (.aload_n 2, 1)) ∧ (decode cL_law 1193 = .ok (.aload_n 0, 1)) ∧ (decode cL_law 1194 = .ok (.iload_n 3, 1)) ∧ (decode cL_law 1195 = .ok (.iconst 1, 1)) ∧ (decode cL_law 1196 = .ok (.iadd, 1)) ∧ (decode cL_law 1197 = .ok (.iaload, 1)) := by decide +kernel
theorem dL_law_1182 : decode cL_law 1182 = .ok (.iaload, 1) := dq_dL_law_1182_62.1
theorem dL_law_1183 : decode cL_law 1183 = .ok (.aload_n 0, 1) := dq_dL_law_1182_62.2.1
theorem dL_law_1184 : decode cL_law 1184 = .ok (.iload_n 3, 1) := dq_dL_law_1182_62.2.2.1
theorem dL_law_1185 : decode cL_law 1185 = .ok (.iconst 2, 1) := dq_dL_law_1182_62.2.2.2.1
theorem dL_law_1186 : decode cL_law 1186 = .ok (.iadd, 1) := dq_dL_law_1182_62.2.2.2.2.1
theorem dL_law_1187 : decode cL_law 1187 = .ok (.iaload, 1) := dq_dL_law_1182_62.2.2.2.2.2.1
theorem dL_law_1188 : decode cL_law 1188 = .ok (.invokevirtual 120, 3) := dq_dL_law_1182_62.2.2.2.2.2.2.1
theorem dL_law_1191 : decode cL_law 1191 = .ok (.pop, 1) := dq_dL_law_1182_62.2.2.2.2.2.2.2.1
theorem dL_law_1192 : decode cL_law 1192 = .ok (.aload_n 2, 1) := dq_dL_law_1182_62.2.2.2.2.2.2.2.2.1
theorem dL_law_1193 : decode cL_law 1193 = .ok (.aload_n 0, 1) := dq_dL_law_1182_62.2.2.2.2.2.2.2.2.2.1
theorem dL_law_1194 : decode cL_law 1194 = .ok (.iload_n 3, 1) := dq_dL_law_1182_62.2.2.2.2.2.2.2.2.2.2.1
theorem dL_law_1195 : decode cL_law 1195 = .ok (.iconst 1, 1) := dq_dL_law_1182_62.2.2.2.2.2.2.2.2.2.2.2.1
theorem dL_law_1196 : decode cL_law 1196 = .ok (.iadd, 1) := dq_dL_law_1182_62.2.2.2.2.2.2.2.2.2.2.2.2.1
theorem dL_law_1197 : decode cL_law 1197 = .ok (.iaload, 1) := dq_dL_law_1182_62.2.2.2.2.2.2.2.2.2.2.2.2.2
theorem dq_dL_law_1198_63 : (decode cL_law 1198 = .ok (.aload_n 0, 1)) ∧ (decode cL_law 1199 = .ok (.iload_n 3, 1)) ∧ (decode cL_law 1200 = .ok (.iconst 2, 1)) ∧ (decode cL_law 1201 = .ok (.iadd, 1)) ∧ (decode cL_law 1202 = .ok (.iaload, 1)) ∧ (decode cL_law 1203 = .ok (.invokevirtual 123, 3)) ∧ (decode cL_law 1206 = .ok (.pop, 1)) ∧ (decode cL_law 1207 = .ok (.goto 271, 3)) ∧ (decode cL_law 1210 = .ok (.aload_n 1, 1)) ∧ (decode cL_law 1211 = .ok (.aload_n 0, 1)) ∧ (decode cL_law 1212 = .ok (.iload_n 3, 1)) ∧ (decode cL_law 1213 = .ok (.iconst 1, 1)) ∧ (decode cL_law 1214 = .ok (.iadd, 1)) ∧ (decode cL_law 1215 = .ok (.iaload, 1)) := by decide +kernel
theorem dL_law_1198 : decode cL_law 1198 = .ok (.aload_n 0, 1) := dq_dL_law_1198_63.1
theorem dL_law_1199 : decode cL_law 1199 = .ok (.iload_n 3, 1) := dq_dL_law_1198_63.2.1
theorem dL_law_1200 : decode cL_law 1200 = .ok (.iconst 2, 1) := dq_dL_law_1198_63.2.2.1
theorem dL_law_1201 : decode cL_law 1201 = .ok (.iadd, 1) := dq_dL_law_1198_63.2.2.2.1
theorem dL_law_1202 : decode cL_law 1202 = .ok (.iaload, 1) := dq_dL_law_1198_63.2.2.2.2.1
theorem dL_law_1203 : decode cL_law 1203 = .ok (.invokevirtual 123, 3) := dq_dL_law_1198_63.2.2.2.2.2.1
theorem dL_law_1206 : decode cL_law 1206 = .ok (.pop, 1) := dq_dL_law_1198_63.2.2.2.2.2.2.1
theorem dL_law_1207 : decode cL_law 1207 = .ok (.goto 271, 3) := dq_dL_law_1198_63.2.2.2.2.2.2.2.1
theorem dL_law_1210 : decode cL_law 1210 = .ok (.aload_n 1, 1) := dq_dL_law_1198_63.2.2.2.2.2.2.2.2.1
theorem dL_law_1211 : decode cL_law 1211 = .ok (.aload_n 0, 1) := dq_dL_law_1198_63.2.2.2.2.2.2.2.2.2.1
theorem dL_law_1212 : decode cL_law 1212 = .ok (.iload_n 3, 1) := dq_dL_law_1198_63.2.2.2.2.2.2.2.2.2.2.1
theorem dL_law_1213 : decode cL_law 1213 = .ok (.iconst 1, 1) := dq_dL_law_1198_63.2.2.2.2.2.2.2.2.2.2.2.1
theorem dL_law_1214 : decode cL_law 1214 = .ok (.iadd, 1) := dq_dL_law_1198_63.2.2.2.2.2.2.2.2.2.2.2.2.1
theorem dL_law_1215 : decode cL_law 1215 = .ok (.iaload, 1) := dq_dL_law_1198_63.2.2.2.2.2.2.2.2.2.2.2.2.2
theorem dq_dL_law_1216_64 : (decode cL_law 1216 = .ok (.aload_n 0, 1)) ∧ (decode cL_law 1217 = .ok (.iload_n 3, 1)) ∧ (decode cL_law 1218 = .ok (.iconst 2, 1)) ∧ (decode cL_law 1219 = .ok (.iadd, 1)) := by decide +kernel
theorem dL_law_1216 : decode cL_law 1216 = .ok (.aload_n 0, 1) := dq_dL_law_1216_64.1
theorem dL_law_1217 : decode cL_law 1217 = .ok (.iload_n 3, 1) := dq_dL_law_1216_64.2.1
theorem dL_law_1218 : decode cL_law 1218 = .ok (.iconst 2, 1) := dq_dL_law_1216_64.2.2.1
theorem dL_law_1219 : decode cL_law 1219 = .ok (.iadd, 1) := dq_dL_law_1216_64.2.2.2
