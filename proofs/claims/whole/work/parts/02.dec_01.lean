theorem dX3_work_0 : decode cX3_work 0 = .ok (.iload_n 0, 1) := by decide +kernel
theorem dX3_work_1 : decode cX3_work 1 = .ok (.tableswitch 310 11 37 #[123, 144, 165, 310, 310, 310, 310, 310, 310, 310, 310, 310, 310, 310, 310, 310, 310, 270, 274, 278, 310, 180, 195, 210, 225, 240, 255], 123) := by decide +kernel
theorem dX3_work_124 : decode cX3_work 124 = .ok (.lload_n 1, 1) := by decide +kernel
theorem dX3_work_125 : decode cX3_work 125 = .ok (.lconst 0, 1) := by decide +kernel
theorem dX3_work_126 : decode cX3_work 126 = .ok (.lcmp, 1) := by decide +kernel
theorem dX3_work_127 : decode cX3_work 127 = .ok (.ifCond .ne 9, 3) := by decide +kernel
theorem dX3_work_130 : decode cX3_work 130 = .ok (.lload_n 3, 1) := by decide +kernel
theorem dX3_work_131 : decode cX3_work 131 = .ok (.lconst 0, 1) := by decide +kernel
theorem dX3_work_132 : decode cX3_work 132 = .ok (.lcmp, 1) := by decide +kernel
theorem dX3_work_133 : decode cX3_work 133 = .ok (.ifCond .eq 7, 3) := by decide +kernel
theorem dX3_work_136 : decode cX3_work 136 = .ok (.iconst 1, 1) := by decide +kernel
theorem dX3_work_137 : decode cX3_work 137 = .ok (.goto 4, 3) := by decide +kernel
theorem dX3_work_140 : decode cX3_work 140 = .ok (.iconst 0, 1) := by decide +kernel
theorem dX3_work_141 : decode cX3_work 141 = .ok (.invokestatic 80, 3) := by decide +kernel
theorem dX3_work_144 : decode cX3_work 144 = .ok (.lreturn, 1) := by decide +kernel
theorem dX3_work_145 : decode cX3_work 145 = .ok (.lload_n 1, 1) := by decide +kernel
theorem dX3_work_146 : decode cX3_work 146 = .ok (.lconst 0, 1) := by decide +kernel
theorem dX3_work_147 : decode cX3_work 147 = .ok (.lcmp, 1) := by decide +kernel
theorem dX3_work_148 : decode cX3_work 148 = .ok (.ifCond .eq 13, 3) := by decide +kernel
theorem dX3_work_151 : decode cX3_work 151 = .ok (.lload_n 3, 1) := by decide +kernel
theorem dX3_work_152 : decode cX3_work 152 = .ok (.lconst 0, 1) := by decide +kernel
theorem dX3_work_153 : decode cX3_work 153 = .ok (.lcmp, 1) := by decide +kernel
theorem dX3_work_154 : decode cX3_work 154 = .ok (.ifCond .eq 7, 3) := by decide +kernel
theorem dX3_work_157 : decode cX3_work 157 = .ok (.iconst 1, 1) := by decide +kernel
theorem dX3_work_158 : decode cX3_work 158 = .ok (.goto 4, 3) := by decide +kernel
theorem dX3_work_161 : decode cX3_work 161 = .ok (.iconst 0, 1) := by decide +kernel
theorem dX3_work_162 : decode cX3_work 162 = .ok (.invokestatic 80, 3) := by decide +kernel
theorem dX3_work_165 : decode cX3_work 165 = .ok (.lreturn, 1) := by decide +kernel
theorem dX3_work_166 : decode cX3_work 166 = .ok (.lload_n 1, 1) := by decide +kernel
theorem dX3_work_167 : decode cX3_work 167 = .ok (.lconst 0, 1) := by decide +kernel
theorem dX3_work_168 : decode cX3_work 168 = .ok (.lcmp, 1) := by decide +kernel
theorem dX3_work_169 : decode cX3_work 169 = .ok (.ifCond .ne 7, 3) := by decide +kernel
theorem dX3_work_172 : decode cX3_work 172 = .ok (.iconst 1, 1) := by decide +kernel
theorem dX3_work_173 : decode cX3_work 173 = .ok (.goto 4, 3) := by decide +kernel
theorem dX3_work_176 : decode cX3_work 176 = .ok (.iconst 0, 1) := by decide +kernel
theorem dX3_work_177 : decode cX3_work 177 = .ok (.invokestatic 80, 3) := by decide +kernel
theorem dX3_work_180 : decode cX3_work 180 = .ok (.lreturn, 1) := by decide +kernel
theorem dX3_work_181 : decode cX3_work 181 = .ok (.lload_n 1, 1) := by decide +kernel
theorem dX3_work_182 : decode cX3_work 182 = .ok (.lload_n 3, 1) := by decide +kernel
theorem dX3_work_183 : decode cX3_work 183 = .ok (.lcmp, 1) := by decide +kernel
theorem dX3_work_184 : decode cX3_work 184 = .ok (.ifCond .ge 7, 3) := by decide +kernel
theorem dX3_work_187 : decode cX3_work 187 = .ok (.iconst 1, 1) := by decide +kernel
theorem dX3_work_188 : decode cX3_work 188 = .ok (.goto 4, 3) := by decide +kernel
theorem dX3_work_191 : decode cX3_work 191 = .ok (.iconst 0, 1) := by decide +kernel
theorem dX3_work_192 : decode cX3_work 192 = .ok (.invokestatic 80, 3) := by decide +kernel
theorem dX3_work_195 : decode cX3_work 195 = .ok (.lreturn, 1) := by decide +kernel
theorem dX3_work_196 : decode cX3_work 196 = .ok (.lload_n 1, 1) := by decide +kernel
theorem dX3_work_197 : decode cX3_work 197 = .ok (.lload_n 3, 1) := by decide +kernel
theorem dX3_work_198 : decode cX3_work 198 = .ok (.lcmp, 1) := by decide +kernel
theorem dX3_work_199 : decode cX3_work 199 = .ok (.ifCond .gt 7, 3) := by decide +kernel
theorem dX3_work_202 : decode cX3_work 202 = .ok (.iconst 1, 1) := by decide +kernel
theorem dX3_work_203 : decode cX3_work 203 = .ok (.goto 4, 3) := by decide +kernel
theorem dX3_work_206 : decode cX3_work 206 = .ok (.iconst 0, 1) := by decide +kernel
theorem dX3_work_207 : decode cX3_work 207 = .ok (.invokestatic 80, 3) := by decide +kernel
theorem dX3_work_210 : decode cX3_work 210 = .ok (.lreturn, 1) := by decide +kernel
theorem dX3_work_211 : decode cX3_work 211 = .ok (.lload_n 1, 1) := by decide +kernel
theorem dX3_work_212 : decode cX3_work 212 = .ok (.lload_n 3, 1) := by decide +kernel
theorem dX3_work_213 : decode cX3_work 213 = .ok (.lcmp, 1) := by decide +kernel
theorem dX3_work_214 : decode cX3_work 214 = .ok (.ifCond .ne 7, 3) := by decide +kernel
theorem dX3_work_217 : decode cX3_work 217 = .ok (.iconst 1, 1) := by decide +kernel
theorem dX3_work_218 : decode cX3_work 218 = .ok (.goto 4, 3) := by decide +kernel
theorem dX3_work_221 : decode cX3_work 221 = .ok (.iconst 0, 1) := by decide +kernel
theorem dX3_work_222 : decode cX3_work 222 = .ok (.invokestatic 80, 3) := by decide +kernel
theorem dX3_work_225 : decode cX3_work 225 = .ok (.lreturn, 1) := by decide +kernel
theorem dX3_work_226 : decode cX3_work 226 = .ok (.lload_n 1, 1) := by decide +kernel
theorem dX3_work_227 : decode cX3_work 227 = .ok (.lload_n 3, 1) := by decide +kernel
theorem dX3_work_228 : decode cX3_work 228 = .ok (.lcmp, 1) := by decide +kernel
theorem dX3_work_229 : decode cX3_work 229 = .ok (.ifCond .eq 7, 3) := by decide +kernel
theorem dX3_work_232 : decode cX3_work 232 = .ok (.iconst 1, 1) := by decide +kernel
theorem dX3_work_233 : decode cX3_work 233 = .ok (.goto 4, 3) := by decide +kernel
theorem dX3_work_236 : decode cX3_work 236 = .ok (.iconst 0, 1) := by decide +kernel
theorem dX3_work_237 : decode cX3_work 237 = .ok (.invokestatic 80, 3) := by decide +kernel
theorem dX3_work_240 : decode cX3_work 240 = .ok (.lreturn, 1) := by decide +kernel
theorem dX3_work_241 : decode cX3_work 241 = .ok (.lload_n 1, 1) := by decide +kernel
theorem dX3_work_242 : decode cX3_work 242 = .ok (.lload_n 3, 1) := by decide +kernel
theorem dX3_work_243 : decode cX3_work 243 = .ok (.lcmp, 1) := by decide +kernel
theorem dX3_work_244 : decode cX3_work 244 = .ok (.ifCond .lt 7, 3) := by decide +kernel
theorem dX3_work_247 : decode cX3_work 247 = .ok (.iconst 1, 1) := by decide +kernel
theorem dX3_work_248 : decode cX3_work 248 = .ok (.goto 4, 3) := by decide +kernel
theorem dX3_work_251 : decode cX3_work 251 = .ok (.iconst 0, 1) := by decide +kernel
theorem dX3_work_252 : decode cX3_work 252 = .ok (.invokestatic 80, 3) := by decide +kernel
theorem dX3_work_255 : decode cX3_work 255 = .ok (.lreturn, 1) := by decide +kernel
theorem dX3_work_256 : decode cX3_work 256 = .ok (.lload_n 1, 1) := by decide +kernel
theorem dX3_work_257 : decode cX3_work 257 = .ok (.lload_n 3, 1) := by decide +kernel
theorem dX3_work_258 : decode cX3_work 258 = .ok (.lcmp, 1) := by decide +kernel
theorem dX3_work_259 : decode cX3_work 259 = .ok (.ifCond .le 7, 3) := by decide +kernel
theorem dX3_work_262 : decode cX3_work 262 = .ok (.iconst 1, 1) := by decide +kernel
theorem dX3_work_263 : decode cX3_work 263 = .ok (.goto 4, 3) := by decide +kernel
theorem dX3_work_266 : decode cX3_work 266 = .ok (.iconst 0, 1) := by decide +kernel
theorem dX3_work_267 : decode cX3_work 267 = .ok (.invokestatic 80, 3) := by decide +kernel
theorem dX3_work_270 : decode cX3_work 270 = .ok (.lreturn, 1) := by decide +kernel
theorem dX3_work_271 : decode cX3_work 271 = .ok (.lload_n 1, 1) := by decide +kernel
theorem dX3_work_272 : decode cX3_work 272 = .ok (.lload_n 3, 1) := by decide +kernel
theorem dX3_work_273 : decode cX3_work 273 = .ok (.ladd, 1) := by decide +kernel
theorem dX3_work_274 : decode cX3_work 274 = .ok (.lreturn, 1) := by decide +kernel
theorem dX3_work_275 : decode cX3_work 275 = .ok (.lload_n 1, 1) := by decide +kernel
theorem dX3_work_276 : decode cX3_work 276 = .ok (.lload_n 3, 1) := by decide +kernel
theorem dX3_work_277 : decode cX3_work 277 = .ok (.lsub, 1) := by decide +kernel
theorem dX3_work_278 : decode cX3_work 278 = .ok (.lreturn, 1) := by decide +kernel
theorem dX3_work_279 : decode cX3_work 279 = .ok (.lload_n 3, 1) := by decide +kernel
theorem dX3_work_280 : decode cX3_work 280 = .ok (.lconst 0, 1) := by decide +kernel
theorem dX3_work_281 : decode cX3_work 281 = .ok (.lcmp, 1) := by decide +kernel
theorem dX3_work_282 : decode cX3_work 282 = .ok (.ifCond .eq 19, 3) := by decide +kernel
theorem dX3_work_285 : decode cX3_work 285 = .ok (.lload_n 1, 1) := by decide +kernel
theorem dX3_work_286 : decode cX3_work 286 = .ok (.invokestatic 84, 3) := by decide +kernel
theorem dX3_work_289 : decode cX3_work 289 = .ok (.ldc2_w 49, 3) := by decide +kernel
theorem dX3_work_292 : decode cX3_work 292 = .ok (.lload_n 3, 1) := by decide +kernel
theorem dX3_work_293 : decode cX3_work 293 = .ok (.invokestatic 84, 3) := by decide +kernel
theorem dX3_work_296 : decode cX3_work 296 = .ok (.ldiv, 1) := by decide +kernel
theorem dX3_work_297 : decode cX3_work 297 = .ok (.lcmp, 1) := by decide +kernel
theorem dX3_work_298 : decode cX3_work 298 = .ok (.ifCond .gt 9, 3) := by decide +kernel
theorem dX3_work_301 : decode cX3_work 301 = .ok (.lload_n 1, 1) := by decide +kernel
theorem dX3_work_302 : decode cX3_work 302 = .ok (.lload_n 3, 1) := by decide +kernel
theorem dX3_work_303 : decode cX3_work 303 = .ok (.lmul, 1) := by decide +kernel
theorem dX3_work_304 : decode cX3_work 304 = .ok (.goto 6, 3) := by decide +kernel
theorem dX3_work_307 : decode cX3_work 307 = .ok (.ldc2_w 20, 3) := by decide +kernel
theorem dX3_work_310 : decode cX3_work 310 = .ok (.lreturn, 1) := by decide +kernel
theorem dX3_work_311 : decode cX3_work 311 = .ok (.lload_n 3, 1) := by decide +kernel
theorem dX3_work_312 : decode cX3_work 312 = .ok (.lconst 0, 1) := by decide +kernel
theorem dX3_work_313 : decode cX3_work 313 = .ok (.lcmp, 1) := by decide +kernel
theorem dX3_work_314 : decode cX3_work 314 = .ok (.ifCond .ne 9, 3) := by decide +kernel
theorem dX3_work_317 : decode cX3_work 317 = .ok (.ldc2_w 20, 3) := by decide +kernel
theorem dX3_work_320 : decode cX3_work 320 = .ok (.goto 6, 3) := by decide +kernel
theorem dX3_work_323 : decode cX3_work 323 = .ok (.lload_n 1, 1) := by decide +kernel
theorem dX3_work_324 : decode cX3_work 324 = .ok (.lload_n 3, 1) := by decide +kernel
theorem dX3_work_325 : decode cX3_work 325 = .ok (.ldiv, 1) := by decide +kernel
theorem dX3_work_326 : decode cX3_work 326 = .ok (.lreturn, 1) := by decide +kernel
theorem dX3_truth_0 : decode cX3_truth 0 = .ok (.iload_n 0, 1) := by decide +kernel
theorem dX3_truth_1 : decode cX3_truth 1 = .ok (.ifCond .eq 7, 3) := by decide +kernel
theorem dX3_truth_4 : decode cX3_truth 4 = .ok (.lconst 1, 1) := by decide +kernel
theorem dX3_truth_5 : decode cX3_truth 5 = .ok (.goto 4, 3) := by decide +kernel
theorem dX3_truth_8 : decode cX3_truth 8 = .ok (.lconst 0, 1) := by decide +kernel
theorem dX3_truth_9 : decode cX3_truth 9 = .ok (.lreturn, 1) := by decide +kernel
theorem dX4_init_0 : decode cX4_init 0 = .ok (.aload_n 0, 1) := by decide +kernel
theorem dX4_init_1 : decode cX4_init 1 = .ok (.invokespecial 3, 3) := by decide +kernel
theorem dX4_init_4 : decode cX4_init 4 = .ok (.aload_n 0, 1) := by decide +kernel
theorem dX4_init_5 : decode cX4_init 5 = .ok (.sipush 4096, 3) := by decide +kernel
theorem dX4_init_8 : decode cX4_init 8 = .ok (.newarray .int, 2) := by decide +kernel
theorem dX4_init_10 : decode cX4_init 10 = .ok (.putfield 9, 3) := by decide +kernel
theorem dX4_init_13 : decode cX4_init 13 = .ok (.aload_n 0, 1) := by decide +kernel
theorem dX4_init_14 : decode cX4_init 14 = .ok (.sipush 4096, 3) := by decide +kernel
theorem dX4_init_17 : decode cX4_init 17 = .ok (.newarray .int, 2) := by decide +kernel
theorem dX4_init_19 : decode cX4_init 19 = .ok (.putfield 15, 3) := by decide +kernel
theorem dX4_init_22 : decode cX4_init 22 = .ok (.aload_n 0, 1) := by decide +kernel
theorem dX4_init_23 : decode cX4_init 23 = .ok (.sipush 729, 3) := by decide +kernel
theorem dX4_init_26 : decode cX4_init 26 = .ok (.newarray .long, 2) := by decide +kernel
theorem dX4_init_28 : decode cX4_init 28 = .ok (.putfield 18, 3) := by decide +kernel
theorem dX4_init_31 : decode cX4_init 31 = .ok (.aload_n 0, 1) := by decide +kernel
theorem dX4_init_32 : decode cX4_init 32 = .ok (.sipush 729, 3) := by decide +kernel
theorem dX4_init_35 : decode cX4_init 35 = .ok (.newarray .int, 2) := by decide +kernel
theorem dX4_init_37 : decode cX4_init 37 = .ok (.putfield 22, 3) := by decide +kernel
theorem dX4_init_40 : decode cX4_init 40 = .ok (.aload_n 0, 1) := by decide +kernel
theorem dX4_init_41 : decode cX4_init 41 = .ok (.sipush 256, 3) := by decide +kernel
theorem dX4_init_44 : decode cX4_init 44 = .ok (.newarray .boolean, 2) := by decide +kernel
theorem dX4_init_46 : decode cX4_init 46 = .ok (.putfield 25, 3) := by decide +kernel
theorem dX4_init_49 : decode cX4_init 49 = .ok (.return_, 1) := by decide +kernel
theorem dX4_bit_0 : decode cX4_bit 0 = .ok (.iload_n 1, 1) := by decide +kernel
theorem dX4_bit_1 : decode cX4_bit 1 = .ok (.ifCond .lt 26, 3) := by decide +kernel
theorem dX4_bit_4 : decode cX4_bit 4 = .ok (.iload_n 1, 1) := by decide +kernel
theorem dX4_bit_5 : decode cX4_bit 5 = .ok (.aload_n 0, 1) := by decide +kernel
theorem dX4_bit_6 : decode cX4_bit 6 = .ok (.getfield 18, 3) := by decide +kernel
theorem dX4_bit_9 : decode cX4_bit 9 = .ok (.arraylength, 1) := by decide +kernel
theorem dX4_bit_10 : decode cX4_bit 10 = .ok (.if_icmp .ge 17, 3) := by decide +kernel
theorem dX4_bit_13 : decode cX4_bit 13 = .ok (.aload_n 0, 1) := by decide +kernel
theorem dX4_bit_14 : decode cX4_bit 14 = .ok (.getfield 18, 3) := by decide +kernel
theorem dX4_bit_17 : decode cX4_bit 17 = .ok (.iload_n 1, 1) := by decide +kernel
theorem dX4_bit_18 : decode cX4_bit 18 = .ok (.laload, 1) := by decide +kernel
theorem dX4_bit_19 : decode cX4_bit 19 = .ok (.iload_n 2, 1) := by decide +kernel
theorem dX4_bit_20 : decode cX4_bit 20 = .ok (.lushr, 1) := by decide +kernel
theorem dX4_bit_21 : decode cX4_bit 21 = .ok (.lconst 1, 1) := by decide +kernel
theorem dX4_bit_22 : decode cX4_bit 22 = .ok (.land, 1) := by decide +kernel
theorem dX4_bit_23 : decode cX4_bit 23 = .ok (.l2i, 1) := by decide +kernel
theorem dX4_bit_24 : decode cX4_bit 24 = .ok (.goto 4, 3) := by decide +kernel
theorem dX4_bit_27 : decode cX4_bit 27 = .ok (.iconst 0, 1) := by decide +kernel
theorem dX4_bit_28 : decode cX4_bit 28 = .ok (.ireturn, 1) := by decide +kernel
theorem dX4_set_0 : decode cX4_set 0 = .ok (.iload_n 3, 1) := by decide +kernel
theorem dX4_set_1 : decode cX4_set 1 = .ok (.ifCond .eq 18, 3) := by decide +kernel
theorem dX4_set_4 : decode cX4_set 4 = .ok (.aload_n 0, 1) := by decide +kernel
theorem dX4_set_5 : decode cX4_set 5 = .ok (.getfield 18, 3) := by decide +kernel
theorem dX4_set_8 : decode cX4_set 8 = .ok (.iload_n 1, 1) := by decide +kernel
theorem dX4_set_9 : decode cX4_set 9 = .ok (.dup2, 1) := by decide +kernel
theorem dX4_set_10 : decode cX4_set 10 = .ok (.laload, 1) := by decide +kernel
theorem dX4_set_11 : decode cX4_set 11 = .ok (.lconst 1, 1) := by decide +kernel
theorem dX4_set_12 : decode cX4_set 12 = .ok (.iload_n 2, 1) := by decide +kernel
theorem dX4_set_13 : decode cX4_set 13 = .ok (.lshl, 1) := by decide +kernel
theorem dX4_set_14 : decode cX4_set 14 = .ok (.lor, 1) := by decide +kernel
theorem dX4_set_15 : decode cX4_set 15 = .ok (.lastore, 1) := by decide +kernel
theorem dX4_set_16 : decode cX4_set 16 = .ok (.goto 19, 3) := by decide +kernel
theorem dX4_set_19 : decode cX4_set 19 = .ok (.aload_n 0, 1) := by decide +kernel
theorem dX4_set_20 : decode cX4_set 20 = .ok (.getfield 18, 3) := by decide +kernel
theorem dX4_set_23 : decode cX4_set 23 = .ok (.iload_n 1, 1) := by decide +kernel
theorem dX4_set_24 : decode cX4_set 24 = .ok (.dup2, 1) := by decide +kernel
theorem dX4_set_25 : decode cX4_set 25 = .ok (.laload, 1) := by decide +kernel
theorem dX4_set_26 : decode cX4_set 26 = .ok (.lconst 1, 1) := by decide +kernel
theorem dX4_set_27 : decode cX4_set 27 = .ok (.iload_n 2, 1) := by decide +kernel
theorem dX4_set_28 : decode cX4_set 28 = .ok (.lshl, 1) := by decide +kernel
theorem dX4_set_29 : decode cX4_set 29 = .ok (.ldc2_w 29, 3) := by decide +kernel
theorem dX4_set_32 : decode cX4_set 32 = .ok (.lxor, 1) := by decide +kernel
theorem dX4_set_33 : decode cX4_set 33 = .ok (.land, 1) := by decide +kernel
theorem dX4_set_34 : decode cX4_set 34 = .ok (.lastore, 1) := by decide +kernel
theorem dX4_set_35 : decode cX4_set 35 = .ok (.return_, 1) := by decide +kernel
theorem dX4_judge_0 : decode cX4_judge 0 = .ok (.aload_n 0, 1) := by decide +kernel
theorem dX4_judge_1 : decode cX4_judge 1 = .ok (.iconst 0, 1) := by decide +kernel
theorem dX4_judge_2 : decode cX4_judge 2 = .ok (.putfield 31, 3) := by decide +kernel
theorem dX4_judge_5 : decode cX4_judge 5 = .ok (.aload_n 1, 1) := by decide +kernel
theorem dX4_judge_6 : decode cX4_judge 6 = .ok (.getfield 35, 3) := by decide +kernel
theorem dX4_judge_9 : decode cX4_judge 9 = .ok (.astore 5, 2) := by decide +kernel
theorem dX4_judge_11 : decode cX4_judge 11 = .ok (.iconst 0, 1) := by decide +kernel
theorem dX4_judge_12 : decode cX4_judge 12 = .ok (.istore 6, 2) := by decide +kernel
theorem dX4_judge_14 : decode cX4_judge 14 = .ok (.iload 6, 2) := by decide +kernel
theorem dX4_judge_16 : decode cX4_judge 16 = .ok (.aload 5, 2) := by decide +kernel
theorem dX4_judge_18 : decode cX4_judge 18 = .ok (.getfield 41, 3) := by decide +kernel
theorem dX4_judge_21 : decode cX4_judge 21 = .ok (.if_icmp .ge 234, 3) := by decide +kernel
theorem dX4_judge_24 : decode cX4_judge 24 = .ok (.lload_n 3, 1) := by decide +kernel
theorem dX4_judge_25 : decode cX4_judge 25 = .ok (.iload 6, 2) := by decide +kernel
theorem dX4_judge_27 : decode cX4_judge 27 = .ok (.lushr, 1) := by decide +kernel
theorem dX4_judge_28 : decode cX4_judge 28 = .ok (.lconst 1, 1) := by decide +kernel
theorem dX4_judge_29 : decode cX4_judge 29 = .ok (.land, 1) := by decide +kernel
theorem dX4_judge_30 : decode cX4_judge 30 = .ok (.lconst 0, 1) := by decide +kernel
theorem dX4_judge_31 : decode cX4_judge 31 = .ok (.lcmp, 1) := by decide +kernel
theorem dX4_judge_32 : decode cX4_judge 32 = .ok (.ifCond .ne 6, 3) := by decide +kernel
theorem dX4_judge_35 : decode cX4_judge 35 = .ok (.goto 214, 3) := by decide +kernel
theorem dX4_judge_38 : decode cX4_judge 38 = .ok (.aload 5, 2) := by decide +kernel
theorem dX4_judge_40 : decode cX4_judge 40 = .ok (.getfield 47, 3) := by decide +kernel
theorem dX4_judge_43 : decode cX4_judge 43 = .ok (.iload 6, 2) := by decide +kernel
theorem dX4_judge_45 : decode cX4_judge 45 = .ok (.iaload, 1) := by decide +kernel
theorem dX4_judge_46 : decode cX4_judge 46 = .ok (.istore 7, 2) := by decide +kernel
theorem dX4_judge_48 : decode cX4_judge 48 = .ok (.aload 5, 2) := by decide +kernel
theorem dX4_judge_50 : decode cX4_judge 50 = .ok (.getfield 50, 3) := by decide +kernel
theorem dX4_judge_53 : decode cX4_judge 53 = .ok (.iload 6, 2) := by decide +kernel
theorem dX4_judge_55 : decode cX4_judge 55 = .ok (.iaload, 1) := by decide +kernel
theorem dX4_judge_56 : decode cX4_judge 56 = .ok (.istore 8, 2) := by decide +kernel
theorem dX4_judge_58 : decode cX4_judge 58 = .ok (.aload 5, 2) := by decide +kernel
theorem dX4_judge_60 : decode cX4_judge 60 = .ok (.getfield 53, 3) := by decide +kernel
theorem dX4_judge_63 : decode cX4_judge 63 = .ok (.iload 6, 2) := by decide +kernel
theorem dX4_judge_65 : decode cX4_judge 65 = .ok (.iaload, 1) := by decide +kernel
theorem dX4_judge_66 : decode cX4_judge 66 = .ok (.tableswitch 174 11 20 #[122, 108, 136, 54, 68, 148, 162, 174, 80, 94], 54) := by decide +kernel
theorem dX4_judge_120 : decode cX4_judge 120 = .ok (.aload_n 0, 1) := by decide +kernel
theorem dX4_judge_121 : decode cX4_judge 121 = .ok (.aload_n 2, 1) := by decide +kernel
theorem dX4_judge_122 : decode cX4_judge 122 = .ok (.iload 7, 2) := by decide +kernel
theorem dX4_judge_124 : decode cX4_judge 124 = .ok (.iload 8, 2) := by decide +kernel
theorem dX4_judge_126 : decode cX4_judge 126 = .ok (.iload 6, 2) := by decide +kernel
theorem dX4_judge_128 : decode cX4_judge 128 = .ok (.invokevirtual 56, 3) := by decide +kernel
theorem dX4_judge_131 : decode cX4_judge 131 = .ok (.goto 118, 3) := by decide +kernel
theorem dX4_judge_134 : decode cX4_judge 134 = .ok (.aload_n 0, 1) := by decide +kernel
theorem dX4_judge_135 : decode cX4_judge 135 = .ok (.aload_n 2, 1) := by decide +kernel
theorem dX4_judge_136 : decode cX4_judge 136 = .ok (.iload 7, 2) := by decide +kernel
theorem dX4_judge_138 : decode cX4_judge 138 = .ok (.iload 6, 2) := by decide +kernel
theorem dX4_judge_140 : decode cX4_judge 140 = .ok (.invokevirtual 60, 3) := by decide +kernel
theorem dX4_judge_143 : decode cX4_judge 143 = .ok (.goto 106, 3) := by decide +kernel
theorem dX4_judge_146 : decode cX4_judge 146 = .ok (.aload_n 0, 1) := by decide +kernel
theorem dX4_judge_147 : decode cX4_judge 147 = .ok (.aload_n 2, 1) := by decide +kernel
theorem dX4_judge_148 : decode cX4_judge 148 = .ok (.iload 7, 2) := by decide +kernel
theorem dX4_judge_150 : decode cX4_judge 150 = .ok (.iload 8, 2) := by decide +kernel
theorem dX4_judge_152 : decode cX4_judge 152 = .ok (.iload 6, 2) := by decide +kernel
theorem dX4_judge_154 : decode cX4_judge 154 = .ok (.invokevirtual 64, 3) := by decide +kernel
theorem dX4_judge_157 : decode cX4_judge 157 = .ok (.goto 92, 3) := by decide +kernel
theorem dX4_judge_160 : decode cX4_judge 160 = .ok (.aload_n 0, 1) := by decide +kernel
theorem dX4_judge_161 : decode cX4_judge 161 = .ok (.aload_n 2, 1) := by decide +kernel
theorem dX4_judge_162 : decode cX4_judge 162 = .ok (.iload 8, 2) := by decide +kernel
theorem dX4_judge_164 : decode cX4_judge 164 = .ok (.iload 8, 2) := by decide +kernel
theorem dX4_judge_166 : decode cX4_judge 166 = .ok (.iload 6, 2) := by decide +kernel
theorem dX4_judge_168 : decode cX4_judge 168 = .ok (.invokevirtual 67, 3) := by decide +kernel
theorem dX4_judge_171 : decode cX4_judge 171 = .ok (.goto 78, 3) := by decide +kernel
theorem dX4_judge_174 : decode cX4_judge 174 = .ok (.aload_n 0, 1) := by decide +kernel
theorem dX4_judge_175 : decode cX4_judge 175 = .ok (.aload_n 2, 1) := by decide +kernel
theorem dX4_judge_176 : decode cX4_judge 176 = .ok (.iload 7, 2) := by decide +kernel
theorem dX4_judge_178 : decode cX4_judge 178 = .ok (.iload 8, 2) := by decide +kernel
theorem dX4_judge_180 : decode cX4_judge 180 = .ok (.iload 6, 2) := by decide +kernel
theorem dX4_judge_182 : decode cX4_judge 182 = .ok (.invokevirtual 67, 3) := by decide +kernel
theorem dX4_judge_185 : decode cX4_judge 185 = .ok (.goto 64, 3) := by decide +kernel
theorem dX4_judge_188 : decode cX4_judge 188 = .ok (.aload_n 0, 1) := by decide +kernel
theorem dX4_judge_189 : decode cX4_judge 189 = .ok (.aload_n 2, 1) := by decide +kernel
theorem dX4_judge_190 : decode cX4_judge 190 = .ok (.iload 7, 2) := by decide +kernel
theorem dX4_judge_192 : decode cX4_judge 192 = .ok (.iload 8, 2) := by decide +kernel
theorem dX4_judge_194 : decode cX4_judge 194 = .ok (.iload 6, 2) := by decide +kernel
theorem dX4_judge_196 : decode cX4_judge 196 = .ok (.invokevirtual 70, 3) := by decide +kernel
theorem dX4_judge_199 : decode cX4_judge 199 = .ok (.goto 50, 3) := by decide +kernel
theorem dX4_judge_202 : decode cX4_judge 202 = .ok (.aload_n 0, 1) := by decide +kernel
theorem dX4_judge_203 : decode cX4_judge 203 = .ok (.aload_n 2, 1) := by decide +kernel
theorem dX4_judge_204 : decode cX4_judge 204 = .ok (.iload 7, 2) := by decide +kernel
theorem dX4_judge_206 : decode cX4_judge 206 = .ok (.iload 6, 2) := by decide +kernel
theorem dX4_judge_208 : decode cX4_judge 208 = .ok (.invokevirtual 73, 3) := by decide +kernel
theorem dX4_judge_211 : decode cX4_judge 211 = .ok (.goto 38, 3) := by decide +kernel
theorem dX4_judge_214 : decode cX4_judge 214 = .ok (.aload_n 0, 1) := by decide +kernel
theorem dX4_judge_215 : decode cX4_judge 215 = .ok (.aload_n 2, 1) := by decide +kernel
theorem dX4_judge_216 : decode cX4_judge 216 = .ok (.iload 8, 2) := by decide +kernel
theorem dX4_judge_218 : decode cX4_judge 218 = .ok (.iload 7, 2) := by decide +kernel
theorem dX4_judge_220 : decode cX4_judge 220 = .ok (.iload 6, 2) := by decide +kernel
theorem dX4_judge_222 : decode cX4_judge 222 = .ok (.invokevirtual 76, 3) := by decide +kernel
theorem dX4_judge_225 : decode cX4_judge 225 = .ok (.goto 24, 3) := by decide +kernel
theorem dX4_judge_228 : decode cX4_judge 228 = .ok (.aload_n 0, 1) := by decide +kernel
theorem dX4_judge_229 : decode cX4_judge 229 = .ok (.aload_n 2, 1) := by decide +kernel
theorem dX4_judge_230 : decode cX4_judge 230 = .ok (.iload 7, 2) := by decide +kernel
theorem dX4_judge_232 : decode cX4_judge 232 = .ok (.iload 6, 2) := by decide +kernel
theorem dX4_judge_234 : decode cX4_judge 234 = .ok (.invokevirtual 79, 3) := by decide +kernel
theorem dX4_judge_237 : decode cX4_judge 237 = .ok (.goto 12, 3) := by decide +kernel
theorem dX4_judge_240 : decode cX4_judge 240 = .ok (.aload_n 0, 1) := by decide +kernel
theorem dX4_judge_241 : decode cX4_judge 241 = .ok (.aload_n 2, 1) := by decide +kernel
theorem dX4_judge_242 : decode cX4_judge 242 = .ok (.iload 7, 2) := by decide +kernel
theorem dX4_judge_244 : decode cX4_judge 244 = .ok (.iload 6, 2) := by decide +kernel
theorem dX4_judge_246 : decode cX4_judge 246 = .ok (.invokevirtual 82, 3) := by decide +kernel
theorem dX4_judge_249 : decode cX4_judge 249 = .ok (.iinc 6 1, 3) := by decide +kernel
theorem dX4_judge_252 : decode cX4_judge 252 = .ok (.goto (-238), 3) := by decide +kernel
theorem dX4_judge_255 : decode cX4_judge 255 = .ok (.return_, 1) := by decide +kernel
theorem dX4_wears_0 : decode cX4_wears 0 = .ok (.iconst 0, 1) := by decide +kernel
theorem dX4_wears_1 : decode cX4_wears 1 = .ok (.istore 5, 2) := by decide +kernel
theorem dX4_wears_3 : decode cX4_wears 3 = .ok (.iload 5, 2) := by decide +kernel
theorem dX4_wears_5 : decode cX4_wears 5 = .ok (.aload_n 1, 1) := by decide +kernel
theorem dX4_wears_6 : decode cX4_wears 6 = .ok (.getfield 85, 3) := by decide +kernel
theorem dX4_wears_9 : decode cX4_wears 9 = .ok (.if_icmp .ge 37, 3) := by decide +kernel
theorem dX4_wears_12 : decode cX4_wears 12 = .ok (.aload_n 0, 1) := by decide +kernel
theorem dX4_wears_13 : decode cX4_wears 13 = .ok (.iload 5, 2) := by decide +kernel
theorem dX4_wears_15 : decode cX4_wears 15 = .ok (.iload 4, 2) := by decide +kernel
theorem dX4_wears_17 : decode cX4_wears 17 = .ok (.aload_n 1, 1) := by decide +kernel
theorem dX4_wears_18 : decode cX4_wears 18 = .ok (.getfield 88, 3) := by decide +kernel
theorem dX4_wears_21 : decode cX4_wears 21 = .ok (.iload 5, 2) := by decide +kernel
theorem dX4_wears_23 : decode cX4_wears 23 = .ok (.iaload, 1) := by decide +kernel
theorem dX4_wears_24 : decode cX4_wears 24 = .ok (.iload_n 2, 1) := by decide +kernel
theorem dX4_wears_25 : decode cX4_wears 25 = .ok (.invokestatic 91, 3) := by decide +kernel
theorem dX4_wears_28 : decode cX4_wears 28 = .ok (.iload_n 3, 1) := by decide +kernel
theorem dX4_wears_29 : decode cX4_wears 29 = .ok (.if_icmp .ne 7, 3) := by decide +kernel
theorem dX4_wears_32 : decode cX4_wears 32 = .ok (.iconst 1, 1) := by decide +kernel
theorem dX4_wears_33 : decode cX4_wears 33 = .ok (.goto 4, 3) := by decide +kernel
theorem dX4_wears_36 : decode cX4_wears 36 = .ok (.iconst 0, 1) := by decide +kernel
theorem dX4_wears_37 : decode cX4_wears 37 = .ok (.invokevirtual 95, 3) := by decide +kernel
theorem dX4_wears_40 : decode cX4_wears 40 = .ok (.iinc 5 1, 3) := by decide +kernel
theorem dX4_wears_43 : decode cX4_wears 43 = .ok (.goto (-40), 3) := by decide +kernel
theorem dX4_wears_46 : decode cX4_wears 46 = .ok (.return_, 1) := by decide +kernel
theorem dX4_hasMany_0 : decode cX4_hasMany 0 = .ok (.iconst 0, 1) := by decide +kernel
theorem dX4_hasMany_1 : decode cX4_hasMany 1 = .ok (.istore 5, 2) := by decide +kernel
theorem dX4_hasMany_3 : decode cX4_hasMany 3 = .ok (.iload 5, 2) := by decide +kernel
theorem dX4_hasMany_5 : decode cX4_hasMany 5 = .ok (.aload_n 1, 1) := by decide +kernel
theorem dX4_hasMany_6 : decode cX4_hasMany 6 = .ok (.getfield 85, 3) := by decide +kernel
theorem dX4_hasMany_9 : decode cX4_hasMany 9 = .ok (.if_icmp .ge 75, 3) := by decide +kernel
theorem dX4_hasMany_12 : decode cX4_hasMany 12 = .ok (.iconst 0, 1) := by decide +kernel
theorem dX4_hasMany_13 : decode cX4_hasMany 13 = .ok (.istore 6, 2) := by decide +kernel
theorem dX4_hasMany_15 : decode cX4_hasMany 15 = .ok (.iconst 0, 1) := by decide +kernel
theorem dX4_hasMany_16 : decode cX4_hasMany 16 = .ok (.istore 7, 2) := by decide +kernel
theorem dX4_hasMany_18 : decode cX4_hasMany 18 = .ok (.iload 7, 2) := by decide +kernel
theorem dX4_hasMany_20 : decode cX4_hasMany 20 = .ok (.aload_n 1, 1) := by decide +kernel
theorem dX4_hasMany_21 : decode cX4_hasMany 21 = .ok (.getfield 99, 3) := by decide +kernel
theorem dX4_hasMany_24 : decode cX4_hasMany 24 = .ok (.if_icmp .ge 35, 3) := by decide +kernel
theorem dX4_hasMany_27 : decode cX4_hasMany 27 = .ok (.iload 6, 2) := by decide +kernel
theorem dX4_hasMany_29 : decode cX4_hasMany 29 = .ok (.aload_n 1, 1) := by decide +kernel
theorem dX4_hasMany_30 : decode cX4_hasMany 30 = .ok (.getfield 88, 3) := by decide +kernel
theorem dX4_hasMany_33 : decode cX4_hasMany 33 = .ok (.iload 5, 2) := by decide +kernel
theorem dX4_hasMany_35 : decode cX4_hasMany 35 = .ok (.iaload, 1) := by decide +kernel
theorem dX4_hasMany_36 : decode cX4_hasMany 36 = .ok (.iload 7, 2) := by decide +kernel
theorem dX4_hasMany_38 : decode cX4_hasMany 38 = .ok (.invokestatic 91, 3) := by decide +kernel
theorem dX4_hasMany_41 : decode cX4_hasMany 41 = .ok (.iload_n 2, 1) := by decide +kernel
theorem dX4_hasMany_42 : decode cX4_hasMany 42 = .ok (.if_icmp .ne 7, 3) := by decide +kernel
theorem dX4_hasMany_45 : decode cX4_hasMany 45 = .ok (.iconst 1, 1) := by decide +kernel
theorem dX4_hasMany_46 : decode cX4_hasMany 46 = .ok (.goto 4, 3) := by decide +kernel
theorem dX4_hasMany_49 : decode cX4_hasMany 49 = .ok (.iconst 0, 1) := by decide +kernel
theorem dX4_hasMany_50 : decode cX4_hasMany 50 = .ok (.iadd, 1) := by decide +kernel
theorem dX4_hasMany_51 : decode cX4_hasMany 51 = .ok (.istore 6, 2) := by decide +kernel
theorem dX4_hasMany_53 : decode cX4_hasMany 53 = .ok (.iinc 7 1, 3) := by decide +kernel
theorem dX4_hasMany_56 : decode cX4_hasMany 56 = .ok (.goto (-38), 3) := by decide +kernel
theorem dX4_hasMany_59 : decode cX4_hasMany 59 = .ok (.aload_n 0, 1) := by decide +kernel
theorem dX4_hasMany_60 : decode cX4_hasMany 60 = .ok (.iload 5, 2) := by decide +kernel
theorem dX4_hasMany_62 : decode cX4_hasMany 62 = .ok (.iload 4, 2) := by decide +kernel
theorem dX4_hasMany_64 : decode cX4_hasMany 64 = .ok (.iload 6, 2) := by decide +kernel
theorem dX4_hasMany_66 : decode cX4_hasMany 66 = .ok (.iload_n 3, 1) := by decide +kernel
theorem dX4_hasMany_67 : decode cX4_hasMany 67 = .ok (.if_icmp .lt 7, 3) := by decide +kernel
theorem dX4_hasMany_70 : decode cX4_hasMany 70 = .ok (.iconst 1, 1) := by decide +kernel
theorem dX4_hasMany_71 : decode cX4_hasMany 71 = .ok (.goto 4, 3) := by decide +kernel
theorem dX4_hasMany_74 : decode cX4_hasMany 74 = .ok (.iconst 0, 1) := by decide +kernel
theorem dX4_hasMany_75 : decode cX4_hasMany 75 = .ok (.invokevirtual 95, 3) := by decide +kernel
theorem dX4_hasMany_78 : decode cX4_hasMany 78 = .ok (.iinc 5 1, 3) := by decide +kernel
theorem dX4_hasMany_81 : decode cX4_hasMany 81 = .ok (.goto (-78), 3) := by decide +kernel
theorem dX4_hasMany_84 : decode cX4_hasMany 84 = .ok (.return_, 1) := by decide +kernel
theorem dX4_both_0 : decode cX4_both 0 = .ok (.iconst 0, 1) := by decide +kernel
theorem dX4_both_1 : decode cX4_both 1 = .ok (.istore 5, 2) := by decide +kernel
theorem dX4_both_3 : decode cX4_both 3 = .ok (.iload 5, 2) := by decide +kernel
theorem dX4_both_5 : decode cX4_both 5 = .ok (.aload_n 1, 1) := by decide +kernel
theorem dX4_both_6 : decode cX4_both 6 = .ok (.getfield 85, 3) := by decide +kernel
theorem dX4_both_9 : decode cX4_both 9 = .ok (.if_icmp .ge 48, 3) := by decide +kernel
theorem dX4_both_12 : decode cX4_both 12 = .ok (.aload_n 0, 1) := by decide +kernel
theorem dX4_both_13 : decode cX4_both 13 = .ok (.iload 5, 2) := by decide +kernel
theorem dX4_both_15 : decode cX4_both 15 = .ok (.iload 4, 2) := by decide +kernel
theorem dX4_both_17 : decode cX4_both 17 = .ok (.aload_n 0, 1) := by decide +kernel
theorem dX4_both_18 : decode cX4_both 18 = .ok (.getfield 18, 3) := by decide +kernel
theorem dX4_both_21 : decode cX4_both 21 = .ok (.iload 5, 2) := by decide +kernel
theorem dX4_both_23 : decode cX4_both 23 = .ok (.laload, 1) := by decide +kernel
theorem dX4_both_24 : decode cX4_both 24 = .ok (.iload_n 2, 1) := by decide +kernel
theorem dX4_both_25 : decode cX4_both 25 = .ok (.lushr, 1) := by decide +kernel
theorem dX4_both_26 : decode cX4_both 26 = .ok (.aload_n 0, 1) := by decide +kernel
theorem dX4_both_27 : decode cX4_both 27 = .ok (.getfield 18, 3) := by decide +kernel
theorem dX4_both_30 : decode cX4_both 30 = .ok (.iload 5, 2) := by decide +kernel
theorem dX4_both_32 : decode cX4_both 32 = .ok (.laload, 1) := by decide +kernel
theorem dX4_both_33 : decode cX4_both 33 = .ok (.iload_n 3, 1) := by decide +kernel
theorem dX4_both_34 : decode cX4_both 34 = .ok (.lushr, 1) := by decide +kernel
theorem dX4_both_35 : decode cX4_both 35 = .ok (.land, 1) := by decide +kernel
theorem dX4_both_36 : decode cX4_both 36 = .ok (.lconst 1, 1) := by decide +kernel
theorem dX4_both_37 : decode cX4_both 37 = .ok (.land, 1) := by decide +kernel
theorem dX4_both_38 : decode cX4_both 38 = .ok (.lconst 0, 1) := by decide +kernel
theorem dX4_both_39 : decode cX4_both 39 = .ok (.lcmp, 1) := by decide +kernel
theorem dX4_both_40 : decode cX4_both 40 = .ok (.ifCond .eq 7, 3) := by decide +kernel
theorem dX4_both_43 : decode cX4_both 43 = .ok (.iconst 1, 1) := by decide +kernel
theorem dX4_both_44 : decode cX4_both 44 = .ok (.goto 4, 3) := by decide +kernel
theorem dX4_both_47 : decode cX4_both 47 = .ok (.iconst 0, 1) := by decide +kernel
theorem dX4_both_48 : decode cX4_both 48 = .ok (.invokevirtual 95, 3) := by decide +kernel
theorem dX4_both_51 : decode cX4_both 51 = .ok (.iinc 5 1, 3) := by decide +kernel
theorem dX4_both_54 : decode cX4_both 54 = .ok (.goto (-51), 3) := by decide +kernel
theorem dX4_both_57 : decode cX4_both 57 = .ok (.return_, 1) := by decide +kernel
theorem dX4_either_0 : decode cX4_either 0 = .ok (.iconst 0, 1) := by decide +kernel
theorem dX4_either_1 : decode cX4_either 1 = .ok (.istore 5, 2) := by decide +kernel
theorem dX4_either_3 : decode cX4_either 3 = .ok (.iload 5, 2) := by decide +kernel
theorem dX4_either_5 : decode cX4_either 5 = .ok (.aload_n 1, 1) := by decide +kernel
theorem dX4_either_6 : decode cX4_either 6 = .ok (.getfield 85, 3) := by decide +kernel
theorem dX4_either_9 : decode cX4_either 9 = .ok (.if_icmp .ge 48, 3) := by decide +kernel
theorem dX4_either_12 : decode cX4_either 12 = .ok (.aload_n 0, 1) := by decide +kernel
theorem dX4_either_13 : decode cX4_either 13 = .ok (.iload 5, 2) := by decide +kernel
theorem dX4_either_15 : decode cX4_either 15 = .ok (.iload 4, 2) := by decide +kernel
theorem dX4_either_17 : decode cX4_either 17 = .ok (.aload_n 0, 1) := by decide +kernel
theorem dX4_either_18 : decode cX4_either 18 = .ok (.getfield 18, 3) := by decide +kernel
theorem dX4_either_21 : decode cX4_either 21 = .ok (.iload 5, 2) := by decide +kernel
theorem dX4_either_23 : decode cX4_either 23 = .ok (.laload, 1) := by decide +kernel
theorem dX4_either_24 : decode cX4_either 24 = .ok (.iload_n 2, 1) := by decide +kernel
theorem dX4_either_25 : decode cX4_either 25 = .ok (.lushr, 1) := by decide +kernel
theorem dX4_either_26 : decode cX4_either 26 = .ok (.aload_n 0, 1) := by decide +kernel
theorem dX4_either_27 : decode cX4_either 27 = .ok (.getfield 18, 3) := by decide +kernel
theorem dX4_either_30 : decode cX4_either 30 = .ok (.iload 5, 2) := by decide +kernel
theorem dX4_either_32 : decode cX4_either 32 = .ok (.laload, 1) := by decide +kernel
theorem dX4_either_33 : decode cX4_either 33 = .ok (.iload_n 3, 1) := by decide +kernel
theorem dX4_either_34 : decode cX4_either 34 = .ok (.lushr, 1) := by decide +kernel
theorem dX4_either_35 : decode cX4_either 35 = .ok (.lor, 1) := by decide +kernel
theorem dX4_either_36 : decode cX4_either 36 = .ok (.lconst 1, 1) := by decide +kernel
theorem dX4_either_37 : decode cX4_either 37 = .ok (.land, 1) := by decide +kernel
theorem dX4_either_38 : decode cX4_either 38 = .ok (.lconst 0, 1) := by decide +kernel
theorem dX4_either_39 : decode cX4_either 39 = .ok (.lcmp, 1) := by decide +kernel
theorem dX4_either_40 : decode cX4_either 40 = .ok (.ifCond .eq 7, 3) := by decide +kernel
theorem dX4_either_43 : decode cX4_either 43 = .ok (.iconst 1, 1) := by decide +kernel
theorem dX4_either_44 : decode cX4_either 44 = .ok (.goto 4, 3) := by decide +kernel
theorem dX4_either_47 : decode cX4_either 47 = .ok (.iconst 0, 1) := by decide +kernel
theorem dX4_either_48 : decode cX4_either 48 = .ok (.invokevirtual 95, 3) := by decide +kernel
theorem dX4_either_51 : decode cX4_either 51 = .ok (.iinc 5 1, 3) := by decide +kernel
theorem dX4_either_54 : decode cX4_either 54 = .ok (.goto (-51), 3) := by decide +kernel
theorem dX4_either_57 : decode cX4_either 57 = .ok (.return_, 1) := by decide +kernel
theorem dX4_isNot_0 : decode cX4_isNot 0 = .ok (.iconst 0, 1) := by decide +kernel
theorem dX4_isNot_1 : decode cX4_isNot 1 = .ok (.istore 4, 2) := by decide +kernel
theorem dX4_isNot_3 : decode cX4_isNot 3 = .ok (.iload 4, 2) := by decide +kernel
theorem dX4_isNot_5 : decode cX4_isNot 5 = .ok (.aload_n 1, 1) := by decide +kernel
theorem dX4_isNot_6 : decode cX4_isNot 6 = .ok (.getfield 85, 3) := by decide +kernel
theorem dX4_isNot_9 : decode cX4_isNot 9 = .ok (.if_icmp .ge 37, 3) := by decide +kernel
theorem dX4_isNot_12 : decode cX4_isNot 12 = .ok (.aload_n 0, 1) := by decide +kernel
theorem dX4_isNot_13 : decode cX4_isNot 13 = .ok (.iload 4, 2) := by decide +kernel
theorem dX4_isNot_15 : decode cX4_isNot 15 = .ok (.iload_n 3, 1) := by decide +kernel
theorem dX4_isNot_16 : decode cX4_isNot 16 = .ok (.aload_n 0, 1) := by decide +kernel
theorem dX4_isNot_17 : decode cX4_isNot 17 = .ok (.getfield 18, 3) := by decide +kernel
theorem dX4_isNot_20 : decode cX4_isNot 20 = .ok (.iload 4, 2) := by decide +kernel
theorem dX4_isNot_22 : decode cX4_isNot 22 = .ok (.laload, 1) := by decide +kernel
theorem dX4_isNot_23 : decode cX4_isNot 23 = .ok (.iload_n 2, 1) := by decide +kernel
theorem dX4_isNot_24 : decode cX4_isNot 24 = .ok (.lushr, 1) := by decide +kernel
theorem dX4_isNot_25 : decode cX4_isNot 25 = .ok (.lconst 1, 1) := by decide +kernel
theorem dX4_isNot_26 : decode cX4_isNot 26 = .ok (.land, 1) := by decide +kernel
theorem dX4_isNot_27 : decode cX4_isNot 27 = .ok (.lconst 0, 1) := by decide +kernel
theorem dX4_isNot_28 : decode cX4_isNot 28 = .ok (.lcmp, 1) := by decide +kernel
theorem dX4_isNot_29 : decode cX4_isNot 29 = .ok (.ifCond .ne 7, 3) := by decide +kernel
theorem dX4_isNot_32 : decode cX4_isNot 32 = .ok (.iconst 1, 1) := by decide +kernel
theorem dX4_isNot_33 : decode cX4_isNot 33 = .ok (.goto 4, 3) := by decide +kernel
theorem dX4_isNot_36 : decode cX4_isNot 36 = .ok (.iconst 0, 1) := by decide +kernel
theorem dX4_isNot_37 : decode cX4_isNot 37 = .ok (.invokevirtual 95, 3) := by decide +kernel
theorem dX4_isNot_40 : decode cX4_isNot 40 = .ok (.iinc 4 1, 3) := by decide +kernel
theorem dX4_isNot_43 : decode cX4_isNot 43 = .ok (.goto (-40), 3) := by decide +kernel
theorem dX4_isNot_46 : decode cX4_isNot 46 = .ok (.return_, 1) := by decide +kernel
theorem dX4_knowsOwn_0 : decode cX4_knowsOwn 0 = .ok (.aload_n 0, 1) := by decide +kernel
theorem dX4_knowsOwn_1 : decode cX4_knowsOwn 1 = .ok (.dup, 1) := by decide +kernel
theorem dX4_knowsOwn_2 : decode cX4_knowsOwn 2 = .ok (.getfield 102, 3) := by decide +kernel
theorem dX4_knowsOwn_5 : decode cX4_knowsOwn 5 = .ok (.iconst 1, 1) := by decide +kernel
theorem dX4_knowsOwn_6 : decode cX4_knowsOwn 6 = .ok (.iadd, 1) := by decide +kernel
theorem dX4_knowsOwn_7 : decode cX4_knowsOwn 7 = .ok (.putfield 102, 3) := by decide +kernel
theorem dX4_knowsOwn_10 : decode cX4_knowsOwn 10 = .ok (.aload_n 1, 1) := by decide +kernel
theorem dX4_knowsOwn_11 : decode cX4_knowsOwn 11 = .ok (.getfield 105, 3) := by decide +kernel
theorem dX4_knowsOwn_14 : decode cX4_knowsOwn 14 = .ok (.iload_n 2, 1) := by decide +kernel
theorem dX4_knowsOwn_15 : decode cX4_knowsOwn 15 = .ok (.iaload, 1) := by decide +kernel
theorem dX4_knowsOwn_16 : decode cX4_knowsOwn 16 = .ok (.istore 4, 2) := by decide +kernel
theorem dX4_knowsOwn_18 : decode cX4_knowsOwn 18 = .ok (.iconst 0, 1) := by decide +kernel
theorem dX4_knowsOwn_19 : decode cX4_knowsOwn 19 = .ok (.istore 5, 2) := by decide +kernel
theorem dX4_knowsOwn_21 : decode cX4_knowsOwn 21 = .ok (.iload 5, 2) := by decide +kernel
theorem dX4_knowsOwn_23 : decode cX4_knowsOwn 23 = .ok (.aload_n 1, 1) := by decide +kernel
theorem dX4_knowsOwn_24 : decode cX4_knowsOwn 24 = .ok (.getfield 85, 3) := by decide +kernel
theorem dX4_knowsOwn_27 : decode cX4_knowsOwn 27 = .ok (.if_icmp .ge 87, 3) := by decide +kernel
theorem dX4_knowsOwn_30 : decode cX4_knowsOwn 30 = .ok (.aload_n 1, 1) := by decide +kernel
theorem dX4_knowsOwn_31 : decode cX4_knowsOwn 31 = .ok (.getfield 88, 3) := by decide +kernel
theorem dX4_knowsOwn_34 : decode cX4_knowsOwn 34 = .ok (.iload 5, 2) := by decide +kernel
theorem dX4_knowsOwn_36 : decode cX4_knowsOwn 36 = .ok (.iaload, 1) := by decide +kernel
theorem dX4_knowsOwn_37 : decode cX4_knowsOwn 37 = .ok (.iload 4, 2) := by decide +kernel
theorem dX4_knowsOwn_39 : decode cX4_knowsOwn 39 = .ok (.iand, 1) := by decide +kernel
theorem dX4_knowsOwn_40 : decode cX4_knowsOwn 40 = .ok (.sipush 4095, 3) := by decide +kernel
theorem dX4_knowsOwn_43 : decode cX4_knowsOwn 43 = .ok (.iand, 1) := by decide +kernel
theorem dX4_knowsOwn_44 : decode cX4_knowsOwn 44 = .ok (.istore 6, 2) := by decide +kernel
theorem dX4_knowsOwn_46 : decode cX4_knowsOwn 46 = .ok (.iconst 1, 1) := by decide +kernel
theorem dX4_knowsOwn_47 : decode cX4_knowsOwn 47 = .ok (.aload_n 1, 1) := by decide +kernel
theorem dX4_knowsOwn_48 : decode cX4_knowsOwn 48 = .ok (.getfield 88, 3) := by decide +kernel
theorem dX4_knowsOwn_51 : decode cX4_knowsOwn 51 = .ok (.iload 5, 2) := by decide +kernel
theorem dX4_knowsOwn_53 : decode cX4_knowsOwn 53 = .ok (.iaload, 1) := by decide +kernel
theorem dX4_knowsOwn_54 : decode cX4_knowsOwn 54 = .ok (.iload_n 2, 1) := by decide +kernel
theorem dX4_knowsOwn_55 : decode cX4_knowsOwn 55 = .ok (.invokestatic 91, 3) := by decide +kernel
theorem dX4_knowsOwn_58 : decode cX4_knowsOwn 58 = .ok (.ishl, 1) := by decide +kernel
theorem dX4_knowsOwn_59 : decode cX4_knowsOwn 59 = .ok (.istore 7, 2) := by decide +kernel
theorem dX4_knowsOwn_61 : decode cX4_knowsOwn 61 = .ok (.aload_n 0, 1) := by decide +kernel
theorem dX4_knowsOwn_62 : decode cX4_knowsOwn 62 = .ok (.getfield 15, 3) := by decide +kernel
theorem dX4_knowsOwn_65 : decode cX4_knowsOwn 65 = .ok (.iload 6, 2) := by decide +kernel
theorem dX4_knowsOwn_67 : decode cX4_knowsOwn 67 = .ok (.aload_n 0, 1) := by decide +kernel
theorem dX4_knowsOwn_68 : decode cX4_knowsOwn 68 = .ok (.getfield 9, 3) := by decide +kernel
theorem dX4_knowsOwn_71 : decode cX4_knowsOwn 71 = .ok (.iload 6, 2) := by decide +kernel
theorem dX4_knowsOwn_73 : decode cX4_knowsOwn 73 = .ok (.iaload, 1) := by decide +kernel
theorem dX4_knowsOwn_74 : decode cX4_knowsOwn 74 = .ok (.aload_n 0, 1) := by decide +kernel
theorem dX4_knowsOwn_75 : decode cX4_knowsOwn 75 = .ok (.getfield 102, 3) := by decide +kernel
theorem dX4_knowsOwn_78 : decode cX4_knowsOwn 78 = .ok (.if_icmp .ne 16, 3) := by decide +kernel
theorem dX4_knowsOwn_81 : decode cX4_knowsOwn 81 = .ok (.aload_n 0, 1) := by decide +kernel
theorem dX4_knowsOwn_82 : decode cX4_knowsOwn 82 = .ok (.getfield 15, 3) := by decide +kernel
theorem dX4_knowsOwn_85 : decode cX4_knowsOwn 85 = .ok (.iload 6, 2) := by decide +kernel
theorem dX4_knowsOwn_87 : decode cX4_knowsOwn 87 = .ok (.iaload, 1) := by decide +kernel
theorem dX4_knowsOwn_88 : decode cX4_knowsOwn 88 = .ok (.iload 7, 2) := by decide +kernel
theorem dX4_knowsOwn_90 : decode cX4_knowsOwn 90 = .ok (.ior, 1) := by decide +kernel
theorem dX4_knowsOwn_91 : decode cX4_knowsOwn 91 = .ok (.goto 5, 3) := by decide +kernel
theorem dX4_knowsOwn_94 : decode cX4_knowsOwn 94 = .ok (.iload 7, 2) := by decide +kernel
theorem dX4_knowsOwn_96 : decode cX4_knowsOwn 96 = .ok (.iastore, 1) := by decide +kernel
theorem dX4_knowsOwn_97 : decode cX4_knowsOwn 97 = .ok (.aload_n 0, 1) := by decide +kernel
theorem dX4_knowsOwn_98 : decode cX4_knowsOwn 98 = .ok (.getfield 9, 3) := by decide +kernel
theorem dX4_knowsOwn_101 : decode cX4_knowsOwn 101 = .ok (.iload 6, 2) := by decide +kernel
theorem dX4_knowsOwn_103 : decode cX4_knowsOwn 103 = .ok (.aload_n 0, 1) := by decide +kernel
theorem dX4_knowsOwn_104 : decode cX4_knowsOwn 104 = .ok (.getfield 102, 3) := by decide +kernel
theorem dX4_knowsOwn_107 : decode cX4_knowsOwn 107 = .ok (.iastore, 1) := by decide +kernel
theorem dX4_knowsOwn_108 : decode cX4_knowsOwn 108 = .ok (.iinc 5 1, 3) := by decide +kernel
theorem dX4_knowsOwn_111 : decode cX4_knowsOwn 111 = .ok (.goto (-90), 3) := by decide +kernel
theorem dX4_knowsOwn_114 : decode cX4_knowsOwn 114 = .ok (.iconst 0, 1) := by decide +kernel
theorem dX4_knowsOwn_115 : decode cX4_knowsOwn 115 = .ok (.istore 5, 2) := by decide +kernel
theorem dX4_knowsOwn_117 : decode cX4_knowsOwn 117 = .ok (.iload 5, 2) := by decide +kernel
theorem dX4_knowsOwn_119 : decode cX4_knowsOwn 119 = .ok (.aload_n 1, 1) := by decide +kernel
theorem dX4_knowsOwn_120 : decode cX4_knowsOwn 120 = .ok (.getfield 85, 3) := by decide +kernel
theorem dX4_knowsOwn_123 : decode cX4_knowsOwn 123 = .ok (.if_icmp .ge 52, 3) := by decide +kernel
theorem dX4_knowsOwn_126 : decode cX4_knowsOwn 126 = .ok (.aload_n 0, 1) := by decide +kernel
theorem dX4_knowsOwn_127 : decode cX4_knowsOwn 127 = .ok (.getfield 15, 3) := by decide +kernel
theorem dX4_knowsOwn_130 : decode cX4_knowsOwn 130 = .ok (.aload_n 1, 1) := by decide +kernel
theorem dX4_knowsOwn_131 : decode cX4_knowsOwn 131 = .ok (.getfield 88, 3) := by decide +kernel
theorem dX4_knowsOwn_134 : decode cX4_knowsOwn 134 = .ok (.iload 5, 2) := by decide +kernel
theorem dX4_knowsOwn_136 : decode cX4_knowsOwn 136 = .ok (.iaload, 1) := by decide +kernel
theorem dX4_knowsOwn_137 : decode cX4_knowsOwn 137 = .ok (.iload 4, 2) := by decide +kernel
theorem dX4_knowsOwn_139 : decode cX4_knowsOwn 139 = .ok (.iand, 1) := by decide +kernel
theorem dX4_knowsOwn_140 : decode cX4_knowsOwn 140 = .ok (.sipush 4095, 3) := by decide +kernel
theorem dX4_knowsOwn_143 : decode cX4_knowsOwn 143 = .ok (.iand, 1) := by decide +kernel
theorem dX4_knowsOwn_144 : decode cX4_knowsOwn 144 = .ok (.iaload, 1) := by decide +kernel
theorem dX4_knowsOwn_145 : decode cX4_knowsOwn 145 = .ok (.istore 6, 2) := by decide +kernel
theorem dX4_knowsOwn_147 : decode cX4_knowsOwn 147 = .ok (.aload_n 0, 1) := by decide +kernel
theorem dX4_knowsOwn_148 : decode cX4_knowsOwn 148 = .ok (.iload 5, 2) := by decide +kernel
theorem dX4_knowsOwn_150 : decode cX4_knowsOwn 150 = .ok (.iload_n 3, 1) := by decide +kernel
theorem dX4_knowsOwn_151 : decode cX4_knowsOwn 151 = .ok (.iload 6, 2) := by decide +kernel
theorem dX4_knowsOwn_153 : decode cX4_knowsOwn 153 = .ok (.iload 6, 2) := by decide +kernel
theorem dX4_knowsOwn_155 : decode cX4_knowsOwn 155 = .ok (.iconst 1, 1) := by decide +kernel
theorem dX4_knowsOwn_156 : decode cX4_knowsOwn 156 = .ok (.isub, 1) := by decide +kernel
theorem dX4_knowsOwn_157 : decode cX4_knowsOwn 157 = .ok (.iand, 1) := by decide +kernel
theorem dX4_knowsOwn_158 : decode cX4_knowsOwn 158 = .ok (.ifCond .ne 7, 3) := by decide +kernel
theorem dX4_knowsOwn_161 : decode cX4_knowsOwn 161 = .ok (.iconst 1, 1) := by decide +kernel
theorem dX4_knowsOwn_162 : decode cX4_knowsOwn 162 = .ok (.goto 4, 3) := by decide +kernel
theorem dX4_knowsOwn_165 : decode cX4_knowsOwn 165 = .ok (.iconst 0, 1) := by decide +kernel
theorem dX4_knowsOwn_166 : decode cX4_knowsOwn 166 = .ok (.invokevirtual 95, 3) := by decide +kernel
theorem dX4_knowsOwn_169 : decode cX4_knowsOwn 169 = .ok (.iinc 5 1, 3) := by decide +kernel
theorem dX4_knowsOwn_172 : decode cX4_knowsOwn 172 = .ok (.goto (-55), 3) := by decide +kernel
theorem dX4_knowsOwn_175 : decode cX4_knowsOwn 175 = .ok (.return_, 1) := by decide +kernel
theorem dX4_stampFalse_0 : decode cX4_stampFalse 0 = .ok (.aload_n 0, 1) := by decide +kernel
theorem dX4_stampFalse_1 : decode cX4_stampFalse 1 = .ok (.dup, 1) := by decide +kernel
theorem dX4_stampFalse_2 : decode cX4_stampFalse 2 = .ok (.getfield 102, 3) := by decide +kernel
theorem dX4_stampFalse_5 : decode cX4_stampFalse 5 = .ok (.iconst 1, 1) := by decide +kernel
theorem dX4_stampFalse_6 : decode cX4_stampFalse 6 = .ok (.iadd, 1) := by decide +kernel
theorem dX4_stampFalse_7 : decode cX4_stampFalse 7 = .ok (.putfield 102, 3) := by decide +kernel
theorem dX4_stampFalse_10 : decode cX4_stampFalse 10 = .ok (.aload_n 1, 1) := by decide +kernel
theorem dX4_stampFalse_11 : decode cX4_stampFalse 11 = .ok (.getfield 105, 3) := by decide +kernel
theorem dX4_stampFalse_14 : decode cX4_stampFalse 14 = .ok (.iload_n 2, 1) := by decide +kernel
theorem dX4_stampFalse_15 : decode cX4_stampFalse 15 = .ok (.iaload, 1) := by decide +kernel
theorem dX4_stampFalse_16 : decode cX4_stampFalse 16 = .ok (.istore 4, 2) := by decide +kernel
theorem dX4_stampFalse_18 : decode cX4_stampFalse 18 = .ok (.iconst 0, 1) := by decide +kernel
theorem dX4_stampFalse_19 : decode cX4_stampFalse 19 = .ok (.istore 5, 2) := by decide +kernel
theorem dX4_stampFalse_21 : decode cX4_stampFalse 21 = .ok (.iload 5, 2) := by decide +kernel
theorem dX4_stampFalse_23 : decode cX4_stampFalse 23 = .ok (.aload_n 1, 1) := by decide +kernel
theorem dX4_stampFalse_24 : decode cX4_stampFalse 24 = .ok (.getfield 85, 3) := by decide +kernel
theorem dX4_stampFalse_27 : decode cX4_stampFalse 27 = .ok (.if_icmp .ge 48, 3) := by decide +kernel
theorem dX4_stampFalse_30 : decode cX4_stampFalse 30 = .ok (.aload_n 0, 1) := by decide +kernel
theorem dX4_stampFalse_31 : decode cX4_stampFalse 31 = .ok (.getfield 18, 3) := by decide +kernel
theorem dX4_stampFalse_34 : decode cX4_stampFalse 34 = .ok (.iload 5, 2) := by decide +kernel
theorem dX4_stampFalse_36 : decode cX4_stampFalse 36 = .ok (.laload, 1) := by decide +kernel
theorem dX4_stampFalse_37 : decode cX4_stampFalse 37 = .ok (.iload_n 3, 1) := by decide +kernel
theorem dX4_stampFalse_38 : decode cX4_stampFalse 38 = .ok (.lushr, 1) := by decide +kernel
theorem dX4_stampFalse_39 : decode cX4_stampFalse 39 = .ok (.lconst 1, 1) := by decide +kernel
theorem dX4_stampFalse_40 : decode cX4_stampFalse 40 = .ok (.land, 1) := by decide +kernel
theorem dX4_stampFalse_41 : decode cX4_stampFalse 41 = .ok (.lconst 0, 1) := by decide +kernel
theorem dX4_stampFalse_42 : decode cX4_stampFalse 42 = .ok (.lcmp, 1) := by decide +kernel
theorem dX4_stampFalse_43 : decode cX4_stampFalse 43 = .ok (.ifCond .ne 26, 3) := by decide +kernel
theorem dX4_stampFalse_46 : decode cX4_stampFalse 46 = .ok (.aload_n 0, 1) := by decide +kernel
theorem dX4_stampFalse_47 : decode cX4_stampFalse 47 = .ok (.getfield 9, 3) := by decide +kernel
theorem dX4_stampFalse_50 : decode cX4_stampFalse 50 = .ok (.aload_n 1, 1) := by decide +kernel
theorem dX4_stampFalse_51 : decode cX4_stampFalse 51 = .ok (.getfield 88, 3) := by decide +kernel
theorem dX4_stampFalse_54 : decode cX4_stampFalse 54 = .ok (.iload 5, 2) := by decide +kernel
theorem dX4_stampFalse_56 : decode cX4_stampFalse 56 = .ok (.iaload, 1) := by decide +kernel
theorem dX4_stampFalse_57 : decode cX4_stampFalse 57 = .ok (.iload 4, 2) := by decide +kernel
theorem dX4_stampFalse_59 : decode cX4_stampFalse 59 = .ok (.iand, 1) := by decide +kernel
theorem dX4_stampFalse_60 : decode cX4_stampFalse 60 = .ok (.sipush 4095, 3) := by decide +kernel
theorem dX4_stampFalse_63 : decode cX4_stampFalse 63 = .ok (.iand, 1) := by decide +kernel
theorem dX4_stampFalse_64 : decode cX4_stampFalse 64 = .ok (.aload_n 0, 1) := by decide +kernel
theorem dX4_stampFalse_65 : decode cX4_stampFalse 65 = .ok (.getfield 102, 3) := by decide +kernel
theorem dX4_stampFalse_68 : decode cX4_stampFalse 68 = .ok (.iastore, 1) := by decide +kernel
theorem dX4_stampFalse_69 : decode cX4_stampFalse 69 = .ok (.iinc 5 1, 3) := by decide +kernel
theorem dX4_stampFalse_72 : decode cX4_stampFalse 72 = .ok (.goto (-51), 3) := by decide +kernel
theorem dX4_stampFalse_75 : decode cX4_stampFalse 75 = .ok (.return_, 1) := by decide +kernel
theorem dX4_knowsThat_0 : decode cX4_knowsThat 0 = .ok (.aload_n 0, 1) := by decide +kernel
theorem dX4_knowsThat_1 : decode cX4_knowsThat 1 = .ok (.aload_n 1, 1) := by decide +kernel
theorem dX4_knowsThat_2 : decode cX4_knowsThat 2 = .ok (.iload_n 2, 1) := by decide +kernel
theorem dX4_knowsThat_3 : decode cX4_knowsThat 3 = .ok (.iload_n 3, 1) := by decide +kernel
theorem dX4_knowsThat_4 : decode cX4_knowsThat 4 = .ok (.invokevirtual 108, 3) := by decide +kernel
theorem dX4_knowsThat_7 : decode cX4_knowsThat 7 = .ok (.aload_n 1, 1) := by decide +kernel
theorem dX4_knowsThat_8 : decode cX4_knowsThat 8 = .ok (.getfield 105, 3) := by decide +kernel
theorem dX4_knowsThat_11 : decode cX4_knowsThat 11 = .ok (.iload_n 2, 1) := by decide +kernel
theorem dX4_knowsThat_12 : decode cX4_knowsThat 12 = .ok (.iaload, 1) := by decide +kernel
theorem dX4_knowsThat_13 : decode cX4_knowsThat 13 = .ok (.istore 5, 2) := by decide +kernel
theorem dX4_knowsThat_15 : decode cX4_knowsThat 15 = .ok (.iconst 0, 1) := by decide +kernel
theorem dX4_knowsThat_16 : decode cX4_knowsThat 16 = .ok (.istore 6, 2) := by decide +kernel
theorem dX4_knowsThat_18 : decode cX4_knowsThat 18 = .ok (.iload 6, 2) := by decide +kernel
theorem dX4_knowsThat_20 : decode cX4_knowsThat 20 = .ok (.aload_n 1, 1) := by decide +kernel
theorem dX4_knowsThat_21 : decode cX4_knowsThat 21 = .ok (.getfield 85, 3) := by decide +kernel
theorem dX4_knowsThat_24 : decode cX4_knowsThat 24 = .ok (.if_icmp .ge 48, 3) := by decide +kernel
theorem dX4_knowsThat_27 : decode cX4_knowsThat 27 = .ok (.aload_n 0, 1) := by decide +kernel
theorem dX4_knowsThat_28 : decode cX4_knowsThat 28 = .ok (.iload 6, 2) := by decide +kernel
theorem dX4_knowsThat_30 : decode cX4_knowsThat 30 = .ok (.iload 4, 2) := by decide +kernel
theorem dX4_knowsThat_32 : decode cX4_knowsThat 32 = .ok (.aload_n 0, 1) := by decide +kernel
theorem dX4_knowsThat_33 : decode cX4_knowsThat 33 = .ok (.getfield 9, 3) := by decide +kernel
theorem dX4_knowsThat_36 : decode cX4_knowsThat 36 = .ok (.aload_n 1, 1) := by decide +kernel
theorem dX4_knowsThat_37 : decode cX4_knowsThat 37 = .ok (.getfield 88, 3) := by decide +kernel
theorem dX4_knowsThat_40 : decode cX4_knowsThat 40 = .ok (.iload 6, 2) := by decide +kernel
theorem dX4_knowsThat_42 : decode cX4_knowsThat 42 = .ok (.iaload, 1) := by decide +kernel
theorem dX4_knowsThat_43 : decode cX4_knowsThat 43 = .ok (.iload 5, 2) := by decide +kernel
theorem dX4_knowsThat_45 : decode cX4_knowsThat 45 = .ok (.iand, 1) := by decide +kernel
theorem dX4_knowsThat_46 : decode cX4_knowsThat 46 = .ok (.sipush 4095, 3) := by decide +kernel
theorem dX4_knowsThat_49 : decode cX4_knowsThat 49 = .ok (.iand, 1) := by decide +kernel
theorem dX4_knowsThat_50 : decode cX4_knowsThat 50 = .ok (.iaload, 1) := by decide +kernel
theorem dX4_knowsThat_51 : decode cX4_knowsThat 51 = .ok (.aload_n 0, 1) := by decide +kernel
theorem dX4_knowsThat_52 : decode cX4_knowsThat 52 = .ok (.getfield 102, 3) := by decide +kernel
theorem dX4_knowsThat_55 : decode cX4_knowsThat 55 = .ok (.if_icmp .eq 7, 3) := by decide +kernel
theorem dX4_knowsThat_58 : decode cX4_knowsThat 58 = .ok (.iconst 1, 1) := by decide +kernel
theorem dX4_knowsThat_59 : decode cX4_knowsThat 59 = .ok (.goto 4, 3) := by decide +kernel
theorem dX4_knowsThat_62 : decode cX4_knowsThat 62 = .ok (.iconst 0, 1) := by decide +kernel
theorem dX4_knowsThat_63 : decode cX4_knowsThat 63 = .ok (.invokevirtual 95, 3) := by decide +kernel
theorem dX4_knowsThat_66 : decode cX4_knowsThat 66 = .ok (.iinc 6 1, 3) := by decide +kernel
theorem dX4_knowsThat_69 : decode cX4_knowsThat 69 = .ok (.goto (-51), 3) := by decide +kernel
theorem dX4_knowsThat_72 : decode cX4_knowsThat 72 = .ok (.return_, 1) := by decide +kernel
theorem dX4_knownByAll_0 : decode cX4_knownByAll 0 = .ok (.iconst 0, 1) := by decide +kernel
theorem dX4_knownByAll_1 : decode cX4_knownByAll 1 = .ok (.istore 4, 2) := by decide +kernel
theorem dX4_knownByAll_3 : decode cX4_knownByAll 3 = .ok (.iload 4, 2) := by decide +kernel
theorem dX4_knownByAll_5 : decode cX4_knownByAll 5 = .ok (.aload_n 1, 1) := by decide +kernel
theorem dX4_knownByAll_6 : decode cX4_knownByAll 6 = .ok (.getfield 85, 3) := by decide +kernel
theorem dX4_knownByAll_9 : decode cX4_knownByAll 9 = .ok (.if_icmp .ge 17, 3) := by decide +kernel
theorem dX4_knownByAll_12 : decode cX4_knownByAll 12 = .ok (.aload_n 0, 1) := by decide +kernel
theorem dX4_knownByAll_13 : decode cX4_knownByAll 13 = .ok (.iload 4, 2) := by decide +kernel
theorem dX4_knownByAll_15 : decode cX4_knownByAll 15 = .ok (.iload_n 3, 1) := by decide +kernel
theorem dX4_knownByAll_16 : decode cX4_knownByAll 16 = .ok (.iconst 1, 1) := by decide +kernel
theorem dX4_knownByAll_17 : decode cX4_knownByAll 17 = .ok (.invokevirtual 95, 3) := by decide +kernel
theorem dX4_knownByAll_20 : decode cX4_knownByAll 20 = .ok (.iinc 4 1, 3) := by decide +kernel
theorem dX4_knownByAll_23 : decode cX4_knownByAll 23 = .ok (.goto (-20), 3) := by decide +kernel
theorem dX4_knownByAll_26 : decode cX4_knownByAll 26 = .ok (.iconst 0, 1) := by decide +kernel
theorem dX4_knownByAll_27 : decode cX4_knownByAll 27 = .ok (.istore 4, 2) := by decide +kernel
theorem dX4_knownByAll_29 : decode cX4_knownByAll 29 = .ok (.iload 4, 2) := by decide +kernel
theorem dX4_knownByAll_31 : decode cX4_knownByAll 31 = .ok (.aload_n 1, 1) := by decide +kernel
theorem dX4_knownByAll_32 : decode cX4_knownByAll 32 = .ok (.getfield 99, 3) := by decide +kernel
theorem dX4_knownByAll_35 : decode cX4_knownByAll 35 = .ok (.if_icmp .ge 78, 3) := by decide +kernel
theorem dX4_knownByAll_38 : decode cX4_knownByAll 38 = .ok (.aload_n 0, 1) := by decide +kernel
theorem dX4_knownByAll_39 : decode cX4_knownByAll 39 = .ok (.aload_n 1, 1) := by decide +kernel
theorem dX4_knownByAll_40 : decode cX4_knownByAll 40 = .ok (.iload 4, 2) := by decide +kernel
theorem dX4_knownByAll_42 : decode cX4_knownByAll 42 = .ok (.iload_n 2, 1) := by decide +kernel
theorem dX4_knownByAll_43 : decode cX4_knownByAll 43 = .ok (.invokevirtual 108, 3) := by decide +kernel
theorem dX4_knownByAll_46 : decode cX4_knownByAll 46 = .ok (.aload_n 1, 1) := by decide +kernel
theorem dX4_knownByAll_47 : decode cX4_knownByAll 47 = .ok (.getfield 105, 3) := by decide +kernel
theorem dX4_knownByAll_50 : decode cX4_knownByAll 50 = .ok (.iload 4, 2) := by decide +kernel
theorem dX4_knownByAll_52 : decode cX4_knownByAll 52 = .ok (.iaload, 1) := by decide +kernel
theorem dX4_knownByAll_53 : decode cX4_knownByAll 53 = .ok (.istore 5, 2) := by decide +kernel
theorem dX4_knownByAll_55 : decode cX4_knownByAll 55 = .ok (.iconst 0, 1) := by decide +kernel
theorem dX4_knownByAll_56 : decode cX4_knownByAll 56 = .ok (.istore 6, 2) := by decide +kernel
theorem dX4_knownByAll_58 : decode cX4_knownByAll 58 = .ok (.iload 6, 2) := by decide +kernel
theorem dX4_knownByAll_60 : decode cX4_knownByAll 60 = .ok (.aload_n 1, 1) := by decide +kernel
theorem dX4_knownByAll_61 : decode cX4_knownByAll 61 = .ok (.getfield 85, 3) := by decide +kernel
theorem dX4_knownByAll_64 : decode cX4_knownByAll 64 = .ok (.if_icmp .ge 43, 3) := by decide +kernel
theorem dX4_knownByAll_67 : decode cX4_knownByAll 67 = .ok (.aload_n 0, 1) := by decide +kernel
theorem dX4_knownByAll_68 : decode cX4_knownByAll 68 = .ok (.getfield 9, 3) := by decide +kernel
theorem dX4_knownByAll_71 : decode cX4_knownByAll 71 = .ok (.aload_n 1, 1) := by decide +kernel
theorem dX4_knownByAll_72 : decode cX4_knownByAll 72 = .ok (.getfield 88, 3) := by decide +kernel
theorem dX4_knownByAll_75 : decode cX4_knownByAll 75 = .ok (.iload 6, 2) := by decide +kernel
theorem dX4_knownByAll_77 : decode cX4_knownByAll 77 = .ok (.iaload, 1) := by decide +kernel
theorem dX4_knownByAll_78 : decode cX4_knownByAll 78 = .ok (.iload 5, 2) := by decide +kernel
theorem dX4_knownByAll_80 : decode cX4_knownByAll 80 = .ok (.iand, 1) := by decide +kernel
theorem dX4_knownByAll_81 : decode cX4_knownByAll 81 = .ok (.sipush 4095, 3) := by decide +kernel
theorem dX4_knownByAll_84 : decode cX4_knownByAll 84 = .ok (.iand, 1) := by decide +kernel
theorem dX4_knownByAll_85 : decode cX4_knownByAll 85 = .ok (.iaload, 1) := by decide +kernel
theorem dX4_knownByAll_86 : decode cX4_knownByAll 86 = .ok (.aload_n 0, 1) := by decide +kernel
theorem dX4_knownByAll_87 : decode cX4_knownByAll 87 = .ok (.getfield 102, 3) := by decide +kernel
theorem dX4_knownByAll_90 : decode cX4_knownByAll 90 = .ok (.if_icmp .ne 11, 3) := by decide +kernel
theorem dX4_knownByAll_93 : decode cX4_knownByAll 93 = .ok (.aload_n 0, 1) := by decide +kernel
theorem dX4_knownByAll_94 : decode cX4_knownByAll 94 = .ok (.iload 6, 2) := by decide +kernel
theorem dX4_knownByAll_96 : decode cX4_knownByAll 96 = .ok (.iload_n 3, 1) := by decide +kernel
theorem dX4_knownByAll_97 : decode cX4_knownByAll 97 = .ok (.iconst 0, 1) := by decide +kernel
theorem dX4_knownByAll_98 : decode cX4_knownByAll 98 = .ok (.invokevirtual 95, 3) := by decide +kernel
theorem dX4_knownByAll_101 : decode cX4_knownByAll 101 = .ok (.iinc 6 1, 3) := by decide +kernel
theorem dX4_knownByAll_104 : decode cX4_knownByAll 104 = .ok (.goto (-46), 3) := by decide +kernel
theorem dX4_knownByAll_107 : decode cX4_knownByAll 107 = .ok (.iinc 4 1, 3) := by decide +kernel
theorem dX4_knownByAll_110 : decode cX4_knownByAll 110 = .ok (.goto (-81), 3) := by decide +kernel
theorem dX4_knownByAll_113 : decode cX4_knownByAll 113 = .ok (.return_, 1) := by decide +kernel
theorem dX4_sharedByAll_0 : decode cX4_sharedByAll 0 = .ok (.aload_n 0, 1) := by decide +kernel
theorem dX4_sharedByAll_1 : decode cX4_sharedByAll 1 = .ok (.getfield 31, 3) := by decide +kernel
theorem dX4_sharedByAll_4 : decode cX4_sharedByAll 4 = .ok (.ifCond .ne 9, 3) := by decide +kernel
theorem dX4_sharedByAll_7 : decode cX4_sharedByAll 7 = .ok (.aload_n 0, 1) := by decide +kernel
theorem dX4_sharedByAll_8 : decode cX4_sharedByAll 8 = .ok (.aload_n 1, 1) := by decide +kernel
theorem dX4_sharedByAll_9 : decode cX4_sharedByAll 9 = .ok (.invokevirtual 111, 3) := by decide +kernel
theorem dX4_sharedByAll_12 : decode cX4_sharedByAll 12 = .ok (.pop, 1) := by decide +kernel
theorem dX4_sharedByAll_13 : decode cX4_sharedByAll 13 = .ok (.iconst 0, 1) := by decide +kernel
theorem dX4_sharedByAll_14 : decode cX4_sharedByAll 14 = .ok (.istore 4, 2) := by decide +kernel
theorem dX4_sharedByAll_16 : decode cX4_sharedByAll 16 = .ok (.iload 4, 2) := by decide +kernel
theorem dX4_sharedByAll_18 : decode cX4_sharedByAll 18 = .ok (.aload_n 1, 1) := by decide +kernel
theorem dX4_sharedByAll_19 : decode cX4_sharedByAll 19 = .ok (.getfield 85, 3) := by decide +kernel
theorem dX4_sharedByAll_22 : decode cX4_sharedByAll 22 = .ok (.if_icmp .ge 17, 3) := by decide +kernel
theorem dX4_sharedByAll_25 : decode cX4_sharedByAll 25 = .ok (.aload_n 0, 1) := by decide +kernel
theorem dX4_sharedByAll_26 : decode cX4_sharedByAll 26 = .ok (.iload 4, 2) := by decide +kernel
theorem dX4_sharedByAll_28 : decode cX4_sharedByAll 28 = .ok (.iload_n 3, 1) := by decide +kernel
theorem dX4_sharedByAll_29 : decode cX4_sharedByAll 29 = .ok (.iconst 1, 1) := by decide +kernel
theorem dX4_sharedByAll_30 : decode cX4_sharedByAll 30 = .ok (.invokevirtual 95, 3) := by decide +kernel
theorem dX4_sharedByAll_33 : decode cX4_sharedByAll 33 = .ok (.iinc 4 1, 3) := by decide +kernel
theorem dX4_sharedByAll_36 : decode cX4_sharedByAll 36 = .ok (.goto (-20), 3) := by decide +kernel
theorem dX4_sharedByAll_39 : decode cX4_sharedByAll 39 = .ok (.iconst 0, 1) := by decide +kernel
theorem dX4_sharedByAll_40 : decode cX4_sharedByAll 40 = .ok (.istore 4, 2) := by decide +kernel
theorem dX4_sharedByAll_42 : decode cX4_sharedByAll 42 = .ok (.iload 4, 2) := by decide +kernel
theorem dX4_sharedByAll_44 : decode cX4_sharedByAll 44 = .ok (.aload_n 1, 1) := by decide +kernel
theorem dX4_sharedByAll_45 : decode cX4_sharedByAll 45 = .ok (.getfield 85, 3) := by decide +kernel
theorem dX4_sharedByAll_48 : decode cX4_sharedByAll 48 = .ok (.if_icmp .ge 38, 3) := by decide +kernel
theorem dX4_sharedByAll_51 : decode cX4_sharedByAll 51 = .ok (.aload_n 0, 1) := by decide +kernel
theorem dX4_sharedByAll_52 : decode cX4_sharedByAll 52 = .ok (.getfield 18, 3) := by decide +kernel
theorem dX4_sharedByAll_55 : decode cX4_sharedByAll 55 = .ok (.iload 4, 2) := by decide +kernel
theorem dX4_sharedByAll_57 : decode cX4_sharedByAll 57 = .ok (.laload, 1) := by decide +kernel
theorem dX4_sharedByAll_58 : decode cX4_sharedByAll 58 = .ok (.iload_n 2, 1) := by decide +kernel
theorem dX4_sharedByAll_59 : decode cX4_sharedByAll 59 = .ok (.lushr, 1) := by decide +kernel
theorem dX4_sharedByAll_60 : decode cX4_sharedByAll 60 = .ok (.lconst 1, 1) := by decide +kernel
theorem dX4_sharedByAll_61 : decode cX4_sharedByAll 61 = .ok (.land, 1) := by decide +kernel
theorem dX4_sharedByAll_62 : decode cX4_sharedByAll 62 = .ok (.lconst 0, 1) := by decide +kernel
theorem dX4_sharedByAll_63 : decode cX4_sharedByAll 63 = .ok (.lcmp, 1) := by decide +kernel
theorem dX4_sharedByAll_64 : decode cX4_sharedByAll 64 = .ok (.ifCond .ne 16, 3) := by decide +kernel
theorem dX4_sharedByAll_67 : decode cX4_sharedByAll 67 = .ok (.aload_n 0, 1) := by decide +kernel
theorem dX4_sharedByAll_68 : decode cX4_sharedByAll 68 = .ok (.aload_n 0, 1) := by decide +kernel
theorem dX4_sharedByAll_69 : decode cX4_sharedByAll 69 = .ok (.getfield 22, 3) := by decide +kernel
theorem dX4_sharedByAll_72 : decode cX4_sharedByAll 72 = .ok (.iload 4, 2) := by decide +kernel
theorem dX4_sharedByAll_74 : decode cX4_sharedByAll 74 = .ok (.iaload, 1) := by decide +kernel
theorem dX4_sharedByAll_75 : decode cX4_sharedByAll 75 = .ok (.iload_n 3, 1) := by decide +kernel
theorem dX4_sharedByAll_76 : decode cX4_sharedByAll 76 = .ok (.iconst 0, 1) := by decide +kernel
theorem dX4_sharedByAll_77 : decode cX4_sharedByAll 77 = .ok (.invokevirtual 95, 3) := by decide +kernel
theorem dX4_sharedByAll_80 : decode cX4_sharedByAll 80 = .ok (.iinc 4 1, 3) := by decide +kernel
theorem dX4_sharedByAll_83 : decode cX4_sharedByAll 83 = .ok (.goto (-41), 3) := by decide +kernel
theorem dX4_sharedByAll_86 : decode cX4_sharedByAll 86 = .ok (.iconst 0, 1) := by decide +kernel
theorem dX4_sharedByAll_87 : decode cX4_sharedByAll 87 = .ok (.istore 4, 2) := by decide +kernel
theorem dX4_sharedByAll_89 : decode cX4_sharedByAll 89 = .ok (.iload 4, 2) := by decide +kernel
theorem dX4_sharedByAll_91 : decode cX4_sharedByAll 91 = .ok (.aload_n 1, 1) := by decide +kernel
theorem dX4_sharedByAll_92 : decode cX4_sharedByAll 92 = .ok (.getfield 85, 3) := by decide +kernel
theorem dX4_sharedByAll_95 : decode cX4_sharedByAll 95 = .ok (.if_icmp .ge 42, 3) := by decide +kernel
theorem dX4_sharedByAll_98 : decode cX4_sharedByAll 98 = .ok (.aload_n 0, 1) := by decide +kernel
theorem dX4_sharedByAll_99 : decode cX4_sharedByAll 99 = .ok (.iload 4, 2) := by decide +kernel
theorem dX4_sharedByAll_101 : decode cX4_sharedByAll 101 = .ok (.iload_n 3, 1) := by decide +kernel
theorem dX4_sharedByAll_102 : decode cX4_sharedByAll 102 = .ok (.aload_n 0, 1) := by decide +kernel
theorem dX4_sharedByAll_103 : decode cX4_sharedByAll 103 = .ok (.getfield 18, 3) := by decide +kernel
theorem dX4_sharedByAll_106 : decode cX4_sharedByAll 106 = .ok (.aload_n 0, 1) := by decide +kernel
theorem dX4_sharedByAll_107 : decode cX4_sharedByAll 107 = .ok (.getfield 22, 3) := by decide +kernel
theorem dX4_sharedByAll_110 : decode cX4_sharedByAll 110 = .ok (.iload 4, 2) := by decide +kernel
theorem dX4_sharedByAll_112 : decode cX4_sharedByAll 112 = .ok (.iaload, 1) := by decide +kernel
theorem dX4_sharedByAll_113 : decode cX4_sharedByAll 113 = .ok (.laload, 1) := by decide +kernel
theorem dX4_sharedByAll_114 : decode cX4_sharedByAll 114 = .ok (.iload_n 3, 1) := by decide +kernel
theorem dX4_sharedByAll_115 : decode cX4_sharedByAll 115 = .ok (.lushr, 1) := by decide +kernel
theorem dX4_sharedByAll_116 : decode cX4_sharedByAll 116 = .ok (.lconst 1, 1) := by decide +kernel
theorem dX4_sharedByAll_117 : decode cX4_sharedByAll 117 = .ok (.land, 1) := by decide +kernel
theorem dX4_sharedByAll_118 : decode cX4_sharedByAll 118 = .ok (.lconst 0, 1) := by decide +kernel
theorem dX4_sharedByAll_119 : decode cX4_sharedByAll 119 = .ok (.lcmp, 1) := by decide +kernel
theorem dX4_sharedByAll_120 : decode cX4_sharedByAll 120 = .ok (.ifCond .eq 7, 3) := by decide +kernel
theorem dX4_sharedByAll_123 : decode cX4_sharedByAll 123 = .ok (.iconst 1, 1) := by decide +kernel
theorem dX4_sharedByAll_124 : decode cX4_sharedByAll 124 = .ok (.goto 4, 3) := by decide +kernel
theorem dX4_sharedByAll_127 : decode cX4_sharedByAll 127 = .ok (.iconst 0, 1) := by decide +kernel
theorem dX4_sharedByAll_128 : decode cX4_sharedByAll 128 = .ok (.invokevirtual 95, 3) := by decide +kernel
theorem dX4_sharedByAll_131 : decode cX4_sharedByAll 131 = .ok (.iinc 4 1, 3) := by decide +kernel
theorem dX4_sharedByAll_134 : decode cX4_sharedByAll 134 = .ok (.goto (-45), 3) := by decide +kernel
theorem dX4_sharedByAll_137 : decode cX4_sharedByAll 137 = .ok (.return_, 1) := by decide +kernel
theorem dX4_join_0 : decode cX4_join 0 = .ok (.iconst 0, 1) := by decide +kernel
theorem dX4_join_1 : decode cX4_join 1 = .ok (.istore_n 2, 1) := by decide +kernel
theorem dX4_join_2 : decode cX4_join 2 = .ok (.iload_n 2, 1) := by decide +kernel
theorem dX4_join_3 : decode cX4_join 3 = .ok (.aload_n 1, 1) := by decide +kernel
theorem dX4_join_4 : decode cX4_join 4 = .ok (.getfield 85, 3) := by decide +kernel
theorem dX4_join_7 : decode cX4_join 7 = .ok (.if_icmp .ge 16, 3) := by decide +kernel
theorem dX4_join_10 : decode cX4_join 10 = .ok (.aload_n 0, 1) := by decide +kernel
theorem dX4_join_11 : decode cX4_join 11 = .ok (.getfield 22, 3) := by decide +kernel
theorem dX4_join_14 : decode cX4_join 14 = .ok (.iload_n 2, 1) := by decide +kernel
theorem dX4_join_15 : decode cX4_join 15 = .ok (.iload_n 2, 1) := by decide +kernel
theorem dX4_join_16 : decode cX4_join 16 = .ok (.iastore, 1) := by decide +kernel
theorem dX4_join_17 : decode cX4_join 17 = .ok (.iinc 2 1, 3) := by decide +kernel
theorem dX4_join_20 : decode cX4_join 20 = .ok (.goto (-18), 3) := by decide +kernel
theorem dX4_join_23 : decode cX4_join 23 = .ok (.iconst 0, 1) := by decide +kernel
theorem dX4_join_24 : decode cX4_join 24 = .ok (.istore_n 2, 1) := by decide +kernel
theorem dX4_join_25 : decode cX4_join 25 = .ok (.iload_n 2, 1) := by decide +kernel
theorem dX4_join_26 : decode cX4_join 26 = .ok (.aload_n 1, 1) := by decide +kernel
theorem dX4_join_27 : decode cX4_join 27 = .ok (.getfield 99, 3) := by decide +kernel
theorem dX4_join_30 : decode cX4_join 30 = .ok (.if_icmp .ge 136, 3) := by decide +kernel
theorem dX4_join_33 : decode cX4_join 33 = .ok (.aload_n 0, 1) := by decide +kernel
theorem dX4_join_34 : decode cX4_join 34 = .ok (.dup, 1) := by decide +kernel
theorem dX4_join_35 : decode cX4_join 35 = .ok (.getfield 102, 3) := by decide +kernel
theorem dX4_join_38 : decode cX4_join 38 = .ok (.iconst 1, 1) := by decide +kernel
theorem dX4_join_39 : decode cX4_join 39 = .ok (.iadd, 1) := by decide +kernel
theorem dX4_join_40 : decode cX4_join 40 = .ok (.putfield 102, 3) := by decide +kernel
theorem dX4_join_43 : decode cX4_join 43 = .ok (.iconst 0, 1) := by decide +kernel
theorem dX4_join_44 : decode cX4_join 44 = .ok (.istore_n 3, 1) := by decide +kernel
theorem dX4_join_45 : decode cX4_join 45 = .ok (.iload_n 3, 1) := by decide +kernel
theorem dX4_join_46 : decode cX4_join 46 = .ok (.aload_n 1, 1) := by decide +kernel
theorem dX4_join_47 : decode cX4_join 47 = .ok (.getfield 85, 3) := by decide +kernel
theorem dX4_join_50 : decode cX4_join 50 = .ok (.if_icmp .ge 110, 3) := by decide +kernel
theorem dX4_join_53 : decode cX4_join 53 = .ok (.aload_n 1, 1) := by decide +kernel
theorem dX4_join_54 : decode cX4_join 54 = .ok (.getfield 88, 3) := by decide +kernel
theorem dX4_join_57 : decode cX4_join 57 = .ok (.iload_n 3, 1) := by decide +kernel
theorem dX4_join_58 : decode cX4_join 58 = .ok (.iaload, 1) := by decide +kernel
theorem dX4_join_59 : decode cX4_join 59 = .ok (.aload_n 1, 1) := by decide +kernel
theorem dX4_join_60 : decode cX4_join 60 = .ok (.getfield 105, 3) := by decide +kernel
theorem dX4_join_63 : decode cX4_join 63 = .ok (.iload_n 2, 1) := by decide +kernel
theorem dX4_join_64 : decode cX4_join 64 = .ok (.iaload, 1) := by decide +kernel
theorem dX4_join_65 : decode cX4_join 65 = .ok (.iand, 1) := by decide +kernel
theorem dX4_join_66 : decode cX4_join 66 = .ok (.sipush 4095, 3) := by decide +kernel
theorem dX4_join_69 : decode cX4_join 69 = .ok (.iand, 1) := by decide +kernel
theorem dX4_join_70 : decode cX4_join 70 = .ok (.istore 4, 2) := by decide +kernel
theorem dX4_join_72 : decode cX4_join 72 = .ok (.aload_n 0, 1) := by decide +kernel
theorem dX4_join_73 : decode cX4_join 73 = .ok (.getfield 15, 3) := by decide +kernel
theorem dX4_join_76 : decode cX4_join 76 = .ok (.iload 4, 2) := by decide +kernel
theorem dX4_join_78 : decode cX4_join 78 = .ok (.aload_n 0, 1) := by decide +kernel
theorem dX4_join_79 : decode cX4_join 79 = .ok (.getfield 9, 3) := by decide +kernel
theorem dX4_join_82 : decode cX4_join 82 = .ok (.iload 4, 2) := by decide +kernel
theorem dX4_join_84 : decode cX4_join 84 = .ok (.iaload, 1) := by decide +kernel
theorem dX4_join_85 : decode cX4_join 85 = .ok (.aload_n 0, 1) := by decide +kernel
theorem dX4_join_86 : decode cX4_join 86 = .ok (.getfield 102, 3) := by decide +kernel
theorem dX4_join_89 : decode cX4_join 89 = .ok (.if_icmp .ne 13, 3) := by decide +kernel
theorem dX4_join_92 : decode cX4_join 92 = .ok (.aload_n 0, 1) := by decide +kernel
theorem dX4_join_93 : decode cX4_join 93 = .ok (.getfield 15, 3) := by decide +kernel
theorem dX4_join_96 : decode cX4_join 96 = .ok (.iload 4, 2) := by decide +kernel
theorem dX4_join_98 : decode cX4_join 98 = .ok (.iaload, 1) := by decide +kernel
theorem dX4_join_99 : decode cX4_join 99 = .ok (.goto 4, 3) := by decide +kernel
theorem dX4_join_102 : decode cX4_join 102 = .ok (.iload_n 3, 1) := by decide +kernel
theorem dX4_join_103 : decode cX4_join 103 = .ok (.iastore, 1) := by decide +kernel
theorem dX4_join_104 : decode cX4_join 104 = .ok (.aload_n 0, 1) := by decide +kernel
theorem dX4_join_105 : decode cX4_join 105 = .ok (.getfield 9, 3) := by decide +kernel
theorem dX4_join_108 : decode cX4_join 108 = .ok (.iload 4, 2) := by decide +kernel
theorem dX4_join_110 : decode cX4_join 110 = .ok (.aload_n 0, 1) := by decide +kernel
theorem dX4_join_111 : decode cX4_join 111 = .ok (.getfield 102, 3) := by decide +kernel
theorem dX4_join_114 : decode cX4_join 114 = .ok (.iastore, 1) := by decide +kernel
theorem dX4_join_115 : decode cX4_join 115 = .ok (.aload_n 0, 1) := by decide +kernel
theorem dX4_join_116 : decode cX4_join 116 = .ok (.iload_n 3, 1) := by decide +kernel
theorem dX4_join_117 : decode cX4_join 117 = .ok (.invokevirtual 115, 3) := by decide +kernel
theorem dX4_join_120 : decode cX4_join 120 = .ok (.istore 5, 2) := by decide +kernel
theorem dX4_join_122 : decode cX4_join 122 = .ok (.aload_n 0, 1) := by decide +kernel
theorem dX4_join_123 : decode cX4_join 123 = .ok (.aload_n 0, 1) := by decide +kernel
theorem dX4_join_124 : decode cX4_join 124 = .ok (.getfield 15, 3) := by decide +kernel
theorem dX4_join_127 : decode cX4_join 127 = .ok (.iload 4, 2) := by decide +kernel
theorem dX4_join_129 : decode cX4_join 129 = .ok (.iaload, 1) := by decide +kernel
theorem dX4_join_130 : decode cX4_join 130 = .ok (.invokevirtual 115, 3) := by decide +kernel
theorem dX4_join_133 : decode cX4_join 133 = .ok (.istore 6, 2) := by decide +kernel
theorem dX4_join_135 : decode cX4_join 135 = .ok (.aload_n 0, 1) := by decide +kernel
theorem dX4_join_136 : decode cX4_join 136 = .ok (.getfield 22, 3) := by decide +kernel
theorem dX4_join_139 : decode cX4_join 139 = .ok (.iload 5, 2) := by decide +kernel
theorem dX4_join_141 : decode cX4_join 141 = .ok (.iload 6, 2) := by decide +kernel
theorem dX4_join_143 : decode cX4_join 143 = .ok (.invokestatic 119, 3) := by decide +kernel
theorem dX4_join_146 : decode cX4_join 146 = .ok (.iload 5, 2) := by decide +kernel
theorem dX4_join_148 : decode cX4_join 148 = .ok (.iload 6, 2) := by decide +kernel
theorem dX4_join_150 : decode cX4_join 150 = .ok (.invokestatic 124, 3) := by decide +kernel
theorem dX4_join_153 : decode cX4_join 153 = .ok (.iastore, 1) := by decide +kernel
theorem dX4_join_154 : decode cX4_join 154 = .ok (.iinc 3 1, 3) := by decide +kernel
theorem dX4_join_157 : decode cX4_join 157 = .ok (.goto (-112), 3) := by decide +kernel
theorem dX4_join_160 : decode cX4_join 160 = .ok (.iinc 2 1, 3) := by decide +kernel
theorem dX4_join_163 : decode cX4_join 163 = .ok (.goto (-138), 3) := by decide +kernel
theorem dX4_join_166 : decode cX4_join 166 = .ok (.iconst 0, 1) := by decide +kernel
theorem dX4_join_167 : decode cX4_join 167 = .ok (.istore_n 2, 1) := by decide +kernel
theorem dX4_join_168 : decode cX4_join 168 = .ok (.iconst 0, 1) := by decide +kernel
theorem dX4_join_169 : decode cX4_join 169 = .ok (.istore_n 3, 1) := by decide +kernel
theorem dX4_join_170 : decode cX4_join 170 = .ok (.iload_n 3, 1) := by decide +kernel
theorem dX4_join_171 : decode cX4_join 171 = .ok (.aload_n 1, 1) := by decide +kernel
theorem dX4_join_172 : decode cX4_join 172 = .ok (.getfield 85, 3) := by decide +kernel
theorem dX4_join_175 : decode cX4_join 175 = .ok (.if_icmp .ge 44, 3) := by decide +kernel
theorem dX4_join_178 : decode cX4_join 178 = .ok (.aload_n 0, 1) := by decide +kernel
theorem dX4_join_179 : decode cX4_join 179 = .ok (.getfield 22, 3) := by decide +kernel
theorem dX4_join_182 : decode cX4_join 182 = .ok (.iload_n 3, 1) := by decide +kernel
theorem dX4_join_183 : decode cX4_join 183 = .ok (.aload_n 0, 1) := by decide +kernel
theorem dX4_join_184 : decode cX4_join 184 = .ok (.getfield 22, 3) := by decide +kernel
theorem dX4_join_187 : decode cX4_join 187 = .ok (.aload_n 0, 1) := by decide +kernel
theorem dX4_join_188 : decode cX4_join 188 = .ok (.getfield 22, 3) := by decide +kernel
theorem dX4_join_191 : decode cX4_join 191 = .ok (.iload_n 3, 1) := by decide +kernel
theorem dX4_join_192 : decode cX4_join 192 = .ok (.iaload, 1) := by decide +kernel
theorem dX4_join_193 : decode cX4_join 193 = .ok (.iaload, 1) := by decide +kernel
theorem dX4_join_194 : decode cX4_join 194 = .ok (.iastore, 1) := by decide +kernel
theorem dX4_join_195 : decode cX4_join 195 = .ok (.iload_n 2, 1) := by decide +kernel
theorem dX4_join_196 : decode cX4_join 196 = .ok (.aload_n 0, 1) := by decide +kernel
theorem dX4_join_197 : decode cX4_join 197 = .ok (.getfield 22, 3) := by decide +kernel
theorem dX4_join_200 : decode cX4_join 200 = .ok (.iload_n 3, 1) := by decide +kernel
theorem dX4_join_201 : decode cX4_join 201 = .ok (.iaload, 1) := by decide +kernel
theorem dX4_join_202 : decode cX4_join 202 = .ok (.iload_n 3, 1) := by decide +kernel
theorem dX4_join_203 : decode cX4_join 203 = .ok (.if_icmp .ne 7, 3) := by decide +kernel
theorem dX4_join_206 : decode cX4_join 206 = .ok (.iconst 1, 1) := by decide +kernel
theorem dX4_join_207 : decode cX4_join 207 = .ok (.goto 4, 3) := by decide +kernel
theorem dX4_join_210 : decode cX4_join 210 = .ok (.iconst 0, 1) := by decide +kernel
theorem dX4_join_211 : decode cX4_join 211 = .ok (.iadd, 1) := by decide +kernel
theorem dX4_join_212 : decode cX4_join 212 = .ok (.istore_n 2, 1) := by decide +kernel
theorem dX4_join_213 : decode cX4_join 213 = .ok (.iinc 3 1, 3) := by decide +kernel
theorem dX4_join_216 : decode cX4_join 216 = .ok (.goto (-46), 3) := by decide +kernel
theorem dX4_join_219 : decode cX4_join 219 = .ok (.aload_n 0, 1) := by decide +kernel
theorem dX4_join_220 : decode cX4_join 220 = .ok (.iconst 1, 1) := by decide +kernel
theorem dX4_join_221 : decode cX4_join 221 = .ok (.putfield 31, 3) := by decide +kernel
theorem dX4_join_224 : decode cX4_join 224 = .ok (.iload_n 2, 1) := by decide +kernel
theorem dX4_join_225 : decode cX4_join 225 = .ok (.ireturn, 1) := by decide +kernel
theorem dX4_headOf_0 : decode cX4_headOf 0 = .ok (.iload_n 1, 1) := by decide +kernel
theorem dX4_headOf_1 : decode cX4_headOf 1 = .ok (.istore_n 2, 1) := by decide +kernel
theorem dX4_headOf_2 : decode cX4_headOf 2 = .ok (.iconst 0, 1) := by decide +kernel
theorem dX4_headOf_3 : decode cX4_headOf 3 = .ok (.istore_n 3, 1) := by decide +kernel
theorem dX4_headOf_4 : decode cX4_headOf 4 = .ok (.iload_n 3, 1) := by decide +kernel
theorem dX4_headOf_5 : decode cX4_headOf 5 = .ok (.sipush 729, 3) := by decide +kernel
theorem dX4_headOf_8 : decode cX4_headOf 8 = .ok (.if_icmp .ge 43, 3) := by decide +kernel
theorem dX4_headOf_11 : decode cX4_headOf 11 = .ok (.aload_n 0, 1) := by decide +kernel
theorem dX4_headOf_12 : decode cX4_headOf 12 = .ok (.getfield 22, 3) := by decide +kernel
theorem dX4_headOf_15 : decode cX4_headOf 15 = .ok (.iload_n 2, 1) := by decide +kernel
theorem dX4_headOf_16 : decode cX4_headOf 16 = .ok (.iaload, 1) := by decide +kernel
theorem dX4_headOf_17 : decode cX4_headOf 17 = .ok (.iload_n 2, 1) := by decide +kernel
theorem dX4_headOf_18 : decode cX4_headOf 18 = .ok (.if_icmp .eq 33, 3) := by decide +kernel
theorem dX4_headOf_21 : decode cX4_headOf 21 = .ok (.aload_n 0, 1) := by decide +kernel
theorem dX4_headOf_22 : decode cX4_headOf 22 = .ok (.getfield 22, 3) := by decide +kernel
theorem dX4_headOf_25 : decode cX4_headOf 25 = .ok (.iload_n 2, 1) := by decide +kernel
theorem dX4_headOf_26 : decode cX4_headOf 26 = .ok (.aload_n 0, 1) := by decide +kernel
theorem dX4_headOf_27 : decode cX4_headOf 27 = .ok (.getfield 22, 3) := by decide +kernel
theorem dX4_headOf_30 : decode cX4_headOf 30 = .ok (.aload_n 0, 1) := by decide +kernel
theorem dX4_headOf_31 : decode cX4_headOf 31 = .ok (.getfield 22, 3) := by decide +kernel
theorem dX4_headOf_34 : decode cX4_headOf 34 = .ok (.iload_n 2, 1) := by decide +kernel
theorem dX4_headOf_35 : decode cX4_headOf 35 = .ok (.iaload, 1) := by decide +kernel
theorem dX4_headOf_36 : decode cX4_headOf 36 = .ok (.iaload, 1) := by decide +kernel
theorem dX4_headOf_37 : decode cX4_headOf 37 = .ok (.iastore, 1) := by decide +kernel
theorem dX4_headOf_38 : decode cX4_headOf 38 = .ok (.aload_n 0, 1) := by decide +kernel
theorem dX4_headOf_39 : decode cX4_headOf 39 = .ok (.getfield 22, 3) := by decide +kernel
theorem dX4_headOf_42 : decode cX4_headOf 42 = .ok (.iload_n 2, 1) := by decide +kernel
theorem dX4_headOf_43 : decode cX4_headOf 43 = .ok (.iaload, 1) := by decide +kernel
theorem dX4_headOf_44 : decode cX4_headOf 44 = .ok (.istore_n 2, 1) := by decide +kernel
theorem dX4_headOf_45 : decode cX4_headOf 45 = .ok (.iinc 3 1, 3) := by decide +kernel
theorem dX4_headOf_48 : decode cX4_headOf 48 = .ok (.goto (-44), 3) := by decide +kernel
theorem dX4_headOf_51 : decode cX4_headOf 51 = .ok (.iload_n 2, 1) := by decide +kernel
theorem dX4_headOf_52 : decode cX4_headOf 52 = .ok (.ireturn, 1) := by decide +kernel
theorem dX4_keepOnly_0 : decode cX4_keepOnly 0 = .ok (.iconst 0, 1) := by decide +kernel
theorem dX4_keepOnly_1 : decode cX4_keepOnly 1 = .ok (.istore_n 3, 1) := by decide +kernel
theorem dX4_keepOnly_2 : decode cX4_keepOnly 2 = .ok (.iload_n 3, 1) := by decide +kernel
theorem dX4_keepOnly_3 : decode cX4_keepOnly 3 = .ok (.aload_n 1, 1) := by decide +kernel
theorem dX4_keepOnly_4 : decode cX4_keepOnly 4 = .ok (.getfield 85, 3) := by decide +kernel
theorem dX4_keepOnly_7 : decode cX4_keepOnly 7 = .ok (.if_icmp .ge 25, 3) := by decide +kernel
theorem dX4_keepOnly_10 : decode cX4_keepOnly 10 = .ok (.aload_n 0, 1) := by decide +kernel
theorem dX4_keepOnly_11 : decode cX4_keepOnly 11 = .ok (.getfield 18, 3) := by decide +kernel
theorem dX4_keepOnly_14 : decode cX4_keepOnly 14 = .ok (.iload_n 3, 1) := by decide +kernel
theorem dX4_keepOnly_15 : decode cX4_keepOnly 15 = .ok (.aload_n 0, 1) := by decide +kernel
theorem dX4_keepOnly_16 : decode cX4_keepOnly 16 = .ok (.getfield 18, 3) := by decide +kernel
theorem dX4_keepOnly_19 : decode cX4_keepOnly 19 = .ok (.iload_n 3, 1) := by decide +kernel
theorem dX4_keepOnly_20 : decode cX4_keepOnly 20 = .ok (.laload, 1) := by decide +kernel
theorem dX4_keepOnly_21 : decode cX4_keepOnly 21 = .ok (.iload_n 2, 1) := by decide +kernel
theorem dX4_keepOnly_22 : decode cX4_keepOnly 22 = .ok (.lushr, 1) := by decide +kernel
theorem dX4_keepOnly_23 : decode cX4_keepOnly 23 = .ok (.lconst 1, 1) := by decide +kernel
theorem dX4_keepOnly_24 : decode cX4_keepOnly 24 = .ok (.land, 1) := by decide +kernel
theorem dX4_keepOnly_25 : decode cX4_keepOnly 25 = .ok (.lastore, 1) := by decide +kernel
theorem dX4_keepOnly_26 : decode cX4_keepOnly 26 = .ok (.iinc 3 1, 3) := by decide +kernel
theorem dX4_keepOnly_29 : decode cX4_keepOnly 29 = .ok (.goto (-27), 3) := by decide +kernel
theorem dX4_keepOnly_32 : decode cX4_keepOnly 32 = .ok (.return_, 1) := by decide +kernel
theorem dX4_howMany_0 : decode cX4_howMany 0 = .ok (.iconst 0, 1) := by decide +kernel
theorem dX4_howMany_1 : decode cX4_howMany 1 = .ok (.istore_n 3, 1) := by decide +kernel
theorem dX4_howMany_2 : decode cX4_howMany 2 = .ok (.iconst 0, 1) := by decide +kernel
theorem dX4_howMany_3 : decode cX4_howMany 3 = .ok (.istore 4, 2) := by decide +kernel
theorem dX4_howMany_5 : decode cX4_howMany 5 = .ok (.iload 4, 2) := by decide +kernel
theorem dX4_howMany_7 : decode cX4_howMany 7 = .ok (.aload_n 1, 1) := by decide +kernel
theorem dX4_howMany_8 : decode cX4_howMany 8 = .ok (.getfield 85, 3) := by decide +kernel
theorem dX4_howMany_11 : decode cX4_howMany 11 = .ok (.if_icmp .ge 19, 3) := by decide +kernel
theorem dX4_howMany_14 : decode cX4_howMany 14 = .ok (.iload_n 3, 1) := by decide +kernel
theorem dX4_howMany_15 : decode cX4_howMany 15 = .ok (.aload_n 0, 1) := by decide +kernel
theorem dX4_howMany_16 : decode cX4_howMany 16 = .ok (.iload 4, 2) := by decide +kernel
theorem dX4_howMany_18 : decode cX4_howMany 18 = .ok (.iload_n 2, 1) := by decide +kernel
theorem dX4_howMany_19 : decode cX4_howMany 19 = .ok (.invokevirtual 127, 3) := by decide +kernel
theorem dX4_howMany_22 : decode cX4_howMany 22 = .ok (.iadd, 1) := by decide +kernel
theorem dX4_howMany_23 : decode cX4_howMany 23 = .ok (.istore_n 3, 1) := by decide +kernel
theorem dX4_howMany_24 : decode cX4_howMany 24 = .ok (.iinc 4 1, 3) := by decide +kernel
theorem dX4_howMany_27 : decode cX4_howMany 27 = .ok (.goto (-22), 3) := by decide +kernel
theorem dX4_howMany_30 : decode cX4_howMany 30 = .ok (.iload_n 3, 1) := by decide +kernel
theorem dX4_howMany_31 : decode cX4_howMany 31 = .ok (.ireturn, 1) := by decide +kernel
theorem dX4_sureness_0 : decode cX4_sureness 0 = .ok (.iconst 1, 1) := by decide +kernel
theorem dX4_sureness_1 : decode cX4_sureness 1 = .ok (.istore 4, 2) := by decide +kernel
theorem dX4_sureness_3 : decode cX4_sureness 3 = .ok (.iconst 1, 1) := by decide +kernel
theorem dX4_sureness_4 : decode cX4_sureness 4 = .ok (.istore 5, 2) := by decide +kernel
theorem dX4_sureness_6 : decode cX4_sureness 6 = .ok (.iconst 0, 1) := by decide +kernel
theorem dX4_sureness_7 : decode cX4_sureness 7 = .ok (.istore 6, 2) := by decide +kernel
theorem dX4_sureness_9 : decode cX4_sureness 9 = .ok (.iload 6, 2) := by decide +kernel
theorem dX4_sureness_11 : decode cX4_sureness 11 = .ok (.aload_n 1, 1) := by decide +kernel
theorem dX4_sureness_12 : decode cX4_sureness 12 = .ok (.getfield 85, 3) := by decide +kernel
theorem dX4_sureness_15 : decode cX4_sureness 15 = .ok (.if_icmp .ge 60, 3) := by decide +kernel
theorem dX4_sureness_18 : decode cX4_sureness 18 = .ok (.aload_n 1, 1) := by decide +kernel
theorem dX4_sureness_19 : decode cX4_sureness 19 = .ok (.iload 6, 2) := by decide +kernel
theorem dX4_sureness_21 : decode cX4_sureness 21 = .ok (.iload_n 2, 1) := by decide +kernel
theorem dX4_sureness_22 : decode cX4_sureness 22 = .ok (.invokevirtual 130, 3) := by decide +kernel
theorem dX4_sureness_25 : decode cX4_sureness 25 = .ok (.ifCond .eq 44, 3) := by decide +kernel
theorem dX4_sureness_28 : decode cX4_sureness 28 = .ok (.iload 4, 2) := by decide +kernel
theorem dX4_sureness_30 : decode cX4_sureness 30 = .ok (.aload_n 0, 1) := by decide +kernel
theorem dX4_sureness_31 : decode cX4_sureness 31 = .ok (.iload 6, 2) := by decide +kernel
theorem dX4_sureness_33 : decode cX4_sureness 33 = .ok (.iload_n 3, 1) := by decide +kernel
theorem dX4_sureness_34 : decode cX4_sureness 34 = .ok (.invokevirtual 127, 3) := by decide +kernel
theorem dX4_sureness_37 : decode cX4_sureness 37 = .ok (.ifCond .ne 7, 3) := by decide +kernel
theorem dX4_sureness_40 : decode cX4_sureness 40 = .ok (.iconst 1, 1) := by decide +kernel
theorem dX4_sureness_41 : decode cX4_sureness 41 = .ok (.goto 4, 3) := by decide +kernel
theorem dX4_sureness_44 : decode cX4_sureness 44 = .ok (.iconst 0, 1) := by decide +kernel
theorem dX4_sureness_45 : decode cX4_sureness 45 = .ok (.iand, 1) := by decide +kernel
theorem dX4_sureness_46 : decode cX4_sureness 46 = .ok (.istore 4, 2) := by decide +kernel
theorem dX4_sureness_48 : decode cX4_sureness 48 = .ok (.iload 5, 2) := by decide +kernel
theorem dX4_sureness_50 : decode cX4_sureness 50 = .ok (.aload_n 0, 1) := by decide +kernel
theorem dX4_sureness_51 : decode cX4_sureness 51 = .ok (.iload 6, 2) := by decide +kernel
theorem dX4_sureness_53 : decode cX4_sureness 53 = .ok (.iload_n 3, 1) := by decide +kernel
theorem dX4_sureness_54 : decode cX4_sureness 54 = .ok (.invokevirtual 127, 3) := by decide +kernel
theorem dX4_sureness_57 : decode cX4_sureness 57 = .ok (.iconst 1, 1) := by decide +kernel
theorem dX4_sureness_58 : decode cX4_sureness 58 = .ok (.if_icmp .ne 7, 3) := by decide +kernel
theorem dX4_sureness_61 : decode cX4_sureness 61 = .ok (.iconst 1, 1) := by decide +kernel
theorem dX4_sureness_62 : decode cX4_sureness 62 = .ok (.goto 4, 3) := by decide +kernel
theorem dX4_sureness_65 : decode cX4_sureness 65 = .ok (.iconst 0, 1) := by decide +kernel
theorem dX4_sureness_66 : decode cX4_sureness 66 = .ok (.iand, 1) := by decide +kernel
theorem dX4_sureness_67 : decode cX4_sureness 67 = .ok (.istore 5, 2) := by decide +kernel
theorem dX4_sureness_69 : decode cX4_sureness 69 = .ok (.iinc 6 1, 3) := by decide +kernel
theorem dX4_sureness_72 : decode cX4_sureness 72 = .ok (.goto (-63), 3) := by decide +kernel
theorem dX4_sureness_75 : decode cX4_sureness 75 = .ok (.iload 5, 2) := by decide +kernel
theorem dX4_sureness_77 : decode cX4_sureness 77 = .ok (.ifCond .eq 7, 3) := by decide +kernel
theorem dX4_sureness_80 : decode cX4_sureness 80 = .ok (.iconst 1, 1) := by decide +kernel
theorem dX4_sureness_81 : decode cX4_sureness 81 = .ok (.goto 13, 3) := by decide +kernel
theorem dX4_sureness_84 : decode cX4_sureness 84 = .ok (.iload 4, 2) := by decide +kernel
theorem dX4_sureness_86 : decode cX4_sureness 86 = .ok (.ifCond .eq 7, 3) := by decide +kernel
theorem dX4_sureness_89 : decode cX4_sureness 89 = .ok (.iconst 0, 1) := by decide +kernel
theorem dX4_sureness_90 : decode cX4_sureness 90 = .ok (.goto 4, 3) := by decide +kernel
theorem dX4_sureness_93 : decode cX4_sureness 93 = .ok (.iconst 2, 1) := by decide +kernel
theorem dX4_sureness_94 : decode cX4_sureness 94 = .ok (.ireturn, 1) := by decide +kernel
theorem dX4_judgeOwn_0 : decode cX4_judgeOwn 0 = .ok (.iconst 0, 1) := by decide +kernel
theorem dX4_judgeOwn_1 : decode cX4_judgeOwn 1 = .ok (.istore_n 2, 1) := by decide +kernel
theorem dX4_judgeOwn_2 : decode cX4_judgeOwn 2 = .ok (.iload_n 2, 1) := by decide +kernel
theorem dX4_judgeOwn_3 : decode cX4_judgeOwn 3 = .ok (.aload_n 1, 1) := by decide +kernel
theorem dX4_judgeOwn_4 : decode cX4_judgeOwn 4 = .ok (.getfield 99, 3) := by decide +kernel
theorem dX4_judgeOwn_7 : decode cX4_judgeOwn 7 = .ok (.if_icmp .ge 16, 3) := by decide +kernel
theorem dX4_judgeOwn_10 : decode cX4_judgeOwn 10 = .ok (.aload_n 0, 1) := by decide +kernel
theorem dX4_judgeOwn_11 : decode cX4_judgeOwn 11 = .ok (.aload_n 1, 1) := by decide +kernel
theorem dX4_judgeOwn_12 : decode cX4_judgeOwn 12 = .ok (.iload_n 2, 1) := by decide +kernel
theorem dX4_judgeOwn_13 : decode cX4_judgeOwn 13 = .ok (.iload_n 2, 1) := by decide +kernel
theorem dX4_judgeOwn_14 : decode cX4_judgeOwn 14 = .ok (.invokevirtual 60, 3) := by decide +kernel
theorem dX4_judgeOwn_17 : decode cX4_judgeOwn 17 = .ok (.iinc 2 1, 3) := by decide +kernel
theorem dX4_judgeOwn_20 : decode cX4_judgeOwn 20 = .ok (.goto (-18), 3) := by decide +kernel
theorem dX4_judgeOwn_23 : decode cX4_judgeOwn 23 = .ok (.return_, 1) := by decide +kernel
theorem dX4_fewestFacts_0 : decode cX4_fewestFacts 0 = .ok (.lconst 0, 1) := by decide +kernel
theorem dX4_fewestFacts_1 : decode cX4_fewestFacts 1 = .ok (.lstore 4, 2) := by decide +kernel
theorem dX4_fewestFacts_3 : decode cX4_fewestFacts 3 = .ok (.iconst 0, 1) := by decide +kernel
theorem dX4_fewestFacts_4 : decode cX4_fewestFacts 4 = .ok (.istore 6, 2) := by decide +kernel
theorem dX4_fewestFacts_6 : decode cX4_fewestFacts 6 = .ok (.iload 6, 2) := by decide +kernel
theorem dX4_fewestFacts_8 : decode cX4_fewestFacts 8 = .ok (.aload_n 1, 1) := by decide +kernel
theorem dX4_fewestFacts_9 : decode cX4_fewestFacts 9 = .ok (.getfield 134, 3) := by decide +kernel
theorem dX4_fewestFacts_12 : decode cX4_fewestFacts 12 = .ok (.getfield 138, 3) := by decide +kernel
theorem dX4_fewestFacts_15 : decode cX4_fewestFacts 15 = .ok (.if_icmp .ge 21, 3) := by decide +kernel
theorem dX4_fewestFacts_18 : decode cX4_fewestFacts 18 = .ok (.lload 4, 2) := by decide +kernel
theorem dX4_fewestFacts_20 : decode cX4_fewestFacts 20 = .ok (.aload_n 1, 1) := by decide +kernel
theorem dX4_fewestFacts_21 : decode cX4_fewestFacts 21 = .ok (.getfield 141, 3) := by decide +kernel
theorem dX4_fewestFacts_24 : decode cX4_fewestFacts 24 = .ok (.iload 6, 2) := by decide +kernel
theorem dX4_fewestFacts_26 : decode cX4_fewestFacts 26 = .ok (.laload, 1) := by decide +kernel
theorem dX4_fewestFacts_27 : decode cX4_fewestFacts 27 = .ok (.lor, 1) := by decide +kernel
theorem dX4_fewestFacts_28 : decode cX4_fewestFacts 28 = .ok (.lstore 4, 2) := by decide +kernel
theorem dX4_fewestFacts_30 : decode cX4_fewestFacts 30 = .ok (.iinc 6 1, 3) := by decide +kernel
theorem dX4_fewestFacts_33 : decode cX4_fewestFacts 33 = .ok (.goto (-27), 3) := by decide +kernel
theorem dX4_fewestFacts_36 : decode cX4_fewestFacts 36 = .ok (.aload_n 0, 1) := by decide +kernel
theorem dX4_fewestFacts_37 : decode cX4_fewestFacts 37 = .ok (.aload_n 1, 1) := by decide +kernel
theorem dX4_fewestFacts_38 : decode cX4_fewestFacts 38 = .ok (.aload_n 2, 1) := by decide +kernel
theorem dX4_fewestFacts_39 : decode cX4_fewestFacts 39 = .ok (.lload 4, 2) := by decide +kernel
theorem dX4_fewestFacts_41 : decode cX4_fewestFacts 41 = .ok (.invokevirtual 144, 3) := by decide +kernel
theorem dX4_fewestFacts_44 : decode cX4_fewestFacts 44 = .ok (.aload_n 0, 1) := by decide +kernel
theorem dX4_fewestFacts_45 : decode cX4_fewestFacts 45 = .ok (.aload_n 1, 1) := by decide +kernel
theorem dX4_fewestFacts_46 : decode cX4_fewestFacts 46 = .ok (.aload_n 2, 1) := by decide +kernel
theorem dX4_fewestFacts_47 : decode cX4_fewestFacts 47 = .ok (.iload_n 3, 1) := by decide +kernel
theorem dX4_fewestFacts_48 : decode cX4_fewestFacts 48 = .ok (.invokevirtual 148, 3) := by decide +kernel
theorem dX4_fewestFacts_51 : decode cX4_fewestFacts 51 = .ok (.aload_n 0, 1) := by decide +kernel
theorem dX4_fewestFacts_52 : decode cX4_fewestFacts 52 = .ok (.aload_n 1, 1) := by decide +kernel
theorem dX4_fewestFacts_53 : decode cX4_fewestFacts 53 = .ok (.aload_n 2, 1) := by decide +kernel
theorem dX4_fewestFacts_54 : decode cX4_fewestFacts 54 = .ok (.getfield 152, 3) := by decide +kernel
theorem dX4_fewestFacts_57 : decode cX4_fewestFacts 57 = .ok (.invokevirtual 155, 3) := by decide +kernel
theorem dX4_fewestFacts_60 : decode cX4_fewestFacts 60 = .ok (.istore 6, 2) := by decide +kernel
theorem dX4_fewestFacts_62 : decode cX4_fewestFacts 62 = .ok (.bipush (-2), 2) := by decide +kernel
theorem dX4_fewestFacts_64 : decode cX4_fewestFacts 64 = .ok (.istore 7, 2) := by decide +kernel
theorem dX4_fewestFacts_66 : decode cX4_fewestFacts 66 = .ok (.iconst 0, 1) := by decide +kernel
theorem dX4_fewestFacts_67 : decode cX4_fewestFacts 67 = .ok (.istore 8, 2) := by decide +kernel
theorem dX4_fewestFacts_69 : decode cX4_fewestFacts 69 = .ok (.iload 8, 2) := by decide +kernel
theorem dX4_fewestFacts_71 : decode cX4_fewestFacts 71 = .ok (.aload_n 0, 1) := by decide +kernel
theorem dX4_fewestFacts_72 : decode cX4_fewestFacts 72 = .ok (.getfield 25, 3) := by decide +kernel
theorem dX4_fewestFacts_75 : decode cX4_fewestFacts 75 = .ok (.arraylength, 1) := by decide +kernel
theorem dX4_fewestFacts_76 : decode cX4_fewestFacts 76 = .ok (.if_icmp .ge 63, 3) := by decide +kernel
theorem dX4_fewestFacts_79 : decode cX4_fewestFacts 79 = .ok (.iload 7, 2) := by decide +kernel
theorem dX4_fewestFacts_81 : decode cX4_fewestFacts 81 = .ok (.ifCond .lt 16, 3) := by decide +kernel
theorem dX4_fewestFacts_84 : decode cX4_fewestFacts 84 = .ok (.iload 8, 2) := by decide +kernel
theorem dX4_fewestFacts_86 : decode cX4_fewestFacts 86 = .ok (.invokestatic 159, 3) := by decide +kernel
theorem dX4_fewestFacts_89 : decode cX4_fewestFacts 89 = .ok (.iload 7, 2) := by decide +kernel
theorem dX4_fewestFacts_91 : decode cX4_fewestFacts 91 = .ok (.invokestatic 159, 3) := by decide +kernel
theorem dX4_fewestFacts_94 : decode cX4_fewestFacts 94 = .ok (.if_icmp .ge 7, 3) := by decide +kernel
theorem dX4_fewestFacts_97 : decode cX4_fewestFacts 97 = .ok (.iconst 1, 1) := by decide +kernel
theorem dX4_fewestFacts_98 : decode cX4_fewestFacts 98 = .ok (.goto 4, 3) := by decide +kernel
theorem dX4_fewestFacts_101 : decode cX4_fewestFacts 101 = .ok (.iconst 0, 1) := by decide +kernel
theorem dX4_fewestFacts_102 : decode cX4_fewestFacts 102 = .ok (.istore 9, 2) := by decide +kernel
theorem dX4_fewestFacts_104 : decode cX4_fewestFacts 104 = .ok (.iload 8, 2) := by decide +kernel
theorem dX4_fewestFacts_106 : decode cX4_fewestFacts 106 = .ok (.iload 6, 2) := by decide +kernel
theorem dX4_fewestFacts_108 : decode cX4_fewestFacts 108 = .ok (.iconst (-1), 1) := by decide +kernel
theorem dX4_fewestFacts_109 : decode cX4_fewestFacts 109 = .ok (.ixor, 1) := by decide +kernel
theorem dX4_fewestFacts_110 : decode cX4_fewestFacts 110 = .ok (.iand, 1) := by decide +kernel
theorem dX4_fewestFacts_111 : decode cX4_fewestFacts 111 = .ok (.ifCond .ne 22, 3) := by decide +kernel
theorem dX4_fewestFacts_114 : decode cX4_fewestFacts 114 = .ok (.aload_n 0, 1) := by decide +kernel
theorem dX4_fewestFacts_115 : decode cX4_fewestFacts 115 = .ok (.getfield 25, 3) := by decide +kernel
theorem dX4_fewestFacts_118 : decode cX4_fewestFacts 118 = .ok (.iload 8, 2) := by decide +kernel
theorem dX4_fewestFacts_120 : decode cX4_fewestFacts 120 = .ok (.baload, 1) := by decide +kernel
theorem dX4_fewestFacts_121 : decode cX4_fewestFacts 121 = .ok (.ifCond .ne 12, 3) := by decide +kernel
theorem dX4_fewestFacts_124 : decode cX4_fewestFacts 124 = .ok (.iload 9, 2) := by decide +kernel
theorem dX4_fewestFacts_126 : decode cX4_fewestFacts 126 = .ok (.ifCond .eq 7, 3) := by decide +kernel
theorem dX4_fewestFacts_129 : decode cX4_fewestFacts 129 = .ok (.iload 8, 2) := by decide +kernel
theorem dX4_fewestFacts_131 : decode cX4_fewestFacts 131 = .ok (.istore 7, 2) := by decide +kernel
theorem dX4_fewestFacts_133 : decode cX4_fewestFacts 133 = .ok (.iinc 8 1, 3) := by decide +kernel
theorem dX4_fewestFacts_136 : decode cX4_fewestFacts 136 = .ok (.goto (-67), 3) := by decide +kernel
theorem dX4_fewestFacts_139 : decode cX4_fewestFacts 139 = .ok (.iload 7, 2) := by decide +kernel
theorem dX4_fewestFacts_141 : decode cX4_fewestFacts 141 = .ok (.ireturn, 1) := by decide +kernel
theorem dX4_factsSo_0 : decode cX4_factsSo 0 = .ok (.iconst 0, 1) := by decide +kernel
theorem dX4_factsSo_1 : decode cX4_factsSo 1 = .ok (.istore_n 3, 1) := by decide +kernel
theorem dX4_factsSo_2 : decode cX4_factsSo 2 = .ok (.iconst 0, 1) := by decide +kernel
theorem dX4_factsSo_3 : decode cX4_factsSo 3 = .ok (.istore 4, 2) := by decide +kernel
theorem dX4_factsSo_5 : decode cX4_factsSo 5 = .ok (.iload 4, 2) := by decide +kernel
theorem dX4_factsSo_7 : decode cX4_factsSo 7 = .ok (.aload_n 1, 1) := by decide +kernel
theorem dX4_factsSo_8 : decode cX4_factsSo 8 = .ok (.getfield 134, 3) := by decide +kernel
theorem dX4_factsSo_11 : decode cX4_factsSo 11 = .ok (.getfield 138, 3) := by decide +kernel
theorem dX4_factsSo_14 : decode cX4_factsSo 14 = .ok (.if_icmp .ge 27, 3) := by decide +kernel
theorem dX4_factsSo_17 : decode cX4_factsSo 17 = .ok (.iload_n 3, 1) := by decide +kernel
theorem dX4_factsSo_18 : decode cX4_factsSo 18 = .ok (.aload_n 0, 1) := by decide +kernel
theorem dX4_factsSo_19 : decode cX4_factsSo 19 = .ok (.iload_n 2, 1) := by decide +kernel
theorem dX4_factsSo_20 : decode cX4_factsSo 20 = .ok (.aload_n 1, 1) := by decide +kernel
theorem dX4_factsSo_21 : decode cX4_factsSo 21 = .ok (.getfield 164, 3) := by decide +kernel
theorem dX4_factsSo_24 : decode cX4_factsSo 24 = .ok (.iload 4, 2) := by decide +kernel
theorem dX4_factsSo_26 : decode cX4_factsSo 26 = .ok (.iaload, 1) := by decide +kernel
theorem dX4_factsSo_27 : decode cX4_factsSo 27 = .ok (.invokevirtual 127, 3) := by decide +kernel
theorem dX4_factsSo_30 : decode cX4_factsSo 30 = .ok (.iload 4, 2) := by decide +kernel
theorem dX4_factsSo_32 : decode cX4_factsSo 32 = .ok (.ishl, 1) := by decide +kernel
theorem dX4_factsSo_33 : decode cX4_factsSo 33 = .ok (.ior, 1) := by decide +kernel
theorem dX4_factsSo_34 : decode cX4_factsSo 34 = .ok (.istore_n 3, 1) := by decide +kernel
theorem dX4_factsSo_35 : decode cX4_factsSo 35 = .ok (.iinc 4 1, 3) := by decide +kernel
theorem dX4_factsSo_38 : decode cX4_factsSo 38 = .ok (.goto (-33), 3) := by decide +kernel
theorem dX4_factsSo_41 : decode cX4_factsSo 41 = .ok (.iload_n 3, 1) := by decide +kernel
theorem dX4_factsSo_42 : decode cX4_factsSo 42 = .ok (.ireturn, 1) := by decide +kernel
theorem dX4_barRivals_0 : decode cX4_barRivals 0 = .ok (.iconst 0, 1) := by decide +kernel
theorem dX4_barRivals_1 : decode cX4_barRivals 1 = .ok (.istore 4, 2) := by decide +kernel
theorem dX4_barRivals_3 : decode cX4_barRivals 3 = .ok (.iload 4, 2) := by decide +kernel
theorem dX4_barRivals_5 : decode cX4_barRivals 5 = .ok (.aload_n 0, 1) := by decide +kernel
theorem dX4_barRivals_6 : decode cX4_barRivals 6 = .ok (.getfield 25, 3) := by decide +kernel
theorem dX4_barRivals_9 : decode cX4_barRivals 9 = .ok (.arraylength, 1) := by decide +kernel
theorem dX4_barRivals_10 : decode cX4_barRivals 10 = .ok (.if_icmp .ge 17, 3) := by decide +kernel
theorem dX4_barRivals_13 : decode cX4_barRivals 13 = .ok (.aload_n 0, 1) := by decide +kernel
theorem dX4_barRivals_14 : decode cX4_barRivals 14 = .ok (.getfield 25, 3) := by decide +kernel
theorem dX4_barRivals_17 : decode cX4_barRivals 17 = .ok (.iload 4, 2) := by decide +kernel
theorem dX4_barRivals_19 : decode cX4_barRivals 19 = .ok (.iconst 0, 1) := by decide +kernel
theorem dX4_barRivals_20 : decode cX4_barRivals 20 = .ok (.bastore, 1) := by decide +kernel
theorem dX4_barRivals_21 : decode cX4_barRivals 21 = .ok (.iinc 4 1, 3) := by decide +kernel
theorem dX4_barRivals_24 : decode cX4_barRivals 24 = .ok (.goto (-21), 3) := by decide +kernel
theorem dX4_barRivals_27 : decode cX4_barRivals 27 = .ok (.iconst 0, 1) := by decide +kernel
theorem dX4_barRivals_28 : decode cX4_barRivals 28 = .ok (.istore 4, 2) := by decide +kernel
theorem dX4_barRivals_30 : decode cX4_barRivals 30 = .ok (.iload 4, 2) := by decide +kernel
theorem dX4_barRivals_32 : decode cX4_barRivals 32 = .ok (.aload_n 2, 1) := by decide +kernel
theorem dX4_barRivals_33 : decode cX4_barRivals 33 = .ok (.getfield 85, 3) := by decide +kernel
theorem dX4_barRivals_36 : decode cX4_barRivals 36 = .ok (.if_icmp .ge 36, 3) := by decide +kernel
theorem dX4_barRivals_39 : decode cX4_barRivals 39 = .ok (.aload_n 2, 1) := by decide +kernel
theorem dX4_barRivals_40 : decode cX4_barRivals 40 = .ok (.iload 4, 2) := by decide +kernel
theorem dX4_barRivals_42 : decode cX4_barRivals 42 = .ok (.iload_n 3, 1) := by decide +kernel
theorem dX4_barRivals_43 : decode cX4_barRivals 43 = .ok (.invokestatic 167, 3) := by decide +kernel
theorem dX4_barRivals_46 : decode cX4_barRivals 46 = .ok (.ifCond .eq 20, 3) := by decide +kernel
theorem dX4_barRivals_49 : decode cX4_barRivals 49 = .ok (.aload_n 0, 1) := by decide +kernel
theorem dX4_barRivals_50 : decode cX4_barRivals 50 = .ok (.getfield 25, 3) := by decide +kernel
theorem dX4_barRivals_53 : decode cX4_barRivals 53 = .ok (.aload_n 0, 1) := by decide +kernel
theorem dX4_barRivals_54 : decode cX4_barRivals 54 = .ok (.aload_n 1, 1) := by decide +kernel
theorem dX4_barRivals_55 : decode cX4_barRivals 55 = .ok (.iload 4, 2) := by decide +kernel
theorem dX4_barRivals_57 : decode cX4_barRivals 57 = .ok (.invokevirtual 155, 3) := by decide +kernel
theorem dX4_barRivals_60 : decode cX4_barRivals 60 = .ok (.sipush 255, 3) := by decide +kernel
theorem dX4_barRivals_63 : decode cX4_barRivals 63 = .ok (.iand, 1) := by decide +kernel
theorem dX4_barRivals_64 : decode cX4_barRivals 64 = .ok (.iconst 1, 1) := by decide +kernel
theorem dX4_barRivals_65 : decode cX4_barRivals 65 = .ok (.bastore, 1) := by decide +kernel
theorem dX4_barRivals_66 : decode cX4_barRivals 66 = .ok (.iinc 4 1, 3) := by decide +kernel
theorem dX4_barRivals_69 : decode cX4_barRivals 69 = .ok (.goto (-39), 3) := by decide +kernel
theorem dX4_barRivals_72 : decode cX4_barRivals 72 = .ok (.aload_n 0, 1) := by decide +kernel
theorem dX4_barRivals_73 : decode cX4_barRivals 73 = .ok (.getfield 25, 3) := by decide +kernel
theorem dX4_barRivals_76 : decode cX4_barRivals 76 = .ok (.arraylength, 1) := by decide +kernel
theorem dX4_barRivals_77 : decode cX4_barRivals 77 = .ok (.iconst 1, 1) := by decide +kernel
theorem dX4_barRivals_78 : decode cX4_barRivals 78 = .ok (.isub, 1) := by decide +kernel
theorem dX4_barRivals_79 : decode cX4_barRivals 79 = .ok (.istore 4, 2) := by decide +kernel
theorem dX4_barRivals_81 : decode cX4_barRivals 81 = .ok (.iload 4, 2) := by decide +kernel
theorem dX4_barRivals_83 : decode cX4_barRivals 83 = .ok (.ifCond .le 58, 3) := by decide +kernel
theorem dX4_barRivals_86 : decode cX4_barRivals 86 = .ok (.iconst 0, 1) := by decide +kernel
theorem dX4_barRivals_87 : decode cX4_barRivals 87 = .ok (.istore 5, 2) := by decide +kernel
theorem dX4_barRivals_89 : decode cX4_barRivals 89 = .ok (.iload 5, 2) := by decide +kernel
theorem dX4_barRivals_91 : decode cX4_barRivals 91 = .ok (.bipush 8, 2) := by decide +kernel
theorem dX4_barRivals_93 : decode cX4_barRivals 93 = .ok (.if_icmp .ge 42, 3) := by decide +kernel
theorem dX4_barRivals_96 : decode cX4_barRivals 96 = .ok (.aload_n 0, 1) := by decide +kernel
theorem dX4_barRivals_97 : decode cX4_barRivals 97 = .ok (.getfield 25, 3) := by decide +kernel
theorem dX4_barRivals_100 : decode cX4_barRivals 100 = .ok (.iload 4, 2) := by decide +kernel
theorem dX4_barRivals_102 : decode cX4_barRivals 102 = .ok (.baload, 1) := by decide +kernel
theorem dX4_barRivals_103 : decode cX4_barRivals 103 = .ok (.ifCond .eq 26, 3) := by decide +kernel
theorem dX4_barRivals_106 : decode cX4_barRivals 106 = .ok (.iload 4, 2) := by decide +kernel
theorem dX4_barRivals_108 : decode cX4_barRivals 108 = .ok (.iload 5, 2) := by decide +kernel
theorem dX4_barRivals_110 : decode cX4_barRivals 110 = .ok (.ishr, 1) := by decide +kernel
theorem dX4_barRivals_111 : decode cX4_barRivals 111 = .ok (.iconst 1, 1) := by decide +kernel
theorem dX4_barRivals_112 : decode cX4_barRivals 112 = .ok (.iand, 1) := by decide +kernel
theorem dX4_barRivals_113 : decode cX4_barRivals 113 = .ok (.ifCond .eq 16, 3) := by decide +kernel
theorem dX4_barRivals_116 : decode cX4_barRivals 116 = .ok (.aload_n 0, 1) := by decide +kernel
theorem dX4_barRivals_117 : decode cX4_barRivals 117 = .ok (.getfield 25, 3) := by decide +kernel
theorem dX4_barRivals_120 : decode cX4_barRivals 120 = .ok (.iload 4, 2) := by decide +kernel
theorem dX4_barRivals_122 : decode cX4_barRivals 122 = .ok (.iconst 1, 1) := by decide +kernel
theorem dX4_barRivals_123 : decode cX4_barRivals 123 = .ok (.iload 5, 2) := by decide +kernel
theorem dX4_barRivals_125 : decode cX4_barRivals 125 = .ok (.ishl, 1) := by decide +kernel
theorem dX4_barRivals_126 : decode cX4_barRivals 126 = .ok (.ixor, 1) := by decide +kernel
theorem dX4_barRivals_127 : decode cX4_barRivals 127 = .ok (.iconst 1, 1) := by decide +kernel
theorem dX4_barRivals_128 : decode cX4_barRivals 128 = .ok (.bastore, 1) := by decide +kernel
theorem dX4_barRivals_129 : decode cX4_barRivals 129 = .ok (.iinc 5 1, 3) := by decide +kernel
theorem dX4_barRivals_132 : decode cX4_barRivals 132 = .ok (.goto (-43), 3) := by decide +kernel
theorem dX4_barRivals_135 : decode cX4_barRivals 135 = .ok (.iinc 4 (-1), 3) := by decide +kernel
theorem dX4_barRivals_138 : decode cX4_barRivals 138 = .ok (.goto (-57), 3) := by decide +kernel
theorem dX4_barRivals_141 : decode cX4_barRivals 141 = .ok (.return_, 1) := by decide +kernel
theorem dX4_isRival_0 : decode cX4_isRival 0 = .ok (.iconst 0, 1) := by decide +kernel
theorem dX4_isRival_1 : decode cX4_isRival 1 = .ok (.istore_n 3, 1) := by decide +kernel
theorem dX4_isRival_2 : decode cX4_isRival 2 = .ok (.iload_n 3, 1) := by decide +kernel
theorem dX4_isRival_3 : decode cX4_isRival 3 = .ok (.aload_n 0, 1) := by decide +kernel
theorem dX4_isRival_4 : decode cX4_isRival 4 = .ok (.getfield 99, 3) := by decide +kernel
theorem dX4_isRival_7 : decode cX4_isRival 7 = .ok (.if_icmp .ge 66, 3) := by decide +kernel
theorem dX4_isRival_10 : decode cX4_isRival 10 = .ok (.aload_n 0, 1) := by decide +kernel
theorem dX4_isRival_11 : decode cX4_isRival 11 = .ok (.getfield 88, 3) := by decide +kernel
theorem dX4_isRival_14 : decode cX4_isRival 14 = .ok (.iload_n 1, 1) := by decide +kernel
theorem dX4_isRival_15 : decode cX4_isRival 15 = .ok (.iaload, 1) := by decide +kernel
theorem dX4_isRival_16 : decode cX4_isRival 16 = .ok (.iload_n 3, 1) := by decide +kernel
theorem dX4_isRival_17 : decode cX4_isRival 17 = .ok (.invokestatic 91, 3) := by decide +kernel
theorem dX4_isRival_20 : decode cX4_isRival 20 = .ok (.aload_n 0, 1) := by decide +kernel
theorem dX4_isRival_21 : decode cX4_isRival 21 = .ok (.getfield 88, 3) := by decide +kernel
theorem dX4_isRival_24 : decode cX4_isRival 24 = .ok (.aload_n 0, 1) := by decide +kernel
theorem dX4_isRival_25 : decode cX4_isRival 25 = .ok (.getfield 152, 3) := by decide +kernel
theorem dX4_isRival_28 : decode cX4_isRival 28 = .ok (.iaload, 1) := by decide +kernel
theorem dX4_isRival_29 : decode cX4_isRival 29 = .ok (.iload_n 3, 1) := by decide +kernel
theorem dX4_isRival_30 : decode cX4_isRival 30 = .ok (.invokestatic 91, 3) := by decide +kernel
theorem dX4_isRival_33 : decode cX4_isRival 33 = .ok (.if_icmp .eq 7, 3) := by decide +kernel
theorem dX4_isRival_36 : decode cX4_isRival 36 = .ok (.iconst 1, 1) := by decide +kernel
theorem dX4_isRival_37 : decode cX4_isRival 37 = .ok (.goto 4, 3) := by decide +kernel
theorem dX4_isRival_40 : decode cX4_isRival 40 = .ok (.iconst 0, 1) := by decide +kernel
theorem dX4_isRival_41 : decode cX4_isRival 41 = .ok (.istore 4, 2) := by decide +kernel
theorem dX4_isRival_43 : decode cX4_isRival 43 = .ok (.iload_n 2, 1) := by decide +kernel
theorem dX4_isRival_44 : decode cX4_isRival 44 = .ok (.iload_n 3, 1) := by decide +kernel
theorem dX4_isRival_45 : decode cX4_isRival 45 = .ok (.ishr, 1) := by decide +kernel
theorem dX4_isRival_46 : decode cX4_isRival 46 = .ok (.iconst 1, 1) := by decide +kernel
theorem dX4_isRival_47 : decode cX4_isRival 47 = .ok (.iand, 1) := by decide +kernel
theorem dX4_isRival_48 : decode cX4_isRival 48 = .ok (.ifCond .eq 19, 3) := by decide +kernel
theorem dX4_isRival_51 : decode cX4_isRival 51 = .ok (.iload 4, 2) := by decide +kernel
theorem dX4_isRival_53 : decode cX4_isRival 53 = .ok (.ifCond .eq 14, 3) := by decide +kernel
theorem dX4_isRival_56 : decode cX4_isRival 56 = .ok (.aload_n 0, 1) := by decide +kernel
theorem dX4_isRival_57 : decode cX4_isRival 57 = .ok (.iload_n 1, 1) := by decide +kernel
theorem dX4_isRival_58 : decode cX4_isRival 58 = .ok (.iload_n 3, 1) := by decide +kernel
theorem dX4_isRival_59 : decode cX4_isRival 59 = .ok (.invokevirtual 130, 3) := by decide +kernel
theorem dX4_isRival_62 : decode cX4_isRival 62 = .ok (.ifCond .eq 5, 3) := by decide +kernel
theorem dX4_isRival_65 : decode cX4_isRival 65 = .ok (.iconst 1, 1) := by decide +kernel
theorem dX4_isRival_66 : decode cX4_isRival 66 = .ok (.ireturn, 1) := by decide +kernel
theorem dX4_isRival_67 : decode cX4_isRival 67 = .ok (.iinc 3 1, 3) := by decide +kernel
theorem dX4_isRival_70 : decode cX4_isRival 70 = .ok (.goto (-68), 3) := by decide +kernel
theorem dX4_isRival_73 : decode cX4_isRival 73 = .ok (.iconst 0, 1) := by decide +kernel
theorem dX4_isRival_74 : decode cX4_isRival 74 = .ok (.ireturn, 1) := by decide +kernel
theorem dX5_init_0 : decode cX5_init 0 = .ok (.aload_n 0, 1) := by decide +kernel
theorem dX5_init_1 : decode cX5_init 1 = .ok (.invokespecial 3, 3) := by decide +kernel
theorem dX5_init_4 : decode cX5_init 4 = .ok (.aload_n 0, 1) := by decide +kernel
theorem dX5_init_5 : decode cX5_init 5 = .ok (.iload_n 1, 1) := by decide +kernel
theorem dX5_init_6 : decode cX5_init 6 = .ok (.ifCond .le 7, 3) := by decide +kernel
theorem dX5_init_9 : decode cX5_init 9 = .ok (.iload_n 1, 1) := by decide +kernel
theorem dX5_init_10 : decode cX5_init 10 = .ok (.goto 4, 3) := by decide +kernel
theorem dX5_init_13 : decode cX5_init 13 = .ok (.iconst 0, 1) := by decide +kernel
theorem dX5_init_14 : decode cX5_init 14 = .ok (.newarray .int, 2) := by decide +kernel
theorem dX5_init_16 : decode cX5_init 16 = .ok (.putfield 9, 3) := by decide +kernel
theorem dX5_init_19 : decode cX5_init 19 = .ok (.return_, 1) := by decide +kernel
theorem dX5_isFull_0 : decode cX5_isFull 0 = .ok (.aload_n 0, 1) := by decide +kernel
theorem dX5_isFull_1 : decode cX5_isFull 1 = .ok (.getfield 15, 3) := by decide +kernel
theorem dX5_isFull_4 : decode cX5_isFull 4 = .ok (.aload_n 0, 1) := by decide +kernel
theorem dX5_isFull_5 : decode cX5_isFull 5 = .ok (.getfield 9, 3) := by decide +kernel
theorem dX5_isFull_8 : decode cX5_isFull 8 = .ok (.arraylength, 1) := by decide +kernel
theorem dX5_isFull_9 : decode cX5_isFull 9 = .ok (.if_icmp .lt 7, 3) := by decide +kernel
theorem dX5_isFull_12 : decode cX5_isFull 12 = .ok (.iconst 1, 1) := by decide +kernel
theorem dX5_isFull_13 : decode cX5_isFull 13 = .ok (.goto 4, 3) := by decide +kernel
theorem dX5_isFull_16 : decode cX5_isFull 16 = .ok (.iconst 0, 1) := by decide +kernel
theorem dX5_isFull_17 : decode cX5_isFull 17 = .ok (.ireturn, 1) := by decide +kernel
