theorem dX11_laysSights_0 : decode cX11_laysSights 0 = .ok (.iconst 0, 1) := by decide +kernel
theorem dX11_laysSights_1 : decode cX11_laysSights 1 = .ok (.istore_n 2, 1) := by decide +kernel
theorem dX11_laysSights_2 : decode cX11_laysSights 2 = .ok (.iload_n 2, 1) := by decide +kernel
theorem dX11_laysSights_3 : decode cX11_laysSights 3 = .ok (.sipush 729, 3) := by decide +kernel
theorem dX11_laysSights_6 : decode cX11_laysSights 6 = .ok (.if_icmp .ge 23, 3) := by decide +kernel
theorem dX11_laysSights_9 : decode cX11_laysSights 9 = .ok (.aload_n 0, 1) := by decide +kernel
theorem dX11_laysSights_10 : decode cX11_laysSights 10 = .ok (.getfield 109, 3) := by decide +kernel
theorem dX11_laysSights_13 : decode cX11_laysSights 13 = .ok (.iload_n 2, 1) := by decide +kernel
theorem dX11_laysSights_14 : decode cX11_laysSights 14 = .ok (.iconst 0, 1) := by decide +kernel
theorem dX11_laysSights_15 : decode cX11_laysSights 15 = .ok (.bastore, 1) := by decide +kernel
theorem dX11_laysSights_16 : decode cX11_laysSights 16 = .ok (.aload_n 0, 1) := by decide +kernel
theorem dX11_laysSights_17 : decode cX11_laysSights 17 = .ok (.getfield 112, 3) := by decide +kernel
theorem dX11_laysSights_20 : decode cX11_laysSights 20 = .ok (.iload_n 2, 1) := by decide +kernel
theorem dX11_laysSights_21 : decode cX11_laysSights 21 = .ok (.iconst (-1), 1) := by decide +kernel
theorem dX11_laysSights_22 : decode cX11_laysSights 22 = .ok (.iastore, 1) := by decide +kernel
theorem dX11_laysSights_23 : decode cX11_laysSights 23 = .ok (.iinc 2 1, 3) := by decide +kernel
theorem dX11_laysSights_26 : decode cX11_laysSights 26 = .ok (.goto (-24), 3) := by decide +kernel
theorem dX11_laysSights_29 : decode cX11_laysSights 29 = .ok (.iconst 0, 1) := by decide +kernel
theorem dX11_laysSights_30 : decode cX11_laysSights 30 = .ok (.istore_n 2, 1) := by decide +kernel
theorem dX11_laysSights_31 : decode cX11_laysSights 31 = .ok (.iload_n 2, 1) := by decide +kernel
theorem dX11_laysSights_32 : decode cX11_laysSights 32 = .ok (.aload_n 0, 1) := by decide +kernel
theorem dX11_laysSights_33 : decode cX11_laysSights 33 = .ok (.getfield 335, 3) := by decide +kernel
theorem dX11_laysSights_36 : decode cX11_laysSights 36 = .ok (.if_icmp .ge 151, 3) := by decide +kernel
theorem dX11_laysSights_39 : decode cX11_laysSights 39 = .ok (.iconst 0, 1) := by decide +kernel
theorem dX11_laysSights_40 : decode cX11_laysSights 40 = .ok (.istore_n 3, 1) := by decide +kernel
theorem dX11_laysSights_41 : decode cX11_laysSights 41 = .ok (.iconst 0, 1) := by decide +kernel
theorem dX11_laysSights_42 : decode cX11_laysSights 42 = .ok (.istore 4, 2) := by decide +kernel
theorem dX11_laysSights_44 : decode cX11_laysSights 44 = .ok (.iload 4, 2) := by decide +kernel
theorem dX11_laysSights_46 : decode cX11_laysSights 46 = .ok (.aload_n 0, 1) := by decide +kernel
theorem dX11_laysSights_47 : decode cX11_laysSights 47 = .ok (.getfield 13, 3) := by decide +kernel
theorem dX11_laysSights_50 : decode cX11_laysSights 50 = .ok (.iconst 1, 1) := by decide +kernel
theorem dX11_laysSights_51 : decode cX11_laysSights 51 = .ok (.iaload, 1) := by decide +kernel
theorem dX11_laysSights_52 : decode cX11_laysSights 52 = .ok (.if_icmp .ge 49, 3) := by decide +kernel
theorem dX11_laysSights_55 : decode cX11_laysSights 55 = .ok (.aload_n 0, 1) := by decide +kernel
theorem dX11_laysSights_56 : decode cX11_laysSights 56 = .ok (.getfield 90, 3) := by decide +kernel
theorem dX11_laysSights_59 : decode cX11_laysSights 59 = .ok (.bipush 6, 2) := by decide +kernel
theorem dX11_laysSights_61 : decode cX11_laysSights 61 = .ok (.aload_n 0, 1) := by decide +kernel
theorem dX11_laysSights_62 : decode cX11_laysSights 62 = .ok (.getfield 350, 3) := by decide +kernel
theorem dX11_laysSights_65 : decode cX11_laysSights 65 = .ok (.imul, 1) := by decide +kernel
theorem dX11_laysSights_66 : decode cX11_laysSights 66 = .ok (.iload_n 1, 1) := by decide +kernel
theorem dX11_laysSights_67 : decode cX11_laysSights 67 = .ok (.iadd, 1) := by decide +kernel
theorem dX11_laysSights_68 : decode cX11_laysSights 68 = .ok (.iaload, 1) := by decide +kernel
theorem dX11_laysSights_69 : decode cX11_laysSights 69 = .ok (.iload 4, 2) := by decide +kernel
theorem dX11_laysSights_71 : decode cX11_laysSights 71 = .ok (.ishr, 1) := by decide +kernel
theorem dX11_laysSights_72 : decode cX11_laysSights 72 = .ok (.iconst 1, 1) := by decide +kernel
theorem dX11_laysSights_73 : decode cX11_laysSights 73 = .ok (.iand, 1) := by decide +kernel
theorem dX11_laysSights_74 : decode cX11_laysSights 74 = .ok (.iconst 1, 1) := by decide +kernel
theorem dX11_laysSights_75 : decode cX11_laysSights 75 = .ok (.if_icmp .ne 20, 3) := by decide +kernel
theorem dX11_laysSights_78 : decode cX11_laysSights 78 = .ok (.iconst 3, 1) := by decide +kernel
theorem dX11_laysSights_79 : decode cX11_laysSights 79 = .ok (.iload_n 3, 1) := by decide +kernel
theorem dX11_laysSights_80 : decode cX11_laysSights 80 = .ok (.imul, 1) := by decide +kernel
theorem dX11_laysSights_81 : decode cX11_laysSights 81 = .ok (.aload_n 0, 1) := by decide +kernel
theorem dX11_laysSights_82 : decode cX11_laysSights 82 = .ok (.getfield 72, 3) := by decide +kernel
theorem dX11_laysSights_85 : decode cX11_laysSights 85 = .ok (.bipush 6, 2) := by decide +kernel
theorem dX11_laysSights_87 : decode cX11_laysSights 87 = .ok (.iload_n 2, 1) := by decide +kernel
theorem dX11_laysSights_88 : decode cX11_laysSights 88 = .ok (.imul, 1) := by decide +kernel
theorem dX11_laysSights_89 : decode cX11_laysSights 89 = .ok (.iload 4, 2) := by decide +kernel
theorem dX11_laysSights_91 : decode cX11_laysSights 91 = .ok (.iadd, 1) := by decide +kernel
theorem dX11_laysSights_92 : decode cX11_laysSights 92 = .ok (.iaload, 1) := by decide +kernel
theorem dX11_laysSights_93 : decode cX11_laysSights 93 = .ok (.iadd, 1) := by decide +kernel
theorem dX11_laysSights_94 : decode cX11_laysSights 94 = .ok (.istore_n 3, 1) := by decide +kernel
theorem dX11_laysSights_95 : decode cX11_laysSights 95 = .ok (.iinc 4 1, 3) := by decide +kernel
theorem dX11_laysSights_98 : decode cX11_laysSights 98 = .ok (.goto (-54), 3) := by decide +kernel
theorem dX11_laysSights_101 : decode cX11_laysSights 101 = .ok (.aload_n 0, 1) := by decide +kernel
theorem dX11_laysSights_102 : decode cX11_laysSights 102 = .ok (.getfield 100, 3) := by decide +kernel
theorem dX11_laysSights_105 : decode cX11_laysSights 105 = .ok (.sipush 729, 3) := by decide +kernel
theorem dX11_laysSights_108 : decode cX11_laysSights 108 = .ok (.iload_n 1, 1) := by decide +kernel
theorem dX11_laysSights_109 : decode cX11_laysSights 109 = .ok (.imul, 1) := by decide +kernel
theorem dX11_laysSights_110 : decode cX11_laysSights 110 = .ok (.iload_n 2, 1) := by decide +kernel
theorem dX11_laysSights_111 : decode cX11_laysSights 111 = .ok (.iadd, 1) := by decide +kernel
theorem dX11_laysSights_112 : decode cX11_laysSights 112 = .ok (.iload_n 3, 1) := by decide +kernel
theorem dX11_laysSights_113 : decode cX11_laysSights 113 = .ok (.iastore, 1) := by decide +kernel
theorem dX11_laysSights_114 : decode cX11_laysSights 114 = .ok (.aload_n 0, 1) := by decide +kernel
theorem dX11_laysSights_115 : decode cX11_laysSights 115 = .ok (.iload_n 2, 1) := by decide +kernel
theorem dX11_laysSights_116 : decode cX11_laysSights 116 = .ok (.invokevirtual 362, 3) := by decide +kernel
theorem dX11_laysSights_119 : decode cX11_laysSights 119 = .ok (.ifCond .ne 6, 3) := by decide +kernel
theorem dX11_laysSights_122 : decode cX11_laysSights 122 = .ok (.goto 59, 3) := by decide +kernel
theorem dX11_laysSights_125 : decode cX11_laysSights 125 = .ok (.aload_n 0, 1) := by decide +kernel
theorem dX11_laysSights_126 : decode cX11_laysSights 126 = .ok (.getfield 72, 3) := by decide +kernel
theorem dX11_laysSights_129 : decode cX11_laysSights 129 = .ok (.bipush 6, 2) := by decide +kernel
theorem dX11_laysSights_131 : decode cX11_laysSights 131 = .ok (.iload_n 2, 1) := by decide +kernel
theorem dX11_laysSights_132 : decode cX11_laysSights 132 = .ok (.imul, 1) := by decide +kernel
theorem dX11_laysSights_133 : decode cX11_laysSights 133 = .ok (.iload_n 1, 1) := by decide +kernel
theorem dX11_laysSights_134 : decode cX11_laysSights 134 = .ok (.iadd, 1) := by decide +kernel
theorem dX11_laysSights_135 : decode cX11_laysSights 135 = .ok (.iaload, 1) := by decide +kernel
theorem dX11_laysSights_136 : decode cX11_laysSights 136 = .ok (.istore 4, 2) := by decide +kernel
theorem dX11_laysSights_138 : decode cX11_laysSights 138 = .ok (.aload_n 0, 1) := by decide +kernel
theorem dX11_laysSights_139 : decode cX11_laysSights 139 = .ok (.getfield 112, 3) := by decide +kernel
theorem dX11_laysSights_142 : decode cX11_laysSights 142 = .ok (.iload_n 3, 1) := by decide +kernel
theorem dX11_laysSights_143 : decode cX11_laysSights 143 = .ok (.iaload, 1) := by decide +kernel
theorem dX11_laysSights_144 : decode cX11_laysSights 144 = .ok (.iconst (-1), 1) := by decide +kernel
theorem dX11_laysSights_145 : decode cX11_laysSights 145 = .ok (.if_icmp .ne 11, 3) := by decide +kernel
theorem dX11_laysSights_148 : decode cX11_laysSights 148 = .ok (.aload_n 0, 1) := by decide +kernel
theorem dX11_laysSights_149 : decode cX11_laysSights 149 = .ok (.getfield 112, 3) := by decide +kernel
theorem dX11_laysSights_152 : decode cX11_laysSights 152 = .ok (.iload_n 3, 1) := by decide +kernel
theorem dX11_laysSights_153 : decode cX11_laysSights 153 = .ok (.iload 4, 2) := by decide +kernel
theorem dX11_laysSights_155 : decode cX11_laysSights 155 = .ok (.iastore, 1) := by decide +kernel
theorem dX11_laysSights_156 : decode cX11_laysSights 156 = .ok (.aload_n 0, 1) := by decide +kernel
theorem dX11_laysSights_157 : decode cX11_laysSights 157 = .ok (.getfield 109, 3) := by decide +kernel
theorem dX11_laysSights_160 : decode cX11_laysSights 160 = .ok (.iload_n 3, 1) := by decide +kernel
theorem dX11_laysSights_161 : decode cX11_laysSights 161 = .ok (.dup2, 1) := by decide +kernel
theorem dX11_laysSights_162 : decode cX11_laysSights 162 = .ok (.baload, 1) := by decide +kernel
theorem dX11_laysSights_163 : decode cX11_laysSights 163 = .ok (.aload_n 0, 1) := by decide +kernel
theorem dX11_laysSights_164 : decode cX11_laysSights 164 = .ok (.getfield 112, 3) := by decide +kernel
theorem dX11_laysSights_167 : decode cX11_laysSights 167 = .ok (.iload_n 3, 1) := by decide +kernel
theorem dX11_laysSights_168 : decode cX11_laysSights 168 = .ok (.iaload, 1) := by decide +kernel
theorem dX11_laysSights_169 : decode cX11_laysSights 169 = .ok (.iload 4, 2) := by decide +kernel
theorem dX11_laysSights_171 : decode cX11_laysSights 171 = .ok (.if_icmp .eq 7, 3) := by decide +kernel
theorem dX11_laysSights_174 : decode cX11_laysSights 174 = .ok (.iconst 1, 1) := by decide +kernel
theorem dX11_laysSights_175 : decode cX11_laysSights 175 = .ok (.goto 4, 3) := by decide +kernel
theorem dX11_laysSights_178 : decode cX11_laysSights 178 = .ok (.iconst 0, 1) := by decide +kernel
theorem dX11_laysSights_179 : decode cX11_laysSights 179 = .ok (.ior, 1) := by decide +kernel
theorem dX11_laysSights_180 : decode cX11_laysSights 180 = .ok (.bastore, 1) := by decide +kernel
theorem dX11_laysSights_181 : decode cX11_laysSights 181 = .ok (.iinc 2 1, 3) := by decide +kernel
theorem dX11_laysSights_184 : decode cX11_laysSights 184 = .ok (.goto (-153), 3) := by decide +kernel
theorem dX11_laysSights_187 : decode cX11_laysSights 187 = .ok (.iconst 0, 1) := by decide +kernel
theorem dX11_laysSights_188 : decode cX11_laysSights 188 = .ok (.istore_n 2, 1) := by decide +kernel
theorem dX11_laysSights_189 : decode cX11_laysSights 189 = .ok (.iload_n 2, 1) := by decide +kernel
theorem dX11_laysSights_190 : decode cX11_laysSights 190 = .ok (.aload_n 0, 1) := by decide +kernel
theorem dX11_laysSights_191 : decode cX11_laysSights 191 = .ok (.getfield 335, 3) := by decide +kernel
theorem dX11_laysSights_194 : decode cX11_laysSights 194 = .ok (.if_icmp .ge 54, 3) := by decide +kernel
theorem dX11_laysSights_197 : decode cX11_laysSights 197 = .ok (.aload_n 0, 1) := by decide +kernel
theorem dX11_laysSights_198 : decode cX11_laysSights 198 = .ok (.getfield 103, 3) := by decide +kernel
theorem dX11_laysSights_201 : decode cX11_laysSights 201 = .ok (.sipush 729, 3) := by decide +kernel
theorem dX11_laysSights_204 : decode cX11_laysSights 204 = .ok (.iload_n 1, 1) := by decide +kernel
theorem dX11_laysSights_205 : decode cX11_laysSights 205 = .ok (.imul, 1) := by decide +kernel
theorem dX11_laysSights_206 : decode cX11_laysSights 206 = .ok (.iload_n 2, 1) := by decide +kernel
theorem dX11_laysSights_207 : decode cX11_laysSights 207 = .ok (.iadd, 1) := by decide +kernel
theorem dX11_laysSights_208 : decode cX11_laysSights 208 = .ok (.aload_n 0, 1) := by decide +kernel
theorem dX11_laysSights_209 : decode cX11_laysSights 209 = .ok (.iload_n 2, 1) := by decide +kernel
theorem dX11_laysSights_210 : decode cX11_laysSights 210 = .ok (.invokevirtual 362, 3) := by decide +kernel
theorem dX11_laysSights_213 : decode cX11_laysSights 213 = .ok (.ifCond .eq 27, 3) := by decide +kernel
theorem dX11_laysSights_216 : decode cX11_laysSights 216 = .ok (.aload_n 0, 1) := by decide +kernel
theorem dX11_laysSights_217 : decode cX11_laysSights 217 = .ok (.getfield 109, 3) := by decide +kernel
theorem dX11_laysSights_220 : decode cX11_laysSights 220 = .ok (.aload_n 0, 1) := by decide +kernel
theorem dX11_laysSights_221 : decode cX11_laysSights 221 = .ok (.getfield 100, 3) := by decide +kernel
theorem dX11_laysSights_224 : decode cX11_laysSights 224 = .ok (.sipush 729, 3) := by decide +kernel
theorem dX11_laysSights_227 : decode cX11_laysSights 227 = .ok (.iload_n 1, 1) := by decide +kernel
theorem dX11_laysSights_228 : decode cX11_laysSights 228 = .ok (.imul, 1) := by decide +kernel
theorem dX11_laysSights_229 : decode cX11_laysSights 229 = .ok (.iload_n 2, 1) := by decide +kernel
theorem dX11_laysSights_230 : decode cX11_laysSights 230 = .ok (.iadd, 1) := by decide +kernel
theorem dX11_laysSights_231 : decode cX11_laysSights 231 = .ok (.iaload, 1) := by decide +kernel
theorem dX11_laysSights_232 : decode cX11_laysSights 232 = .ok (.baload, 1) := by decide +kernel
theorem dX11_laysSights_233 : decode cX11_laysSights 233 = .ok (.ifCond .ne 7, 3) := by decide +kernel
theorem dX11_laysSights_236 : decode cX11_laysSights 236 = .ok (.iconst 1, 1) := by decide +kernel
theorem dX11_laysSights_237 : decode cX11_laysSights 237 = .ok (.goto 4, 3) := by decide +kernel
theorem dX11_laysSights_240 : decode cX11_laysSights 240 = .ok (.iconst 0, 1) := by decide +kernel
theorem dX11_laysSights_241 : decode cX11_laysSights 241 = .ok (.bastore, 1) := by decide +kernel
theorem dX11_laysSights_242 : decode cX11_laysSights 242 = .ok (.iinc 2 1, 3) := by decide +kernel
theorem dX11_laysSights_245 : decode cX11_laysSights 245 = .ok (.goto (-56), 3) := by decide +kernel
theorem dX11_laysSights_248 : decode cX11_laysSights 248 = .ok (.return_, 1) := by decide +kernel
theorem dX11_laysParts_0 : decode cX11_laysParts 0 = .ok (.iconst 0, 1) := by decide +kernel
theorem dX11_laysParts_1 : decode cX11_laysParts 1 = .ok (.istore_n 1, 1) := by decide +kernel
theorem dX11_laysParts_2 : decode cX11_laysParts 2 = .ok (.iload_n 1, 1) := by decide +kernel
theorem dX11_laysParts_3 : decode cX11_laysParts 3 = .ok (.aload_n 0, 1) := by decide +kernel
theorem dX11_laysParts_4 : decode cX11_laysParts 4 = .ok (.getfield 335, 3) := by decide +kernel
theorem dX11_laysParts_7 : decode cX11_laysParts 7 = .ok (.if_icmp .ge 16, 3) := by decide +kernel
theorem dX11_laysParts_10 : decode cX11_laysParts 10 = .ok (.aload_n 0, 1) := by decide +kernel
theorem dX11_laysParts_11 : decode cX11_laysParts 11 = .ok (.getfield 106, 3) := by decide +kernel
theorem dX11_laysParts_14 : decode cX11_laysParts 14 = .ok (.iload_n 1, 1) := by decide +kernel
theorem dX11_laysParts_15 : decode cX11_laysParts 15 = .ok (.iload_n 1, 1) := by decide +kernel
theorem dX11_laysParts_16 : decode cX11_laysParts 16 = .ok (.iastore, 1) := by decide +kernel
theorem dX11_laysParts_17 : decode cX11_laysParts 17 = .ok (.iinc 1 1, 3) := by decide +kernel
theorem dX11_laysParts_20 : decode cX11_laysParts 20 = .ok (.goto (-18), 3) := by decide +kernel
theorem dX11_laysParts_23 : decode cX11_laysParts 23 = .ok (.iconst 1, 1) := by decide +kernel
theorem dX11_laysParts_24 : decode cX11_laysParts 24 = .ok (.istore_n 1, 1) := by decide +kernel
theorem dX11_laysParts_25 : decode cX11_laysParts 25 = .ok (.iload_n 1, 1) := by decide +kernel
theorem dX11_laysParts_26 : decode cX11_laysParts 26 = .ok (.ifCond .eq 34, 3) := by decide +kernel
theorem dX11_laysParts_29 : decode cX11_laysParts 29 = .ok (.iconst 0, 1) := by decide +kernel
theorem dX11_laysParts_30 : decode cX11_laysParts 30 = .ok (.istore_n 1, 1) := by decide +kernel
theorem dX11_laysParts_31 : decode cX11_laysParts 31 = .ok (.iconst 0, 1) := by decide +kernel
theorem dX11_laysParts_32 : decode cX11_laysParts 32 = .ok (.istore_n 2, 1) := by decide +kernel
theorem dX11_laysParts_33 : decode cX11_laysParts 33 = .ok (.iload_n 2, 1) := by decide +kernel
theorem dX11_laysParts_34 : decode cX11_laysParts 34 = .ok (.aload_n 0, 1) := by decide +kernel
theorem dX11_laysParts_35 : decode cX11_laysParts 35 = .ok (.getfield 13, 3) := by decide +kernel
theorem dX11_laysParts_38 : decode cX11_laysParts 38 = .ok (.iconst 1, 1) := by decide +kernel
theorem dX11_laysParts_39 : decode cX11_laysParts 39 = .ok (.iaload, 1) := by decide +kernel
theorem dX11_laysParts_40 : decode cX11_laysParts 40 = .ok (.if_icmp .ge 17, 3) := by decide +kernel
theorem dX11_laysParts_43 : decode cX11_laysParts 43 = .ok (.iload_n 1, 1) := by decide +kernel
theorem dX11_laysParts_44 : decode cX11_laysParts 44 = .ok (.aload_n 0, 1) := by decide +kernel
theorem dX11_laysParts_45 : decode cX11_laysParts 45 = .ok (.iload_n 2, 1) := by decide +kernel
theorem dX11_laysParts_46 : decode cX11_laysParts 46 = .ok (.invokevirtual 365, 3) := by decide +kernel
theorem dX11_laysParts_49 : decode cX11_laysParts 49 = .ok (.ior, 1) := by decide +kernel
theorem dX11_laysParts_50 : decode cX11_laysParts 50 = .ok (.istore_n 1, 1) := by decide +kernel
theorem dX11_laysParts_51 : decode cX11_laysParts 51 = .ok (.iinc 2 1, 3) := by decide +kernel
theorem dX11_laysParts_54 : decode cX11_laysParts 54 = .ok (.goto (-21), 3) := by decide +kernel
theorem dX11_laysParts_57 : decode cX11_laysParts 57 = .ok (.goto (-32), 3) := by decide +kernel
theorem dX11_laysParts_60 : decode cX11_laysParts 60 = .ok (.return_, 1) := by decide +kernel
theorem dX11_spreads_0 : decode cX11_spreads 0 = .ok (.iconst 0, 1) := by decide +kernel
theorem dX11_spreads_1 : decode cX11_spreads 1 = .ok (.istore_n 2, 1) := by decide +kernel
theorem dX11_spreads_2 : decode cX11_spreads 2 = .ok (.iconst 0, 1) := by decide +kernel
theorem dX11_spreads_3 : decode cX11_spreads 3 = .ok (.istore_n 3, 1) := by decide +kernel
theorem dX11_spreads_4 : decode cX11_spreads 4 = .ok (.iload_n 3, 1) := by decide +kernel
theorem dX11_spreads_5 : decode cX11_spreads 5 = .ok (.sipush 729, 3) := by decide +kernel
theorem dX11_spreads_8 : decode cX11_spreads 8 = .ok (.if_icmp .ge 18, 3) := by decide +kernel
theorem dX11_spreads_11 : decode cX11_spreads 11 = .ok (.aload_n 0, 1) := by decide +kernel
theorem dX11_spreads_12 : decode cX11_spreads 12 = .ok (.getfield 112, 3) := by decide +kernel
theorem dX11_spreads_15 : decode cX11_spreads 15 = .ok (.iload_n 3, 1) := by decide +kernel
theorem dX11_spreads_16 : decode cX11_spreads 16 = .ok (.sipush 729, 3) := by decide +kernel
theorem dX11_spreads_19 : decode cX11_spreads 19 = .ok (.iastore, 1) := by decide +kernel
theorem dX11_spreads_20 : decode cX11_spreads 20 = .ok (.iinc 3 1, 3) := by decide +kernel
theorem dX11_spreads_23 : decode cX11_spreads 23 = .ok (.goto (-19), 3) := by decide +kernel
theorem dX11_spreads_26 : decode cX11_spreads 26 = .ok (.iconst 0, 1) := by decide +kernel
theorem dX11_spreads_27 : decode cX11_spreads 27 = .ok (.istore_n 3, 1) := by decide +kernel
theorem dX11_spreads_28 : decode cX11_spreads 28 = .ok (.iload_n 3, 1) := by decide +kernel
theorem dX11_spreads_29 : decode cX11_spreads 29 = .ok (.aload_n 0, 1) := by decide +kernel
theorem dX11_spreads_30 : decode cX11_spreads 30 = .ok (.getfield 335, 3) := by decide +kernel
theorem dX11_spreads_33 : decode cX11_spreads 33 = .ok (.if_icmp .ge 54, 3) := by decide +kernel
theorem dX11_spreads_36 : decode cX11_spreads 36 = .ok (.aload_n 0, 1) := by decide +kernel
theorem dX11_spreads_37 : decode cX11_spreads 37 = .ok (.getfield 100, 3) := by decide +kernel
theorem dX11_spreads_40 : decode cX11_spreads 40 = .ok (.sipush 729, 3) := by decide +kernel
theorem dX11_spreads_43 : decode cX11_spreads 43 = .ok (.iload_n 1, 1) := by decide +kernel
theorem dX11_spreads_44 : decode cX11_spreads 44 = .ok (.imul, 1) := by decide +kernel
theorem dX11_spreads_45 : decode cX11_spreads 45 = .ok (.iload_n 3, 1) := by decide +kernel
theorem dX11_spreads_46 : decode cX11_spreads 46 = .ok (.iadd, 1) := by decide +kernel
theorem dX11_spreads_47 : decode cX11_spreads 47 = .ok (.iaload, 1) := by decide +kernel
theorem dX11_spreads_48 : decode cX11_spreads 48 = .ok (.istore 4, 2) := by decide +kernel
theorem dX11_spreads_50 : decode cX11_spreads 50 = .ok (.aload_n 0, 1) := by decide +kernel
theorem dX11_spreads_51 : decode cX11_spreads 51 = .ok (.iload_n 3, 1) := by decide +kernel
theorem dX11_spreads_52 : decode cX11_spreads 52 = .ok (.invokevirtual 362, 3) := by decide +kernel
theorem dX11_spreads_55 : decode cX11_spreads 55 = .ok (.ifCond .eq 26, 3) := by decide +kernel
theorem dX11_spreads_58 : decode cX11_spreads 58 = .ok (.aload_n 0, 1) := by decide +kernel
theorem dX11_spreads_59 : decode cX11_spreads 59 = .ok (.getfield 112, 3) := by decide +kernel
theorem dX11_spreads_62 : decode cX11_spreads 62 = .ok (.iload 4, 2) := by decide +kernel
theorem dX11_spreads_64 : decode cX11_spreads 64 = .ok (.aload_n 0, 1) := by decide +kernel
theorem dX11_spreads_65 : decode cX11_spreads 65 = .ok (.getfield 112, 3) := by decide +kernel
theorem dX11_spreads_68 : decode cX11_spreads 68 = .ok (.iload 4, 2) := by decide +kernel
theorem dX11_spreads_70 : decode cX11_spreads 70 = .ok (.iaload, 1) := by decide +kernel
theorem dX11_spreads_71 : decode cX11_spreads 71 = .ok (.aload_n 0, 1) := by decide +kernel
theorem dX11_spreads_72 : decode cX11_spreads 72 = .ok (.getfield 106, 3) := by decide +kernel
theorem dX11_spreads_75 : decode cX11_spreads 75 = .ok (.iload_n 3, 1) := by decide +kernel
theorem dX11_spreads_76 : decode cX11_spreads 76 = .ok (.iaload, 1) := by decide +kernel
theorem dX11_spreads_77 : decode cX11_spreads 77 = .ok (.invokestatic 368, 3) := by decide +kernel
theorem dX11_spreads_80 : decode cX11_spreads 80 = .ok (.iastore, 1) := by decide +kernel
theorem dX11_spreads_81 : decode cX11_spreads 81 = .ok (.iinc 3 1, 3) := by decide +kernel
theorem dX11_spreads_84 : decode cX11_spreads 84 = .ok (.goto (-56), 3) := by decide +kernel
theorem dX11_spreads_87 : decode cX11_spreads 87 = .ok (.iconst 0, 1) := by decide +kernel
theorem dX11_spreads_88 : decode cX11_spreads 88 = .ok (.istore_n 3, 1) := by decide +kernel
theorem dX11_spreads_89 : decode cX11_spreads 89 = .ok (.iload_n 3, 1) := by decide +kernel
theorem dX11_spreads_90 : decode cX11_spreads 90 = .ok (.aload_n 0, 1) := by decide +kernel
theorem dX11_spreads_91 : decode cX11_spreads 91 = .ok (.getfield 335, 3) := by decide +kernel
theorem dX11_spreads_94 : decode cX11_spreads 94 = .ok (.if_icmp .ge 65, 3) := by decide +kernel
theorem dX11_spreads_97 : decode cX11_spreads 97 = .ok (.aload_n 0, 1) := by decide +kernel
theorem dX11_spreads_98 : decode cX11_spreads 98 = .ok (.getfield 100, 3) := by decide +kernel
theorem dX11_spreads_101 : decode cX11_spreads 101 = .ok (.sipush 729, 3) := by decide +kernel
theorem dX11_spreads_104 : decode cX11_spreads 104 = .ok (.iload_n 1, 1) := by decide +kernel
theorem dX11_spreads_105 : decode cX11_spreads 105 = .ok (.imul, 1) := by decide +kernel
theorem dX11_spreads_106 : decode cX11_spreads 106 = .ok (.iload_n 3, 1) := by decide +kernel
theorem dX11_spreads_107 : decode cX11_spreads 107 = .ok (.iadd, 1) := by decide +kernel
theorem dX11_spreads_108 : decode cX11_spreads 108 = .ok (.iaload, 1) := by decide +kernel
theorem dX11_spreads_109 : decode cX11_spreads 109 = .ok (.istore 4, 2) := by decide +kernel
theorem dX11_spreads_111 : decode cX11_spreads 111 = .ok (.aload_n 0, 1) := by decide +kernel
theorem dX11_spreads_112 : decode cX11_spreads 112 = .ok (.iload_n 3, 1) := by decide +kernel
theorem dX11_spreads_113 : decode cX11_spreads 113 = .ok (.invokevirtual 362, 3) := by decide +kernel
theorem dX11_spreads_116 : decode cX11_spreads 116 = .ok (.ifCond .eq 37, 3) := by decide +kernel
theorem dX11_spreads_119 : decode cX11_spreads 119 = .ok (.aload_n 0, 1) := by decide +kernel
theorem dX11_spreads_120 : decode cX11_spreads 120 = .ok (.getfield 112, 3) := by decide +kernel
theorem dX11_spreads_123 : decode cX11_spreads 123 = .ok (.iload 4, 2) := by decide +kernel
theorem dX11_spreads_125 : decode cX11_spreads 125 = .ok (.iaload, 1) := by decide +kernel
theorem dX11_spreads_126 : decode cX11_spreads 126 = .ok (.aload_n 0, 1) := by decide +kernel
theorem dX11_spreads_127 : decode cX11_spreads 127 = .ok (.getfield 106, 3) := by decide +kernel
theorem dX11_spreads_130 : decode cX11_spreads 130 = .ok (.iload_n 3, 1) := by decide +kernel
theorem dX11_spreads_131 : decode cX11_spreads 131 = .ok (.iaload, 1) := by decide +kernel
theorem dX11_spreads_132 : decode cX11_spreads 132 = .ok (.if_icmp .ne 6, 3) := by decide +kernel
theorem dX11_spreads_135 : decode cX11_spreads 135 = .ok (.goto 18, 3) := by decide +kernel
theorem dX11_spreads_138 : decode cX11_spreads 138 = .ok (.aload_n 0, 1) := by decide +kernel
theorem dX11_spreads_139 : decode cX11_spreads 139 = .ok (.getfield 106, 3) := by decide +kernel
theorem dX11_spreads_142 : decode cX11_spreads 142 = .ok (.iload_n 3, 1) := by decide +kernel
theorem dX11_spreads_143 : decode cX11_spreads 143 = .ok (.aload_n 0, 1) := by decide +kernel
theorem dX11_spreads_144 : decode cX11_spreads 144 = .ok (.getfield 112, 3) := by decide +kernel
theorem dX11_spreads_147 : decode cX11_spreads 147 = .ok (.iload 4, 2) := by decide +kernel
theorem dX11_spreads_149 : decode cX11_spreads 149 = .ok (.iaload, 1) := by decide +kernel
theorem dX11_spreads_150 : decode cX11_spreads 150 = .ok (.iastore, 1) := by decide +kernel
theorem dX11_spreads_151 : decode cX11_spreads 151 = .ok (.iconst 1, 1) := by decide +kernel
theorem dX11_spreads_152 : decode cX11_spreads 152 = .ok (.istore_n 2, 1) := by decide +kernel
theorem dX11_spreads_153 : decode cX11_spreads 153 = .ok (.iinc 3 1, 3) := by decide +kernel
theorem dX11_spreads_156 : decode cX11_spreads 156 = .ok (.goto (-67), 3) := by decide +kernel
theorem dX11_spreads_159 : decode cX11_spreads 159 = .ok (.iload_n 2, 1) := by decide +kernel
theorem dX11_spreads_160 : decode cX11_spreads 160 = .ok (.ireturn, 1) := by decide +kernel
theorem dX11_top_0 : decode cX11_top 0 = .ok (.sipush 729, 3) := by decide +kernel
theorem dX11_top_3 : decode cX11_top 3 = .ok (.aload_n 0, 1) := by decide +kernel
theorem dX11_top_4 : decode cX11_top 4 = .ok (.getfield 371, 3) := by decide +kernel
theorem dX11_top_7 : decode cX11_top 7 = .ok (.iconst 1, 1) := by decide +kernel
theorem dX11_top_8 : decode cX11_top 8 = .ok (.isub, 1) := by decide +kernel
theorem dX11_top_9 : decode cX11_top 9 = .ok (.imul, 1) := by decide +kernel
theorem dX11_top_10 : decode cX11_top 10 = .ok (.ireturn, 1) := by decide +kernel
theorem dX11_knownTo_0 : decode cX11_knownTo 0 = .ok (.iconst 0, 1) := by decide +kernel
theorem dX11_knownTo_1 : decode cX11_knownTo 1 = .ok (.istore 4, 2) := by decide +kernel
theorem dX11_knownTo_3 : decode cX11_knownTo 3 = .ok (.iload 4, 2) := by decide +kernel
theorem dX11_knownTo_5 : decode cX11_knownTo 5 = .ok (.sipush 729, 3) := by decide +kernel
theorem dX11_knownTo_8 : decode cX11_knownTo 8 = .ok (.if_icmp .ge 17, 3) := by decide +kernel
theorem dX11_knownTo_11 : decode cX11_knownTo 11 = .ok (.aload_n 0, 1) := by decide +kernel
theorem dX11_knownTo_12 : decode cX11_knownTo 12 = .ok (.getfield 109, 3) := by decide +kernel
theorem dX11_knownTo_15 : decode cX11_knownTo 15 = .ok (.iload 4, 2) := by decide +kernel
theorem dX11_knownTo_17 : decode cX11_knownTo 17 = .ok (.iconst 0, 1) := by decide +kernel
theorem dX11_knownTo_18 : decode cX11_knownTo 18 = .ok (.bastore, 1) := by decide +kernel
theorem dX11_knownTo_19 : decode cX11_knownTo 19 = .ok (.iinc 4 1, 3) := by decide +kernel
theorem dX11_knownTo_22 : decode cX11_knownTo 22 = .ok (.goto (-19), 3) := by decide +kernel
theorem dX11_knownTo_25 : decode cX11_knownTo 25 = .ok (.iconst 0, 1) := by decide +kernel
theorem dX11_knownTo_26 : decode cX11_knownTo 26 = .ok (.istore 4, 2) := by decide +kernel
theorem dX11_knownTo_28 : decode cX11_knownTo 28 = .ok (.iload 4, 2) := by decide +kernel
theorem dX11_knownTo_30 : decode cX11_knownTo 30 = .ok (.aload_n 0, 1) := by decide +kernel
theorem dX11_knownTo_31 : decode cX11_knownTo 31 = .ok (.getfield 335, 3) := by decide +kernel
theorem dX11_knownTo_34 : decode cX11_knownTo 34 = .ok (.if_icmp .ge 49, 3) := by decide +kernel
theorem dX11_knownTo_37 : decode cX11_knownTo 37 = .ok (.aload_n 0, 1) := by decide +kernel
theorem dX11_knownTo_38 : decode cX11_knownTo 38 = .ok (.iload 4, 2) := by decide +kernel
theorem dX11_knownTo_40 : decode cX11_knownTo 40 = .ok (.invokevirtual 362, 3) := by decide +kernel
theorem dX11_knownTo_43 : decode cX11_knownTo 43 = .ok (.ifCond .eq 34, 3) := by decide +kernel
theorem dX11_knownTo_46 : decode cX11_knownTo 46 = .ok (.aload_n 0, 1) := by decide +kernel
theorem dX11_knownTo_47 : decode cX11_knownTo 47 = .ok (.getfield 119, 3) := by decide +kernel
theorem dX11_knownTo_50 : decode cX11_knownTo 50 = .ok (.iload_n 2, 1) := by decide +kernel
theorem dX11_knownTo_51 : decode cX11_knownTo 51 = .ok (.iload 4, 2) := by decide +kernel
theorem dX11_knownTo_53 : decode cX11_knownTo 53 = .ok (.iadd, 1) := by decide +kernel
theorem dX11_knownTo_54 : decode cX11_knownTo 54 = .ok (.baload, 1) := by decide +kernel
theorem dX11_knownTo_55 : decode cX11_knownTo 55 = .ok (.ifCond .ne 22, 3) := by decide +kernel
theorem dX11_knownTo_58 : decode cX11_knownTo 58 = .ok (.aload_n 0, 1) := by decide +kernel
theorem dX11_knownTo_59 : decode cX11_knownTo 59 = .ok (.getfield 109, 3) := by decide +kernel
theorem dX11_knownTo_62 : decode cX11_knownTo 62 = .ok (.aload_n 0, 1) := by decide +kernel
theorem dX11_knownTo_63 : decode cX11_knownTo 63 = .ok (.getfield 100, 3) := by decide +kernel
theorem dX11_knownTo_66 : decode cX11_knownTo 66 = .ok (.sipush 729, 3) := by decide +kernel
theorem dX11_knownTo_69 : decode cX11_knownTo 69 = .ok (.iload_n 1, 1) := by decide +kernel
theorem dX11_knownTo_70 : decode cX11_knownTo 70 = .ok (.imul, 1) := by decide +kernel
theorem dX11_knownTo_71 : decode cX11_knownTo 71 = .ok (.iload 4, 2) := by decide +kernel
theorem dX11_knownTo_73 : decode cX11_knownTo 73 = .ok (.iadd, 1) := by decide +kernel
theorem dX11_knownTo_74 : decode cX11_knownTo 74 = .ok (.iaload, 1) := by decide +kernel
theorem dX11_knownTo_75 : decode cX11_knownTo 75 = .ok (.iconst 1, 1) := by decide +kernel
theorem dX11_knownTo_76 : decode cX11_knownTo 76 = .ok (.bastore, 1) := by decide +kernel
theorem dX11_knownTo_77 : decode cX11_knownTo 77 = .ok (.iinc 4 1, 3) := by decide +kernel
theorem dX11_knownTo_80 : decode cX11_knownTo 80 = .ok (.goto (-52), 3) := by decide +kernel
theorem dX11_knownTo_83 : decode cX11_knownTo 83 = .ok (.iconst 0, 1) := by decide +kernel
theorem dX11_knownTo_84 : decode cX11_knownTo 84 = .ok (.istore 4, 2) := by decide +kernel
theorem dX11_knownTo_86 : decode cX11_knownTo 86 = .ok (.iload 4, 2) := by decide +kernel
theorem dX11_knownTo_88 : decode cX11_knownTo 88 = .ok (.aload_n 0, 1) := by decide +kernel
theorem dX11_knownTo_89 : decode cX11_knownTo 89 = .ok (.getfield 335, 3) := by decide +kernel
theorem dX11_knownTo_92 : decode cX11_knownTo 92 = .ok (.if_icmp .ge 47, 3) := by decide +kernel
theorem dX11_knownTo_95 : decode cX11_knownTo 95 = .ok (.aload_n 0, 1) := by decide +kernel
theorem dX11_knownTo_96 : decode cX11_knownTo 96 = .ok (.getfield 119, 3) := by decide +kernel
theorem dX11_knownTo_99 : decode cX11_knownTo 99 = .ok (.iload_n 3, 1) := by decide +kernel
theorem dX11_knownTo_100 : decode cX11_knownTo 100 = .ok (.iload 4, 2) := by decide +kernel
theorem dX11_knownTo_102 : decode cX11_knownTo 102 = .ok (.iadd, 1) := by decide +kernel
theorem dX11_knownTo_103 : decode cX11_knownTo 103 = .ok (.dup2, 1) := by decide +kernel
theorem dX11_knownTo_104 : decode cX11_knownTo 104 = .ok (.baload, 1) := by decide +kernel
theorem dX11_knownTo_105 : decode cX11_knownTo 105 = .ok (.aload_n 0, 1) := by decide +kernel
theorem dX11_knownTo_106 : decode cX11_knownTo 106 = .ok (.getfield 109, 3) := by decide +kernel
theorem dX11_knownTo_109 : decode cX11_knownTo 109 = .ok (.aload_n 0, 1) := by decide +kernel
theorem dX11_knownTo_110 : decode cX11_knownTo 110 = .ok (.getfield 100, 3) := by decide +kernel
theorem dX11_knownTo_113 : decode cX11_knownTo 113 = .ok (.sipush 729, 3) := by decide +kernel
theorem dX11_knownTo_116 : decode cX11_knownTo 116 = .ok (.iload_n 1, 1) := by decide +kernel
theorem dX11_knownTo_117 : decode cX11_knownTo 117 = .ok (.imul, 1) := by decide +kernel
theorem dX11_knownTo_118 : decode cX11_knownTo 118 = .ok (.iload 4, 2) := by decide +kernel
theorem dX11_knownTo_120 : decode cX11_knownTo 120 = .ok (.iadd, 1) := by decide +kernel
theorem dX11_knownTo_121 : decode cX11_knownTo 121 = .ok (.iaload, 1) := by decide +kernel
theorem dX11_knownTo_122 : decode cX11_knownTo 122 = .ok (.baload, 1) := by decide +kernel
theorem dX11_knownTo_123 : decode cX11_knownTo 123 = .ok (.ifCond .ne 7, 3) := by decide +kernel
theorem dX11_knownTo_126 : decode cX11_knownTo 126 = .ok (.iconst 1, 1) := by decide +kernel
theorem dX11_knownTo_127 : decode cX11_knownTo 127 = .ok (.goto 4, 3) := by decide +kernel
theorem dX11_knownTo_130 : decode cX11_knownTo 130 = .ok (.iconst 0, 1) := by decide +kernel
theorem dX11_knownTo_131 : decode cX11_knownTo 131 = .ok (.iand, 1) := by decide +kernel
theorem dX11_knownTo_132 : decode cX11_knownTo 132 = .ok (.bastore, 1) := by decide +kernel
theorem dX11_knownTo_133 : decode cX11_knownTo 133 = .ok (.iinc 4 1, 3) := by decide +kernel
theorem dX11_knownTo_136 : decode cX11_knownTo 136 = .ok (.goto (-50), 3) := by decide +kernel
theorem dX11_knownTo_139 : decode cX11_knownTo 139 = .ok (.return_, 1) := by decide +kernel
theorem dX11_knownByAll_0 : decode cX11_knownByAll 0 = .ok (.aload_n 0, 1) := by decide +kernel
theorem dX11_knownByAll_1 : decode cX11_knownByAll 1 = .ok (.invokevirtual 374, 3) := by decide +kernel
theorem dX11_knownByAll_4 : decode cX11_knownByAll 4 = .ok (.istore_n 1, 1) := by decide +kernel
theorem dX11_knownByAll_5 : decode cX11_knownByAll 5 = .ok (.iload_n 1, 1) := by decide +kernel
theorem dX11_knownByAll_6 : decode cX11_knownByAll 6 = .ok (.sipush 729, 3) := by decide +kernel
theorem dX11_knownByAll_9 : decode cX11_knownByAll 9 = .ok (.iadd, 1) := by decide +kernel
theorem dX11_knownByAll_10 : decode cX11_knownByAll 10 = .ok (.istore_n 2, 1) := by decide +kernel
theorem dX11_knownByAll_11 : decode cX11_knownByAll 11 = .ok (.iconst 0, 1) := by decide +kernel
theorem dX11_knownByAll_12 : decode cX11_knownByAll 12 = .ok (.istore_n 3, 1) := by decide +kernel
theorem dX11_knownByAll_13 : decode cX11_knownByAll 13 = .ok (.iload_n 3, 1) := by decide +kernel
theorem dX11_knownByAll_14 : decode cX11_knownByAll 14 = .ok (.aload_n 0, 1) := by decide +kernel
theorem dX11_knownByAll_15 : decode cX11_knownByAll 15 = .ok (.getfield 335, 3) := by decide +kernel
theorem dX11_knownByAll_18 : decode cX11_knownByAll 18 = .ok (.if_icmp .ge 42, 3) := by decide +kernel
theorem dX11_knownByAll_21 : decode cX11_knownByAll 21 = .ok (.aload_n 0, 1) := by decide +kernel
theorem dX11_knownByAll_22 : decode cX11_knownByAll 22 = .ok (.getfield 119, 3) := by decide +kernel
theorem dX11_knownByAll_25 : decode cX11_knownByAll 25 = .ok (.iload_n 2, 1) := by decide +kernel
theorem dX11_knownByAll_26 : decode cX11_knownByAll 26 = .ok (.iload_n 3, 1) := by decide +kernel
theorem dX11_knownByAll_27 : decode cX11_knownByAll 27 = .ok (.iadd, 1) := by decide +kernel
theorem dX11_knownByAll_28 : decode cX11_knownByAll 28 = .ok (.aload_n 0, 1) := by decide +kernel
theorem dX11_knownByAll_29 : decode cX11_knownByAll 29 = .ok (.getfield 13, 3) := by decide +kernel
theorem dX11_knownByAll_32 : decode cX11_knownByAll 32 = .ok (.iconst 1, 1) := by decide +kernel
theorem dX11_knownByAll_33 : decode cX11_knownByAll 33 = .ok (.iaload, 1) := by decide +kernel
theorem dX11_knownByAll_34 : decode cX11_knownByAll 34 = .ok (.ifCond .gt 14, 3) := by decide +kernel
theorem dX11_knownByAll_37 : decode cX11_knownByAll 37 = .ok (.aload_n 0, 1) := by decide +kernel
theorem dX11_knownByAll_38 : decode cX11_knownByAll 38 = .ok (.getfield 119, 3) := by decide +kernel
theorem dX11_knownByAll_41 : decode cX11_knownByAll 41 = .ok (.iload_n 1, 1) := by decide +kernel
theorem dX11_knownByAll_42 : decode cX11_knownByAll 42 = .ok (.iload_n 3, 1) := by decide +kernel
theorem dX11_knownByAll_43 : decode cX11_knownByAll 43 = .ok (.iadd, 1) := by decide +kernel
theorem dX11_knownByAll_44 : decode cX11_knownByAll 44 = .ok (.baload, 1) := by decide +kernel
theorem dX11_knownByAll_45 : decode cX11_knownByAll 45 = .ok (.ifCond .eq 7, 3) := by decide +kernel
theorem dX11_knownByAll_48 : decode cX11_knownByAll 48 = .ok (.iconst 1, 1) := by decide +kernel
theorem dX11_knownByAll_49 : decode cX11_knownByAll 49 = .ok (.goto 4, 3) := by decide +kernel
theorem dX11_knownByAll_52 : decode cX11_knownByAll 52 = .ok (.iconst 0, 1) := by decide +kernel
theorem dX11_knownByAll_53 : decode cX11_knownByAll 53 = .ok (.bastore, 1) := by decide +kernel
theorem dX11_knownByAll_54 : decode cX11_knownByAll 54 = .ok (.iinc 3 1, 3) := by decide +kernel
theorem dX11_knownByAll_57 : decode cX11_knownByAll 57 = .ok (.goto (-44), 3) := by decide +kernel
theorem dX11_knownByAll_60 : decode cX11_knownByAll 60 = .ok (.aload_n 0, 1) := by decide +kernel
theorem dX11_knownByAll_61 : decode cX11_knownByAll 61 = .ok (.getfield 13, 3) := by decide +kernel
theorem dX11_knownByAll_64 : decode cX11_knownByAll 64 = .ok (.iconst 1, 1) := by decide +kernel
theorem dX11_knownByAll_65 : decode cX11_knownByAll 65 = .ok (.iaload, 1) := by decide +kernel
theorem dX11_knownByAll_66 : decode cX11_knownByAll 66 = .ok (.ifCond .ne 8, 3) := by decide +kernel
theorem dX11_knownByAll_69 : decode cX11_knownByAll 69 = .ok (.aload_n 0, 1) := by decide +kernel
theorem dX11_knownByAll_70 : decode cX11_knownByAll 70 = .ok (.iload_n 2, 1) := by decide +kernel
theorem dX11_knownByAll_71 : decode cX11_knownByAll 71 = .ok (.invokevirtual 377, 3) := by decide +kernel
theorem dX11_knownByAll_74 : decode cX11_knownByAll 74 = .ok (.iconst 0, 1) := by decide +kernel
theorem dX11_knownByAll_75 : decode cX11_knownByAll 75 = .ok (.istore_n 3, 1) := by decide +kernel
theorem dX11_knownByAll_76 : decode cX11_knownByAll 76 = .ok (.iload_n 3, 1) := by decide +kernel
theorem dX11_knownByAll_77 : decode cX11_knownByAll 77 = .ok (.aload_n 0, 1) := by decide +kernel
theorem dX11_knownByAll_78 : decode cX11_knownByAll 78 = .ok (.getfield 13, 3) := by decide +kernel
theorem dX11_knownByAll_81 : decode cX11_knownByAll 81 = .ok (.iconst 1, 1) := by decide +kernel
theorem dX11_knownByAll_82 : decode cX11_knownByAll 82 = .ok (.iaload, 1) := by decide +kernel
theorem dX11_knownByAll_83 : decode cX11_knownByAll 83 = .ok (.if_icmp .ge 16, 3) := by decide +kernel
theorem dX11_knownByAll_86 : decode cX11_knownByAll 86 = .ok (.aload_n 0, 1) := by decide +kernel
theorem dX11_knownByAll_87 : decode cX11_knownByAll 87 = .ok (.iload_n 3, 1) := by decide +kernel
theorem dX11_knownByAll_88 : decode cX11_knownByAll 88 = .ok (.iload_n 1, 1) := by decide +kernel
theorem dX11_knownByAll_89 : decode cX11_knownByAll 89 = .ok (.iload_n 2, 1) := by decide +kernel
theorem dX11_knownByAll_90 : decode cX11_knownByAll 90 = .ok (.invokevirtual 380, 3) := by decide +kernel
theorem dX11_knownByAll_93 : decode cX11_knownByAll 93 = .ok (.iinc 3 1, 3) := by decide +kernel
theorem dX11_knownByAll_96 : decode cX11_knownByAll 96 = .ok (.goto (-20), 3) := by decide +kernel
theorem dX11_knownByAll_99 : decode cX11_knownByAll 99 = .ok (.iconst 0, 1) := by decide +kernel
theorem dX11_knownByAll_100 : decode cX11_knownByAll 100 = .ok (.istore_n 3, 1) := by decide +kernel
theorem dX11_knownByAll_101 : decode cX11_knownByAll 101 = .ok (.iload_n 3, 1) := by decide +kernel
theorem dX11_knownByAll_102 : decode cX11_knownByAll 102 = .ok (.aload_n 0, 1) := by decide +kernel
theorem dX11_knownByAll_103 : decode cX11_knownByAll 103 = .ok (.getfield 335, 3) := by decide +kernel
theorem dX11_knownByAll_106 : decode cX11_knownByAll 106 = .ok (.if_icmp .ge 25, 3) := by decide +kernel
theorem dX11_knownByAll_109 : decode cX11_knownByAll 109 = .ok (.aload_n 0, 1) := by decide +kernel
theorem dX11_knownByAll_110 : decode cX11_knownByAll 110 = .ok (.getfield 119, 3) := by decide +kernel
theorem dX11_knownByAll_113 : decode cX11_knownByAll 113 = .ok (.iload_n 1, 1) := by decide +kernel
theorem dX11_knownByAll_114 : decode cX11_knownByAll 114 = .ok (.iload_n 3, 1) := by decide +kernel
theorem dX11_knownByAll_115 : decode cX11_knownByAll 115 = .ok (.iadd, 1) := by decide +kernel
theorem dX11_knownByAll_116 : decode cX11_knownByAll 116 = .ok (.aload_n 0, 1) := by decide +kernel
theorem dX11_knownByAll_117 : decode cX11_knownByAll 117 = .ok (.getfield 119, 3) := by decide +kernel
theorem dX11_knownByAll_120 : decode cX11_knownByAll 120 = .ok (.iload_n 2, 1) := by decide +kernel
theorem dX11_knownByAll_121 : decode cX11_knownByAll 121 = .ok (.iload_n 3, 1) := by decide +kernel
theorem dX11_knownByAll_122 : decode cX11_knownByAll 122 = .ok (.iadd, 1) := by decide +kernel
theorem dX11_knownByAll_123 : decode cX11_knownByAll 123 = .ok (.baload, 1) := by decide +kernel
theorem dX11_knownByAll_124 : decode cX11_knownByAll 124 = .ok (.bastore, 1) := by decide +kernel
theorem dX11_knownByAll_125 : decode cX11_knownByAll 125 = .ok (.iinc 3 1, 3) := by decide +kernel
theorem dX11_knownByAll_128 : decode cX11_knownByAll 128 = .ok (.goto (-27), 3) := by decide +kernel
theorem dX11_knownByAll_131 : decode cX11_knownByAll 131 = .ok (.return_, 1) := by decide +kernel
theorem dX11_fills_0 : decode cX11_fills 0 = .ok (.iconst 0, 1) := by decide +kernel
theorem dX11_fills_1 : decode cX11_fills 1 = .ok (.istore_n 2, 1) := by decide +kernel
theorem dX11_fills_2 : decode cX11_fills 2 = .ok (.iload_n 2, 1) := by decide +kernel
theorem dX11_fills_3 : decode cX11_fills 3 = .ok (.aload_n 0, 1) := by decide +kernel
theorem dX11_fills_4 : decode cX11_fills 4 = .ok (.getfield 335, 3) := by decide +kernel
theorem dX11_fills_7 : decode cX11_fills 7 = .ok (.if_icmp .ge 18, 3) := by decide +kernel
theorem dX11_fills_10 : decode cX11_fills 10 = .ok (.aload_n 0, 1) := by decide +kernel
theorem dX11_fills_11 : decode cX11_fills 11 = .ok (.getfield 119, 3) := by decide +kernel
theorem dX11_fills_14 : decode cX11_fills 14 = .ok (.iload_n 1, 1) := by decide +kernel
theorem dX11_fills_15 : decode cX11_fills 15 = .ok (.iload_n 2, 1) := by decide +kernel
theorem dX11_fills_16 : decode cX11_fills 16 = .ok (.iadd, 1) := by decide +kernel
theorem dX11_fills_17 : decode cX11_fills 17 = .ok (.iconst 1, 1) := by decide +kernel
theorem dX11_fills_18 : decode cX11_fills 18 = .ok (.bastore, 1) := by decide +kernel
theorem dX11_fills_19 : decode cX11_fills 19 = .ok (.iinc 2 1, 3) := by decide +kernel
theorem dX11_fills_22 : decode cX11_fills 22 = .ok (.goto (-20), 3) := by decide +kernel
theorem dX11_fills_25 : decode cX11_fills 25 = .ok (.return_, 1) := by decide +kernel
theorem dX11_knownTogether_0 : decode cX11_knownTogether 0 = .ok (.aload_n 0, 1) := by decide +kernel
theorem dX11_knownTogether_1 : decode cX11_knownTogether 1 = .ok (.invokevirtual 374, 3) := by decide +kernel
theorem dX11_knownTogether_4 : decode cX11_knownTogether 4 = .ok (.istore_n 1, 1) := by decide +kernel
theorem dX11_knownTogether_5 : decode cX11_knownTogether 5 = .ok (.iconst 0, 1) := by decide +kernel
theorem dX11_knownTogether_6 : decode cX11_knownTogether 6 = .ok (.istore_n 2, 1) := by decide +kernel
theorem dX11_knownTogether_7 : decode cX11_knownTogether 7 = .ok (.iload_n 2, 1) := by decide +kernel
theorem dX11_knownTogether_8 : decode cX11_knownTogether 8 = .ok (.sipush 729, 3) := by decide +kernel
theorem dX11_knownTogether_11 : decode cX11_knownTogether 11 = .ok (.if_icmp .ge 16, 3) := by decide +kernel
theorem dX11_knownTogether_14 : decode cX11_knownTogether 14 = .ok (.aload_n 0, 1) := by decide +kernel
theorem dX11_knownTogether_15 : decode cX11_knownTogether 15 = .ok (.getfield 109, 3) := by decide +kernel
theorem dX11_knownTogether_18 : decode cX11_knownTogether 18 = .ok (.iload_n 2, 1) := by decide +kernel
theorem dX11_knownTogether_19 : decode cX11_knownTogether 19 = .ok (.iconst 0, 1) := by decide +kernel
theorem dX11_knownTogether_20 : decode cX11_knownTogether 20 = .ok (.bastore, 1) := by decide +kernel
theorem dX11_knownTogether_21 : decode cX11_knownTogether 21 = .ok (.iinc 2 1, 3) := by decide +kernel
theorem dX11_knownTogether_24 : decode cX11_knownTogether 24 = .ok (.goto (-17), 3) := by decide +kernel
theorem dX11_knownTogether_27 : decode cX11_knownTogether 27 = .ok (.iconst 0, 1) := by decide +kernel
theorem dX11_knownTogether_28 : decode cX11_knownTogether 28 = .ok (.istore_n 2, 1) := by decide +kernel
theorem dX11_knownTogether_29 : decode cX11_knownTogether 29 = .ok (.iload_n 2, 1) := by decide +kernel
theorem dX11_knownTogether_30 : decode cX11_knownTogether 30 = .ok (.aload_n 0, 1) := by decide +kernel
theorem dX11_knownTogether_31 : decode cX11_knownTogether 31 = .ok (.getfield 335, 3) := by decide +kernel
theorem dX11_knownTogether_34 : decode cX11_knownTogether 34 = .ok (.if_icmp .ge 40, 3) := by decide +kernel
theorem dX11_knownTogether_37 : decode cX11_knownTogether 37 = .ok (.aload_n 0, 1) := by decide +kernel
theorem dX11_knownTogether_38 : decode cX11_knownTogether 38 = .ok (.iload_n 2, 1) := by decide +kernel
theorem dX11_knownTogether_39 : decode cX11_knownTogether 39 = .ok (.invokevirtual 362, 3) := by decide +kernel
theorem dX11_knownTogether_42 : decode cX11_knownTogether 42 = .ok (.ifCond .eq 26, 3) := by decide +kernel
theorem dX11_knownTogether_45 : decode cX11_knownTogether 45 = .ok (.aload_n 0, 1) := by decide +kernel
theorem dX11_knownTogether_46 : decode cX11_knownTogether 46 = .ok (.getfield 119, 3) := by decide +kernel
theorem dX11_knownTogether_49 : decode cX11_knownTogether 49 = .ok (.iload_n 1, 1) := by decide +kernel
theorem dX11_knownTogether_50 : decode cX11_knownTogether 50 = .ok (.iload_n 2, 1) := by decide +kernel
theorem dX11_knownTogether_51 : decode cX11_knownTogether 51 = .ok (.iadd, 1) := by decide +kernel
theorem dX11_knownTogether_52 : decode cX11_knownTogether 52 = .ok (.baload, 1) := by decide +kernel
theorem dX11_knownTogether_53 : decode cX11_knownTogether 53 = .ok (.ifCond .ne 15, 3) := by decide +kernel
theorem dX11_knownTogether_56 : decode cX11_knownTogether 56 = .ok (.aload_n 0, 1) := by decide +kernel
theorem dX11_knownTogether_57 : decode cX11_knownTogether 57 = .ok (.getfield 109, 3) := by decide +kernel
theorem dX11_knownTogether_60 : decode cX11_knownTogether 60 = .ok (.aload_n 0, 1) := by decide +kernel
theorem dX11_knownTogether_61 : decode cX11_knownTogether 61 = .ok (.getfield 106, 3) := by decide +kernel
theorem dX11_knownTogether_64 : decode cX11_knownTogether 64 = .ok (.iload_n 2, 1) := by decide +kernel
theorem dX11_knownTogether_65 : decode cX11_knownTogether 65 = .ok (.iaload, 1) := by decide +kernel
theorem dX11_knownTogether_66 : decode cX11_knownTogether 66 = .ok (.iconst 1, 1) := by decide +kernel
theorem dX11_knownTogether_67 : decode cX11_knownTogether 67 = .ok (.bastore, 1) := by decide +kernel
theorem dX11_knownTogether_68 : decode cX11_knownTogether 68 = .ok (.iinc 2 1, 3) := by decide +kernel
theorem dX11_knownTogether_71 : decode cX11_knownTogether 71 = .ok (.goto (-42), 3) := by decide +kernel
theorem dX11_knownTogether_74 : decode cX11_knownTogether 74 = .ok (.iconst 0, 1) := by decide +kernel
theorem dX11_knownTogether_75 : decode cX11_knownTogether 75 = .ok (.istore_n 2, 1) := by decide +kernel
theorem dX11_knownTogether_76 : decode cX11_knownTogether 76 = .ok (.iload_n 2, 1) := by decide +kernel
theorem dX11_knownTogether_77 : decode cX11_knownTogether 77 = .ok (.aload_n 0, 1) := by decide +kernel
theorem dX11_knownTogether_78 : decode cX11_knownTogether 78 = .ok (.getfield 335, 3) := by decide +kernel
theorem dX11_knownTogether_81 : decode cX11_knownTogether 81 = .ok (.if_icmp .ge 36, 3) := by decide +kernel
theorem dX11_knownTogether_84 : decode cX11_knownTogether 84 = .ok (.aload_n 0, 1) := by decide +kernel
theorem dX11_knownTogether_85 : decode cX11_knownTogether 85 = .ok (.getfield 119, 3) := by decide +kernel
theorem dX11_knownTogether_88 : decode cX11_knownTogether 88 = .ok (.iload_n 1, 1) := by decide +kernel
theorem dX11_knownTogether_89 : decode cX11_knownTogether 89 = .ok (.iload_n 2, 1) := by decide +kernel
theorem dX11_knownTogether_90 : decode cX11_knownTogether 90 = .ok (.iadd, 1) := by decide +kernel
theorem dX11_knownTogether_91 : decode cX11_knownTogether 91 = .ok (.aload_n 0, 1) := by decide +kernel
theorem dX11_knownTogether_92 : decode cX11_knownTogether 92 = .ok (.getfield 109, 3) := by decide +kernel
theorem dX11_knownTogether_95 : decode cX11_knownTogether 95 = .ok (.aload_n 0, 1) := by decide +kernel
theorem dX11_knownTogether_96 : decode cX11_knownTogether 96 = .ok (.getfield 106, 3) := by decide +kernel
theorem dX11_knownTogether_99 : decode cX11_knownTogether 99 = .ok (.iload_n 2, 1) := by decide +kernel
theorem dX11_knownTogether_100 : decode cX11_knownTogether 100 = .ok (.iaload, 1) := by decide +kernel
theorem dX11_knownTogether_101 : decode cX11_knownTogether 101 = .ok (.baload, 1) := by decide +kernel
theorem dX11_knownTogether_102 : decode cX11_knownTogether 102 = .ok (.ifCond .ne 7, 3) := by decide +kernel
theorem dX11_knownTogether_105 : decode cX11_knownTogether 105 = .ok (.iconst 1, 1) := by decide +kernel
theorem dX11_knownTogether_106 : decode cX11_knownTogether 106 = .ok (.goto 4, 3) := by decide +kernel
theorem dX11_knownTogether_109 : decode cX11_knownTogether 109 = .ok (.iconst 0, 1) := by decide +kernel
theorem dX11_knownTogether_110 : decode cX11_knownTogether 110 = .ok (.bastore, 1) := by decide +kernel
theorem dX11_knownTogether_111 : decode cX11_knownTogether 111 = .ok (.iinc 2 1, 3) := by decide +kernel
theorem dX11_knownTogether_114 : decode cX11_knownTogether 114 = .ok (.goto (-38), 3) := by decide +kernel
theorem dX11_knownTogether_117 : decode cX11_knownTogether 117 = .ok (.return_, 1) := by decide +kernel
theorem dX11_joins_0 : decode cX11_joins 0 = .ok (.aload_n 0, 1) := by decide +kernel
theorem dX11_joins_1 : decode cX11_joins 1 = .ok (.invokevirtual 374, 3) := by decide +kernel
theorem dX11_joins_4 : decode cX11_joins 4 = .ok (.istore_n 2, 1) := by decide +kernel
theorem dX11_joins_5 : decode cX11_joins 5 = .ok (.iload_n 1, 1) := by decide +kernel
theorem dX11_joins_6 : decode cX11_joins 6 = .ok (.sipush 260, 3) := by decide +kernel
theorem dX11_joins_9 : decode cX11_joins 9 = .ok (.if_icmp .ne 44, 3) := by decide +kernel
theorem dX11_joins_12 : decode cX11_joins 12 = .ok (.iconst 0, 1) := by decide +kernel
theorem dX11_joins_13 : decode cX11_joins 13 = .ok (.istore_n 3, 1) := by decide +kernel
theorem dX11_joins_14 : decode cX11_joins 14 = .ok (.iload_n 3, 1) := by decide +kernel
theorem dX11_joins_15 : decode cX11_joins 15 = .ok (.aload_n 0, 1) := by decide +kernel
theorem dX11_joins_16 : decode cX11_joins 16 = .ok (.getfield 335, 3) := by decide +kernel
theorem dX11_joins_19 : decode cX11_joins 19 = .ok (.if_icmp .ge 33, 3) := by decide +kernel
theorem dX11_joins_22 : decode cX11_joins 22 = .ok (.aload_n 0, 1) := by decide +kernel
theorem dX11_joins_23 : decode cX11_joins 23 = .ok (.getfield 119, 3) := by decide +kernel
theorem dX11_joins_26 : decode cX11_joins 26 = .ok (.iload_n 2, 1) := by decide +kernel
theorem dX11_joins_27 : decode cX11_joins 27 = .ok (.iload_n 3, 1) := by decide +kernel
theorem dX11_joins_28 : decode cX11_joins 28 = .ok (.iadd, 1) := by decide +kernel
theorem dX11_joins_29 : decode cX11_joins 29 = .ok (.aload_n 0, 1) := by decide +kernel
theorem dX11_joins_30 : decode cX11_joins 30 = .ok (.getfield 119, 3) := by decide +kernel
theorem dX11_joins_33 : decode cX11_joins 33 = .ok (.iload_n 2, 1) := by decide +kernel
theorem dX11_joins_34 : decode cX11_joins 34 = .ok (.iload_n 3, 1) := by decide +kernel
theorem dX11_joins_35 : decode cX11_joins 35 = .ok (.iadd, 1) := by decide +kernel
theorem dX11_joins_36 : decode cX11_joins 36 = .ok (.baload, 1) := by decide +kernel
theorem dX11_joins_37 : decode cX11_joins 37 = .ok (.ifCond .ne 7, 3) := by decide +kernel
theorem dX11_joins_40 : decode cX11_joins 40 = .ok (.iconst 1, 1) := by decide +kernel
theorem dX11_joins_41 : decode cX11_joins 41 = .ok (.goto 4, 3) := by decide +kernel
theorem dX11_joins_44 : decode cX11_joins 44 = .ok (.iconst 0, 1) := by decide +kernel
theorem dX11_joins_45 : decode cX11_joins 45 = .ok (.bastore, 1) := by decide +kernel
theorem dX11_joins_46 : decode cX11_joins 46 = .ok (.iinc 3 1, 3) := by decide +kernel
theorem dX11_joins_49 : decode cX11_joins 49 = .ok (.goto (-35), 3) := by decide +kernel
theorem dX11_joins_52 : decode cX11_joins 52 = .ok (.return_, 1) := by decide +kernel
theorem dX11_joins_53 : decode cX11_joins 53 = .ok (.aload_n 0, 1) := by decide +kernel
theorem dX11_joins_54 : decode cX11_joins 54 = .ok (.dup, 1) := by decide +kernel
theorem dX11_joins_55 : decode cX11_joins 55 = .ok (.getfield 371, 3) := by decide +kernel
theorem dX11_joins_58 : decode cX11_joins 58 = .ok (.iconst 1, 1) := by decide +kernel
theorem dX11_joins_59 : decode cX11_joins 59 = .ok (.isub, 1) := by decide +kernel
theorem dX11_joins_60 : decode cX11_joins 60 = .ok (.putfield 371, 3) := by decide +kernel
theorem dX11_joins_63 : decode cX11_joins 63 = .ok (.iconst 0, 1) := by decide +kernel
theorem dX11_joins_64 : decode cX11_joins 64 = .ok (.istore_n 3, 1) := by decide +kernel
theorem dX11_joins_65 : decode cX11_joins 65 = .ok (.iload_n 3, 1) := by decide +kernel
theorem dX11_joins_66 : decode cX11_joins 66 = .ok (.aload_n 0, 1) := by decide +kernel
theorem dX11_joins_67 : decode cX11_joins 67 = .ok (.getfield 335, 3) := by decide +kernel
theorem dX11_joins_70 : decode cX11_joins 70 = .ok (.if_icmp .ge 85, 3) := by decide +kernel
theorem dX11_joins_73 : decode cX11_joins 73 = .ok (.aload_n 0, 1) := by decide +kernel
theorem dX11_joins_74 : decode cX11_joins 74 = .ok (.getfield 119, 3) := by decide +kernel
theorem dX11_joins_77 : decode cX11_joins 77 = .ok (.iload_n 2, 1) := by decide +kernel
theorem dX11_joins_78 : decode cX11_joins 78 = .ok (.sipush 729, 3) := by decide +kernel
theorem dX11_joins_81 : decode cX11_joins 81 = .ok (.isub, 1) := by decide +kernel
theorem dX11_joins_82 : decode cX11_joins 82 = .ok (.iload_n 3, 1) := by decide +kernel
theorem dX11_joins_83 : decode cX11_joins 83 = .ok (.iadd, 1) := by decide +kernel
theorem dX11_joins_84 : decode cX11_joins 84 = .ok (.baload, 1) := by decide +kernel
theorem dX11_joins_85 : decode cX11_joins 85 = .ok (.istore 4, 2) := by decide +kernel
theorem dX11_joins_87 : decode cX11_joins 87 = .ok (.aload_n 0, 1) := by decide +kernel
theorem dX11_joins_88 : decode cX11_joins 88 = .ok (.getfield 119, 3) := by decide +kernel
theorem dX11_joins_91 : decode cX11_joins 91 = .ok (.iload_n 2, 1) := by decide +kernel
theorem dX11_joins_92 : decode cX11_joins 92 = .ok (.iload_n 3, 1) := by decide +kernel
theorem dX11_joins_93 : decode cX11_joins 93 = .ok (.iadd, 1) := by decide +kernel
theorem dX11_joins_94 : decode cX11_joins 94 = .ok (.baload, 1) := by decide +kernel
theorem dX11_joins_95 : decode cX11_joins 95 = .ok (.istore 5, 2) := by decide +kernel
theorem dX11_joins_97 : decode cX11_joins 97 = .ok (.aload_n 0, 1) := by decide +kernel
theorem dX11_joins_98 : decode cX11_joins 98 = .ok (.getfield 119, 3) := by decide +kernel
theorem dX11_joins_101 : decode cX11_joins 101 = .ok (.iload_n 2, 1) := by decide +kernel
theorem dX11_joins_102 : decode cX11_joins 102 = .ok (.sipush 729, 3) := by decide +kernel
theorem dX11_joins_105 : decode cX11_joins 105 = .ok (.isub, 1) := by decide +kernel
theorem dX11_joins_106 : decode cX11_joins 106 = .ok (.iload_n 3, 1) := by decide +kernel
theorem dX11_joins_107 : decode cX11_joins 107 = .ok (.iadd, 1) := by decide +kernel
theorem dX11_joins_108 : decode cX11_joins 108 = .ok (.iload_n 1, 1) := by decide +kernel
theorem dX11_joins_109 : decode cX11_joins 109 = .ok (.sipush 261, 3) := by decide +kernel
theorem dX11_joins_112 : decode cX11_joins 112 = .ok (.if_icmp .ne 21, 3) := by decide +kernel
theorem dX11_joins_115 : decode cX11_joins 115 = .ok (.iload 4, 2) := by decide +kernel
theorem dX11_joins_117 : decode cX11_joins 117 = .ok (.ifCond .eq 12, 3) := by decide +kernel
theorem dX11_joins_120 : decode cX11_joins 120 = .ok (.iload 5, 2) := by decide +kernel
theorem dX11_joins_122 : decode cX11_joins 122 = .ok (.ifCond .eq 7, 3) := by decide +kernel
theorem dX11_joins_125 : decode cX11_joins 125 = .ok (.iconst 1, 1) := by decide +kernel
theorem dX11_joins_126 : decode cX11_joins 126 = .ok (.goto 22, 3) := by decide +kernel
theorem dX11_joins_129 : decode cX11_joins 129 = .ok (.iconst 0, 1) := by decide +kernel
theorem dX11_joins_130 : decode cX11_joins 130 = .ok (.goto 18, 3) := by decide +kernel
theorem dX11_joins_133 : decode cX11_joins 133 = .ok (.iload 4, 2) := by decide +kernel
theorem dX11_joins_135 : decode cX11_joins 135 = .ok (.ifCond .ne 8, 3) := by decide +kernel
theorem dX11_joins_138 : decode cX11_joins 138 = .ok (.iload 5, 2) := by decide +kernel
theorem dX11_joins_140 : decode cX11_joins 140 = .ok (.ifCond .eq 7, 3) := by decide +kernel
theorem dX11_joins_143 : decode cX11_joins 143 = .ok (.iconst 1, 1) := by decide +kernel
theorem dX11_joins_144 : decode cX11_joins 144 = .ok (.goto 4, 3) := by decide +kernel
theorem dX11_joins_147 : decode cX11_joins 147 = .ok (.iconst 0, 1) := by decide +kernel
theorem dX11_joins_148 : decode cX11_joins 148 = .ok (.bastore, 1) := by decide +kernel
theorem dX11_joins_149 : decode cX11_joins 149 = .ok (.iinc 3 1, 3) := by decide +kernel
theorem dX11_joins_152 : decode cX11_joins 152 = .ok (.goto (-87), 3) := by decide +kernel
theorem dX11_joins_155 : decode cX11_joins 155 = .ok (.return_, 1) := by decide +kernel
theorem dX11_leafIn_0 : decode cX11_leafIn 0 = .ok (.iload_n 1, 1) := by decide +kernel
theorem dX11_leafIn_1 : decode cX11_leafIn 1 = .ok (.lookupswitch 97 #[(3, 35), (4, 62), (8, 75)], 35) := by decide +kernel
theorem dX11_leafIn_36 : decode cX11_leafIn 36 = .ok (.aload_n 0, 1) := by decide +kernel
theorem dX11_leafIn_37 : decode cX11_leafIn 37 = .ok (.getfield 72, 3) := by decide +kernel
theorem dX11_leafIn_40 : decode cX11_leafIn 40 = .ok (.bipush 6, 2) := by decide +kernel
theorem dX11_leafIn_42 : decode cX11_leafIn 42 = .ok (.iload_n 3, 1) := by decide +kernel
theorem dX11_leafIn_43 : decode cX11_leafIn 43 = .ok (.imul, 1) := by decide +kernel
theorem dX11_leafIn_44 : decode cX11_leafIn 44 = .ok (.iload_n 2, 1) := by decide +kernel
theorem dX11_leafIn_45 : decode cX11_leafIn 45 = .ok (.bipush 8, 2) := by decide +kernel
theorem dX11_leafIn_47 : decode cX11_leafIn 47 = .ok (.idiv, 1) := by decide +kernel
theorem dX11_leafIn_48 : decode cX11_leafIn 48 = .ok (.iadd, 1) := by decide +kernel
theorem dX11_leafIn_49 : decode cX11_leafIn 49 = .ok (.iaload, 1) := by decide +kernel
theorem dX11_leafIn_50 : decode cX11_leafIn 50 = .ok (.iload_n 2, 1) := by decide +kernel
theorem dX11_leafIn_51 : decode cX11_leafIn 51 = .ok (.bipush 8, 2) := by decide +kernel
theorem dX11_leafIn_53 : decode cX11_leafIn 53 = .ok (.irem, 1) := by decide +kernel
theorem dX11_leafIn_54 : decode cX11_leafIn 54 = .ok (.if_icmp .ne 7, 3) := by decide +kernel
theorem dX11_leafIn_57 : decode cX11_leafIn 57 = .ok (.iconst 1, 1) := by decide +kernel
theorem dX11_leafIn_58 : decode cX11_leafIn 58 = .ok (.goto 4, 3) := by decide +kernel
theorem dX11_leafIn_61 : decode cX11_leafIn 61 = .ok (.iconst 0, 1) := by decide +kernel
theorem dX11_leafIn_62 : decode cX11_leafIn 62 = .ok (.ireturn, 1) := by decide +kernel
theorem dX11_leafIn_63 : decode cX11_leafIn 63 = .ok (.aload_n 0, 1) := by decide +kernel
theorem dX11_leafIn_64 : decode cX11_leafIn 64 = .ok (.getfield 103, 3) := by decide +kernel
theorem dX11_leafIn_67 : decode cX11_leafIn 67 = .ok (.sipush 729, 3) := by decide +kernel
theorem dX11_leafIn_70 : decode cX11_leafIn 70 = .ok (.iload_n 2, 1) := by decide +kernel
theorem dX11_leafIn_71 : decode cX11_leafIn 71 = .ok (.imul, 1) := by decide +kernel
theorem dX11_leafIn_72 : decode cX11_leafIn 72 = .ok (.iload_n 3, 1) := by decide +kernel
theorem dX11_leafIn_73 : decode cX11_leafIn 73 = .ok (.iadd, 1) := by decide +kernel
theorem dX11_leafIn_74 : decode cX11_leafIn 74 = .ok (.baload, 1) := by decide +kernel
theorem dX11_leafIn_75 : decode cX11_leafIn 75 = .ok (.ireturn, 1) := by decide +kernel
theorem dX11_leafIn_76 : decode cX11_leafIn 76 = .ok (.aload_n 0, 1) := by decide +kernel
theorem dX11_leafIn_77 : decode cX11_leafIn 77 = .ok (.iload_n 3, 1) := by decide +kernel
theorem dX11_leafIn_78 : decode cX11_leafIn 78 = .ok (.iload_n 2, 1) := by decide +kernel
theorem dX11_leafIn_79 : decode cX11_leafIn 79 = .ok (.bipush 8, 2) := by decide +kernel
theorem dX11_leafIn_81 : decode cX11_leafIn 81 = .ok (.idiv, 1) := by decide +kernel
theorem dX11_leafIn_82 : decode cX11_leafIn 82 = .ok (.invokevirtual 344, 3) := by decide +kernel
theorem dX11_leafIn_85 : decode cX11_leafIn 85 = .ok (.iload_n 2, 1) := by decide +kernel
theorem dX11_leafIn_86 : decode cX11_leafIn 86 = .ok (.bipush 8, 2) := by decide +kernel
theorem dX11_leafIn_88 : decode cX11_leafIn 88 = .ok (.irem, 1) := by decide +kernel
theorem dX11_leafIn_89 : decode cX11_leafIn 89 = .ok (.if_icmp .lt 7, 3) := by decide +kernel
theorem dX11_leafIn_92 : decode cX11_leafIn 92 = .ok (.iconst 1, 1) := by decide +kernel
theorem dX11_leafIn_93 : decode cX11_leafIn 93 = .ok (.goto 4, 3) := by decide +kernel
theorem dX11_leafIn_96 : decode cX11_leafIn 96 = .ok (.iconst 0, 1) := by decide +kernel
theorem dX11_leafIn_97 : decode cX11_leafIn 97 = .ok (.ireturn, 1) := by decide +kernel
theorem dX11_leafIn_98 : decode cX11_leafIn 98 = .ok (.aload_n 0, 1) := by decide +kernel
theorem dX11_leafIn_99 : decode cX11_leafIn 99 = .ok (.getfield 115, 3) := by decide +kernel
theorem dX11_leafIn_102 : decode cX11_leafIn 102 = .ok (.sipush 729, 3) := by decide +kernel
theorem dX11_leafIn_105 : decode cX11_leafIn 105 = .ok (.iload_n 2, 1) := by decide +kernel
theorem dX11_leafIn_106 : decode cX11_leafIn 106 = .ok (.imul, 1) := by decide +kernel
theorem dX11_leafIn_107 : decode cX11_leafIn 107 = .ok (.iload_n 3, 1) := by decide +kernel
theorem dX11_leafIn_108 : decode cX11_leafIn 108 = .ok (.iadd, 1) := by decide +kernel
theorem dX11_leafIn_109 : decode cX11_leafIn 109 = .ok (.baload, 1) := by decide +kernel
theorem dX11_leafIn_110 : decode cX11_leafIn 110 = .ok (.ireturn, 1) := by decide +kernel
theorem dX11_laysFact_0 : decode cX11_laysFact 0 = .ok (.aload_n 0, 1) := by decide +kernel
theorem dX11_laysFact_1 : decode cX11_laysFact 1 = .ok (.iconst 0, 1) := by decide +kernel
theorem dX11_laysFact_2 : decode cX11_laysFact 2 = .ok (.putfield 371, 3) := by decide +kernel
theorem dX11_laysFact_5 : decode cX11_laysFact 5 = .ok (.aload_n 0, 1) := by decide +kernel
theorem dX11_laysFact_6 : decode cX11_laysFact 6 = .ok (.getfield 34, 3) := by decide +kernel
theorem dX11_laysFact_9 : decode cX11_laysFact 9 = .ok (.iload_n 1, 1) := by decide +kernel
theorem dX11_laysFact_10 : decode cX11_laysFact 10 = .ok (.iaload, 1) := by decide +kernel
theorem dX11_laysFact_11 : decode cX11_laysFact 11 = .ok (.istore_n 2, 1) := by decide +kernel
theorem dX11_laysFact_12 : decode cX11_laysFact 12 = .ok (.iload_n 2, 1) := by decide +kernel
theorem dX11_laysFact_13 : decode cX11_laysFact 13 = .ok (.aload_n 0, 1) := by decide +kernel
theorem dX11_laysFact_14 : decode cX11_laysFact 14 = .ok (.getfield 37, 3) := by decide +kernel
theorem dX11_laysFact_17 : decode cX11_laysFact 17 = .ok (.iload_n 1, 1) := by decide +kernel
theorem dX11_laysFact_18 : decode cX11_laysFact 18 = .ok (.iaload, 1) := by decide +kernel
theorem dX11_laysFact_19 : decode cX11_laysFact 19 = .ok (.if_icmp .ge 135, 3) := by decide +kernel
theorem dX11_laysFact_22 : decode cX11_laysFact 22 = .ok (.aload_n 0, 1) := by decide +kernel
theorem dX11_laysFact_23 : decode cX11_laysFact 23 = .ok (.getfield 55, 3) := by decide +kernel
theorem dX11_laysFact_26 : decode cX11_laysFact 26 = .ok (.iload_n 2, 1) := by decide +kernel
theorem dX11_laysFact_27 : decode cX11_laysFact 27 = .ok (.iaload, 1) := by decide +kernel
theorem dX11_laysFact_28 : decode cX11_laysFact 28 = .ok (.istore_n 3, 1) := by decide +kernel
theorem dX11_laysFact_29 : decode cX11_laysFact 29 = .ok (.aload_n 0, 1) := by decide +kernel
theorem dX11_laysFact_30 : decode cX11_laysFact 30 = .ok (.getfield 58, 3) := by decide +kernel
theorem dX11_laysFact_33 : decode cX11_laysFact 33 = .ok (.iload_n 2, 1) := by decide +kernel
theorem dX11_laysFact_34 : decode cX11_laysFact 34 = .ok (.iaload, 1) := by decide +kernel
theorem dX11_laysFact_35 : decode cX11_laysFact 35 = .ok (.istore 4, 2) := by decide +kernel
theorem dX11_laysFact_37 : decode cX11_laysFact 37 = .ok (.iload_n 3, 1) := by decide +kernel
theorem dX11_laysFact_38 : decode cX11_laysFact 38 = .ok (.iconst 2, 1) := by decide +kernel
theorem dX11_laysFact_39 : decode cX11_laysFact 39 = .ok (.if_icmp .ne 12, 3) := by decide +kernel
theorem dX11_laysFact_42 : decode cX11_laysFact 42 = .ok (.aload_n 0, 1) := by decide +kernel
theorem dX11_laysFact_43 : decode cX11_laysFact 43 = .ok (.iload 4, 2) := by decide +kernel
theorem dX11_laysFact_45 : decode cX11_laysFact 45 = .ok (.invokevirtual 384, 3) := by decide +kernel
theorem dX11_laysFact_48 : decode cX11_laysFact 48 = .ok (.goto 100, 3) := by decide +kernel
theorem dX11_laysFact_51 : decode cX11_laysFact 51 = .ok (.iload_n 3, 1) := by decide +kernel
theorem dX11_laysFact_52 : decode cX11_laysFact 52 = .ok (.iconst 5, 1) := by decide +kernel
theorem dX11_laysFact_53 : decode cX11_laysFact 53 = .ok (.if_icmp .ne 20, 3) := by decide +kernel
theorem dX11_laysFact_56 : decode cX11_laysFact 56 = .ok (.aload_n 0, 1) := by decide +kernel
theorem dX11_laysFact_57 : decode cX11_laysFact 57 = .ok (.iload 4, 2) := by decide +kernel
theorem dX11_laysFact_59 : decode cX11_laysFact 59 = .ok (.aload_n 0, 1) := by decide +kernel
theorem dX11_laysFact_60 : decode cX11_laysFact 60 = .ok (.invokevirtual 374, 3) := by decide +kernel
theorem dX11_laysFact_63 : decode cX11_laysFact 63 = .ok (.aload_n 0, 1) := by decide +kernel
theorem dX11_laysFact_64 : decode cX11_laysFact 64 = .ok (.invokevirtual 374, 3) := by decide +kernel
theorem dX11_laysFact_67 : decode cX11_laysFact 67 = .ok (.invokevirtual 380, 3) := by decide +kernel
theorem dX11_laysFact_70 : decode cX11_laysFact 70 = .ok (.goto 78, 3) := by decide +kernel
theorem dX11_laysFact_73 : decode cX11_laysFact 73 = .ok (.iload_n 3, 1) := by decide +kernel
theorem dX11_laysFact_74 : decode cX11_laysFact 74 = .ok (.bipush 6, 2) := by decide +kernel
theorem dX11_laysFact_76 : decode cX11_laysFact 76 = .ok (.if_icmp .ne 10, 3) := by decide +kernel
theorem dX11_laysFact_79 : decode cX11_laysFact 79 = .ok (.aload_n 0, 1) := by decide +kernel
theorem dX11_laysFact_80 : decode cX11_laysFact 80 = .ok (.invokevirtual 387, 3) := by decide +kernel
theorem dX11_laysFact_83 : decode cX11_laysFact 83 = .ok (.goto 65, 3) := by decide +kernel
theorem dX11_laysFact_86 : decode cX11_laysFact 86 = .ok (.iload_n 3, 1) := by decide +kernel
theorem dX11_laysFact_87 : decode cX11_laysFact 87 = .ok (.bipush 7, 2) := by decide +kernel
theorem dX11_laysFact_89 : decode cX11_laysFact 89 = .ok (.if_icmp .ne 10, 3) := by decide +kernel
theorem dX11_laysFact_92 : decode cX11_laysFact 92 = .ok (.aload_n 0, 1) := by decide +kernel
theorem dX11_laysFact_93 : decode cX11_laysFact 93 = .ok (.invokevirtual 390, 3) := by decide +kernel
theorem dX11_laysFact_96 : decode cX11_laysFact 96 = .ok (.goto 52, 3) := by decide +kernel
theorem dX11_laysFact_99 : decode cX11_laysFact 99 = .ok (.aload_n 0, 1) := by decide +kernel
theorem dX11_laysFact_100 : decode cX11_laysFact 100 = .ok (.dup, 1) := by decide +kernel
theorem dX11_laysFact_101 : decode cX11_laysFact 101 = .ok (.getfield 371, 3) := by decide +kernel
theorem dX11_laysFact_104 : decode cX11_laysFact 104 = .ok (.iconst 1, 1) := by decide +kernel
theorem dX11_laysFact_105 : decode cX11_laysFact 105 = .ok (.iadd, 1) := by decide +kernel
theorem dX11_laysFact_106 : decode cX11_laysFact 106 = .ok (.putfield 371, 3) := by decide +kernel
theorem dX11_laysFact_109 : decode cX11_laysFact 109 = .ok (.iconst 0, 1) := by decide +kernel
theorem dX11_laysFact_110 : decode cX11_laysFact 110 = .ok (.istore 5, 2) := by decide +kernel
theorem dX11_laysFact_112 : decode cX11_laysFact 112 = .ok (.iload 5, 2) := by decide +kernel
theorem dX11_laysFact_114 : decode cX11_laysFact 114 = .ok (.aload_n 0, 1) := by decide +kernel
theorem dX11_laysFact_115 : decode cX11_laysFact 115 = .ok (.getfield 335, 3) := by decide +kernel
theorem dX11_laysFact_118 : decode cX11_laysFact 118 = .ok (.if_icmp .ge 30, 3) := by decide +kernel
theorem dX11_laysFact_121 : decode cX11_laysFact 121 = .ok (.aload_n 0, 1) := by decide +kernel
theorem dX11_laysFact_122 : decode cX11_laysFact 122 = .ok (.getfield 119, 3) := by decide +kernel
theorem dX11_laysFact_125 : decode cX11_laysFact 125 = .ok (.aload_n 0, 1) := by decide +kernel
theorem dX11_laysFact_126 : decode cX11_laysFact 126 = .ok (.invokevirtual 374, 3) := by decide +kernel
theorem dX11_laysFact_129 : decode cX11_laysFact 129 = .ok (.iload 5, 2) := by decide +kernel
theorem dX11_laysFact_131 : decode cX11_laysFact 131 = .ok (.iadd, 1) := by decide +kernel
theorem dX11_laysFact_132 : decode cX11_laysFact 132 = .ok (.aload_n 0, 1) := by decide +kernel
theorem dX11_laysFact_133 : decode cX11_laysFact 133 = .ok (.iload_n 3, 1) := by decide +kernel
theorem dX11_laysFact_134 : decode cX11_laysFact 134 = .ok (.iload 4, 2) := by decide +kernel
theorem dX11_laysFact_136 : decode cX11_laysFact 136 = .ok (.iload 5, 2) := by decide +kernel
theorem dX11_laysFact_138 : decode cX11_laysFact 138 = .ok (.invokevirtual 393, 3) := by decide +kernel
theorem dX11_laysFact_141 : decode cX11_laysFact 141 = .ok (.bastore, 1) := by decide +kernel
theorem dX11_laysFact_142 : decode cX11_laysFact 142 = .ok (.iinc 5 1, 3) := by decide +kernel
theorem dX11_laysFact_145 : decode cX11_laysFact 145 = .ok (.goto (-33), 3) := by decide +kernel
theorem dX11_laysFact_148 : decode cX11_laysFact 148 = .ok (.iinc 2 1, 3) := by decide +kernel
theorem dX11_laysFact_151 : decode cX11_laysFact 151 = .ok (.goto (-139), 3) := by decide +kernel
theorem dX11_laysFact_154 : decode cX11_laysFact 154 = .ok (.iconst 0, 1) := by decide +kernel
theorem dX11_laysFact_155 : decode cX11_laysFact 155 = .ok (.istore_n 2, 1) := by decide +kernel
theorem dX11_laysFact_156 : decode cX11_laysFact 156 = .ok (.iload_n 2, 1) := by decide +kernel
theorem dX11_laysFact_157 : decode cX11_laysFact 157 = .ok (.aload_n 0, 1) := by decide +kernel
theorem dX11_laysFact_158 : decode cX11_laysFact 158 = .ok (.getfield 335, 3) := by decide +kernel
theorem dX11_laysFact_161 : decode cX11_laysFact 161 = .ok (.if_icmp .ge 27, 3) := by decide +kernel
theorem dX11_laysFact_164 : decode cX11_laysFact 164 = .ok (.aload_n 0, 1) := by decide +kernel
theorem dX11_laysFact_165 : decode cX11_laysFact 165 = .ok (.getfield 115, 3) := by decide +kernel
theorem dX11_laysFact_168 : decode cX11_laysFact 168 = .ok (.sipush 729, 3) := by decide +kernel
theorem dX11_laysFact_171 : decode cX11_laysFact 171 = .ok (.iload_n 1, 1) := by decide +kernel
theorem dX11_laysFact_172 : decode cX11_laysFact 172 = .ok (.imul, 1) := by decide +kernel
theorem dX11_laysFact_173 : decode cX11_laysFact 173 = .ok (.iload_n 2, 1) := by decide +kernel
theorem dX11_laysFact_174 : decode cX11_laysFact 174 = .ok (.iadd, 1) := by decide +kernel
theorem dX11_laysFact_175 : decode cX11_laysFact 175 = .ok (.aload_n 0, 1) := by decide +kernel
theorem dX11_laysFact_176 : decode cX11_laysFact 176 = .ok (.getfield 119, 3) := by decide +kernel
theorem dX11_laysFact_179 : decode cX11_laysFact 179 = .ok (.iload_n 2, 1) := by decide +kernel
theorem dX11_laysFact_180 : decode cX11_laysFact 180 = .ok (.baload, 1) := by decide +kernel
theorem dX11_laysFact_181 : decode cX11_laysFact 181 = .ok (.bastore, 1) := by decide +kernel
theorem dX11_laysFact_182 : decode cX11_laysFact 182 = .ok (.iinc 2 1, 3) := by decide +kernel
theorem dX11_laysFact_185 : decode cX11_laysFact 185 = .ok (.goto (-29), 3) := by decide +kernel
theorem dX11_laysFact_188 : decode cX11_laysFact 188 = .ok (.return_, 1) := by decide +kernel
theorem dX11_isAlike_0 : decode cX11_isAlike 0 = .ok (.aload_n 0, 1) := by decide +kernel
theorem dX11_isAlike_1 : decode cX11_isAlike 1 = .ok (.iload_n 2, 1) := by decide +kernel
theorem dX11_isAlike_2 : decode cX11_isAlike 2 = .ok (.invokevirtual 362, 3) := by decide +kernel
theorem dX11_isAlike_5 : decode cX11_isAlike 5 = .ok (.ifCond .eq 37, 3) := by decide +kernel
theorem dX11_isAlike_8 : decode cX11_isAlike 8 = .ok (.aload_n 0, 1) := by decide +kernel
theorem dX11_isAlike_9 : decode cX11_isAlike 9 = .ok (.getfield 100, 3) := by decide +kernel
theorem dX11_isAlike_12 : decode cX11_isAlike 12 = .ok (.sipush 729, 3) := by decide +kernel
theorem dX11_isAlike_15 : decode cX11_isAlike 15 = .ok (.iload_n 1, 1) := by decide +kernel
theorem dX11_isAlike_16 : decode cX11_isAlike 16 = .ok (.imul, 1) := by decide +kernel
theorem dX11_isAlike_17 : decode cX11_isAlike 17 = .ok (.iload_n 2, 1) := by decide +kernel
theorem dX11_isAlike_18 : decode cX11_isAlike 18 = .ok (.iadd, 1) := by decide +kernel
theorem dX11_isAlike_19 : decode cX11_isAlike 19 = .ok (.iaload, 1) := by decide +kernel
theorem dX11_isAlike_20 : decode cX11_isAlike 20 = .ok (.aload_n 0, 1) := by decide +kernel
theorem dX11_isAlike_21 : decode cX11_isAlike 21 = .ok (.getfield 100, 3) := by decide +kernel
theorem dX11_isAlike_24 : decode cX11_isAlike 24 = .ok (.sipush 729, 3) := by decide +kernel
theorem dX11_isAlike_27 : decode cX11_isAlike 27 = .ok (.iload_n 1, 1) := by decide +kernel
theorem dX11_isAlike_28 : decode cX11_isAlike 28 = .ok (.imul, 1) := by decide +kernel
theorem dX11_isAlike_29 : decode cX11_isAlike 29 = .ok (.aload_n 0, 1) := by decide +kernel
theorem dX11_isAlike_30 : decode cX11_isAlike 30 = .ok (.getfield 338, 3) := by decide +kernel
theorem dX11_isAlike_33 : decode cX11_isAlike 33 = .ok (.iadd, 1) := by decide +kernel
theorem dX11_isAlike_34 : decode cX11_isAlike 34 = .ok (.iaload, 1) := by decide +kernel
theorem dX11_isAlike_35 : decode cX11_isAlike 35 = .ok (.if_icmp .ne 7, 3) := by decide +kernel
theorem dX11_isAlike_38 : decode cX11_isAlike 38 = .ok (.iconst 1, 1) := by decide +kernel
theorem dX11_isAlike_39 : decode cX11_isAlike 39 = .ok (.goto 4, 3) := by decide +kernel
theorem dX11_isAlike_42 : decode cX11_isAlike 42 = .ok (.iconst 0, 1) := by decide +kernel
theorem dX11_isAlike_43 : decode cX11_isAlike 43 = .ok (.ireturn, 1) := by decide +kernel
theorem dX11_alikeMany_0 : decode cX11_alikeMany 0 = .ok (.iconst 0, 1) := by decide +kernel
theorem dX11_alikeMany_1 : decode cX11_alikeMany 1 = .ok (.istore_n 2, 1) := by decide +kernel
theorem dX11_alikeMany_2 : decode cX11_alikeMany 2 = .ok (.iconst 0, 1) := by decide +kernel
theorem dX11_alikeMany_3 : decode cX11_alikeMany 3 = .ok (.istore_n 3, 1) := by decide +kernel
theorem dX11_alikeMany_4 : decode cX11_alikeMany 4 = .ok (.iload_n 3, 1) := by decide +kernel
theorem dX11_alikeMany_5 : decode cX11_alikeMany 5 = .ok (.aload_n 0, 1) := by decide +kernel
theorem dX11_alikeMany_6 : decode cX11_alikeMany 6 = .ok (.getfield 335, 3) := by decide +kernel
theorem dX11_alikeMany_9 : decode cX11_alikeMany 9 = .ok (.if_icmp .ge 26, 3) := by decide +kernel
theorem dX11_alikeMany_12 : decode cX11_alikeMany 12 = .ok (.iload_n 2, 1) := by decide +kernel
theorem dX11_alikeMany_13 : decode cX11_alikeMany 13 = .ok (.aload_n 0, 1) := by decide +kernel
theorem dX11_alikeMany_14 : decode cX11_alikeMany 14 = .ok (.iload_n 1, 1) := by decide +kernel
theorem dX11_alikeMany_15 : decode cX11_alikeMany 15 = .ok (.iload_n 3, 1) := by decide +kernel
theorem dX11_alikeMany_16 : decode cX11_alikeMany 16 = .ok (.invokevirtual 397, 3) := by decide +kernel
theorem dX11_alikeMany_19 : decode cX11_alikeMany 19 = .ok (.ifCond .eq 7, 3) := by decide +kernel
theorem dX11_alikeMany_22 : decode cX11_alikeMany 22 = .ok (.iconst 1, 1) := by decide +kernel
theorem dX11_alikeMany_23 : decode cX11_alikeMany 23 = .ok (.goto 4, 3) := by decide +kernel
theorem dX11_alikeMany_26 : decode cX11_alikeMany 26 = .ok (.iconst 0, 1) := by decide +kernel
theorem dX11_alikeMany_27 : decode cX11_alikeMany 27 = .ok (.iadd, 1) := by decide +kernel
theorem dX11_alikeMany_28 : decode cX11_alikeMany 28 = .ok (.istore_n 2, 1) := by decide +kernel
theorem dX11_alikeMany_29 : decode cX11_alikeMany 29 = .ok (.iinc 3 1, 3) := by decide +kernel
theorem dX11_alikeMany_32 : decode cX11_alikeMany 32 = .ok (.goto (-28), 3) := by decide +kernel
theorem dX11_alikeMany_35 : decode cX11_alikeMany 35 = .ok (.iload_n 2, 1) := by decide +kernel
theorem dX11_alikeMany_36 : decode cX11_alikeMany 36 = .ok (.ireturn, 1) := by decide +kernel
theorem dX11_knowers_0 : decode cX11_knowers 0 = .ok (.iconst 0, 1) := by decide +kernel
theorem dX11_knowers_1 : decode cX11_knowers 1 = .ok (.istore_n 1, 1) := by decide +kernel
theorem dX11_knowers_2 : decode cX11_knowers 2 = .ok (.iconst 0, 1) := by decide +kernel
theorem dX11_knowers_3 : decode cX11_knowers 3 = .ok (.istore_n 2, 1) := by decide +kernel
theorem dX11_knowers_4 : decode cX11_knowers 4 = .ok (.iload_n 2, 1) := by decide +kernel
theorem dX11_knowers_5 : decode cX11_knowers 5 = .ok (.aload_n 0, 1) := by decide +kernel
theorem dX11_knowers_6 : decode cX11_knowers 6 = .ok (.getfield 13, 3) := by decide +kernel
theorem dX11_knowers_9 : decode cX11_knowers 9 = .ok (.iconst 1, 1) := by decide +kernel
theorem dX11_knowers_10 : decode cX11_knowers 10 = .ok (.iaload, 1) := by decide +kernel
theorem dX11_knowers_11 : decode cX11_knowers 11 = .ok (.if_icmp .ge 37, 3) := by decide +kernel
theorem dX11_knowers_14 : decode cX11_knowers 14 = .ok (.iload_n 1, 1) := by decide +kernel
theorem dX11_knowers_15 : decode cX11_knowers 15 = .ok (.aload_n 0, 1) := by decide +kernel
theorem dX11_knowers_16 : decode cX11_knowers 16 = .ok (.getfield 103, 3) := by decide +kernel
theorem dX11_knowers_19 : decode cX11_knowers 19 = .ok (.sipush 729, 3) := by decide +kernel
theorem dX11_knowers_22 : decode cX11_knowers 22 = .ok (.iload_n 2, 1) := by decide +kernel
theorem dX11_knowers_23 : decode cX11_knowers 23 = .ok (.imul, 1) := by decide +kernel
theorem dX11_knowers_24 : decode cX11_knowers 24 = .ok (.aload_n 0, 1) := by decide +kernel
theorem dX11_knowers_25 : decode cX11_knowers 25 = .ok (.getfield 338, 3) := by decide +kernel
theorem dX11_knowers_28 : decode cX11_knowers 28 = .ok (.iadd, 1) := by decide +kernel
theorem dX11_knowers_29 : decode cX11_knowers 29 = .ok (.baload, 1) := by decide +kernel
theorem dX11_knowers_30 : decode cX11_knowers 30 = .ok (.ifCond .eq 9, 3) := by decide +kernel
theorem dX11_knowers_33 : decode cX11_knowers 33 = .ok (.iconst 1, 1) := by decide +kernel
theorem dX11_knowers_34 : decode cX11_knowers 34 = .ok (.iload_n 2, 1) := by decide +kernel
theorem dX11_knowers_35 : decode cX11_knowers 35 = .ok (.ishl, 1) := by decide +kernel
theorem dX11_knowers_36 : decode cX11_knowers 36 = .ok (.goto 4, 3) := by decide +kernel
theorem dX11_knowers_39 : decode cX11_knowers 39 = .ok (.iconst 0, 1) := by decide +kernel
theorem dX11_knowers_40 : decode cX11_knowers 40 = .ok (.ior, 1) := by decide +kernel
theorem dX11_knowers_41 : decode cX11_knowers 41 = .ok (.istore_n 1, 1) := by decide +kernel
theorem dX11_knowers_42 : decode cX11_knowers 42 = .ok (.iinc 2 1, 3) := by decide +kernel
theorem dX11_knowers_45 : decode cX11_knowers 45 = .ok (.goto (-41), 3) := by decide +kernel
theorem dX11_knowers_48 : decode cX11_knowers 48 = .ok (.iload_n 1, 1) := by decide +kernel
theorem dX11_knowers_49 : decode cX11_knowers 49 = .ok (.ireturn, 1) := by decide +kernel
theorem dX11_calls_0 : decode cX11_calls 0 = .ok (.aload_n 0, 1) := by decide +kernel
theorem dX11_calls_1 : decode cX11_calls 1 = .ok (.getfield 65, 3) := by decide +kernel
theorem dX11_calls_4 : decode cX11_calls 4 = .ok (.iconst 0, 1) := by decide +kernel
theorem dX11_calls_5 : decode cX11_calls 5 = .ok (.aload_n 0, 1) := by decide +kernel
theorem dX11_calls_6 : decode cX11_calls 6 = .ok (.getfield 75, 3) := by decide +kernel
theorem dX11_calls_9 : decode cX11_calls 9 = .ok (.aload_n 0, 1) := by decide +kernel
theorem dX11_calls_10 : decode cX11_calls 10 = .ok (.getfield 350, 3) := by decide +kernel
theorem dX11_calls_13 : decode cX11_calls 13 = .ok (.iaload, 1) := by decide +kernel
theorem dX11_calls_14 : decode cX11_calls 14 = .ok (.i2l, 1) := by decide +kernel
theorem dX11_calls_15 : decode cX11_calls 15 = .ok (.lastore, 1) := by decide +kernel
theorem dX11_calls_16 : decode cX11_calls 16 = .ok (.aload_n 0, 1) := by decide +kernel
theorem dX11_calls_17 : decode cX11_calls 17 = .ok (.getfield 65, 3) := by decide +kernel
theorem dX11_calls_20 : decode cX11_calls 20 = .ok (.iconst 1, 1) := by decide +kernel
theorem dX11_calls_21 : decode cX11_calls 21 = .ok (.aload_n 0, 1) := by decide +kernel
theorem dX11_calls_22 : decode cX11_calls 22 = .ok (.aload_n 0, 1) := by decide +kernel
theorem dX11_calls_23 : decode cX11_calls 23 = .ok (.getfield 350, 3) := by decide +kernel
theorem dX11_calls_26 : decode cX11_calls 26 = .ok (.invokevirtual 401, 3) := by decide +kernel
theorem dX11_calls_29 : decode cX11_calls 29 = .ok (.i2l, 1) := by decide +kernel
theorem dX11_calls_30 : decode cX11_calls 30 = .ok (.lastore, 1) := by decide +kernel
theorem dX11_calls_31 : decode cX11_calls 31 = .ok (.aload_n 0, 1) := by decide +kernel
theorem dX11_calls_32 : decode cX11_calls 32 = .ok (.getfield 65, 3) := by decide +kernel
theorem dX11_calls_35 : decode cX11_calls 35 = .ok (.iconst 2, 1) := by decide +kernel
theorem dX11_calls_36 : decode cX11_calls 36 = .ok (.aload_n 0, 1) := by decide +kernel
theorem dX11_calls_37 : decode cX11_calls 37 = .ok (.getfield 90, 3) := by decide +kernel
theorem dX11_calls_40 : decode cX11_calls 40 = .ok (.bipush 6, 2) := by decide +kernel
theorem dX11_calls_42 : decode cX11_calls 42 = .ok (.aload_n 0, 1) := by decide +kernel
theorem dX11_calls_43 : decode cX11_calls 43 = .ok (.getfield 350, 3) := by decide +kernel
theorem dX11_calls_46 : decode cX11_calls 46 = .ok (.imul, 1) := by decide +kernel
theorem dX11_calls_47 : decode cX11_calls 47 = .ok (.iload_n 1, 1) := by decide +kernel
theorem dX11_calls_48 : decode cX11_calls 48 = .ok (.iadd, 1) := by decide +kernel
theorem dX11_calls_49 : decode cX11_calls 49 = .ok (.iaload, 1) := by decide +kernel
theorem dX11_calls_50 : decode cX11_calls 50 = .ok (.invokestatic 404, 3) := by decide +kernel
theorem dX11_calls_53 : decode cX11_calls 53 = .ok (.i2l, 1) := by decide +kernel
theorem dX11_calls_54 : decode cX11_calls 54 = .ok (.lastore, 1) := by decide +kernel
theorem dX11_calls_55 : decode cX11_calls 55 = .ok (.aload_n 0, 1) := by decide +kernel
theorem dX11_calls_56 : decode cX11_calls 56 = .ok (.getfield 65, 3) := by decide +kernel
theorem dX11_calls_59 : decode cX11_calls 59 = .ok (.iconst 3, 1) := by decide +kernel
theorem dX11_calls_60 : decode cX11_calls 60 = .ok (.aload_n 0, 1) := by decide +kernel
theorem dX11_calls_61 : decode cX11_calls 61 = .ok (.invokevirtual 407, 3) := by decide +kernel
theorem dX11_calls_64 : decode cX11_calls 64 = .ok (.invokestatic 404, 3) := by decide +kernel
theorem dX11_calls_67 : decode cX11_calls 67 = .ok (.i2l, 1) := by decide +kernel
theorem dX11_calls_68 : decode cX11_calls 68 = .ok (.lastore, 1) := by decide +kernel
theorem dX11_calls_69 : decode cX11_calls 69 = .ok (.aload_n 0, 1) := by decide +kernel
theorem dX11_calls_70 : decode cX11_calls 70 = .ok (.getfield 65, 3) := by decide +kernel
theorem dX11_calls_73 : decode cX11_calls 73 = .ok (.iconst 4, 1) := by decide +kernel
theorem dX11_calls_74 : decode cX11_calls 74 = .ok (.aload_n 0, 1) := by decide +kernel
theorem dX11_calls_75 : decode cX11_calls 75 = .ok (.getfield 87, 3) := by decide +kernel
theorem dX11_calls_78 : decode cX11_calls 78 = .ok (.aload_n 0, 1) := by decide +kernel
theorem dX11_calls_79 : decode cX11_calls 79 = .ok (.getfield 350, 3) := by decide +kernel
theorem dX11_calls_82 : decode cX11_calls 82 = .ok (.iaload, 1) := by decide +kernel
theorem dX11_calls_83 : decode cX11_calls 83 = .ok (.invokestatic 404, 3) := by decide +kernel
theorem dX11_calls_86 : decode cX11_calls 86 = .ok (.i2l, 1) := by decide +kernel
theorem dX11_calls_87 : decode cX11_calls 87 = .ok (.lastore, 1) := by decide +kernel
theorem dX11_calls_88 : decode cX11_calls 88 = .ok (.aload_n 0, 1) := by decide +kernel
theorem dX11_calls_89 : decode cX11_calls 89 = .ok (.getfield 65, 3) := by decide +kernel
theorem dX11_calls_92 : decode cX11_calls 92 = .ok (.iconst 5, 1) := by decide +kernel
theorem dX11_calls_93 : decode cX11_calls 93 = .ok (.aload_n 0, 1) := by decide +kernel
theorem dX11_calls_94 : decode cX11_calls 94 = .ok (.getfield 81, 3) := by decide +kernel
theorem dX11_calls_97 : decode cX11_calls 97 = .ok (.aload_n 0, 1) := by decide +kernel
theorem dX11_calls_98 : decode cX11_calls 98 = .ok (.getfield 350, 3) := by decide +kernel
theorem dX11_calls_101 : decode cX11_calls 101 = .ok (.iaload, 1) := by decide +kernel
theorem dX11_calls_102 : decode cX11_calls 102 = .ok (.i2l, 1) := by decide +kernel
theorem dX11_calls_103 : decode cX11_calls 103 = .ok (.lastore, 1) := by decide +kernel
theorem dX11_calls_104 : decode cX11_calls 104 = .ok (.aload_n 0, 1) := by decide +kernel
theorem dX11_calls_105 : decode cX11_calls 105 = .ok (.getfield 65, 3) := by decide +kernel
theorem dX11_calls_108 : decode cX11_calls 108 = .ok (.bipush 6, 2) := by decide +kernel
theorem dX11_calls_110 : decode cX11_calls 110 = .ok (.aload_n 0, 1) := by decide +kernel
theorem dX11_calls_111 : decode cX11_calls 111 = .ok (.iload_n 1, 1) := by decide +kernel
theorem dX11_calls_112 : decode cX11_calls 112 = .ok (.invokevirtual 410, 3) := by decide +kernel
theorem dX11_calls_115 : decode cX11_calls 115 = .ok (.i2l, 1) := by decide +kernel
theorem dX11_calls_116 : decode cX11_calls 116 = .ok (.lastore, 1) := by decide +kernel
theorem dX11_calls_117 : decode cX11_calls 117 = .ok (.return_, 1) := by decide +kernel
theorem dX11_within_0 : decode cX11_within 0 = .ok (.aload_n 0, 1) := by decide +kernel
theorem dX11_within_1 : decode cX11_within 1 = .ok (.iload_n 1, 1) := by decide +kernel
theorem dX11_within_2 : decode cX11_within 2 = .ok (.invokevirtual 413, 3) := by decide +kernel
theorem dX11_within_5 : decode cX11_within 5 = .ok (.ifCond .ne 6, 3) := by decide +kernel
theorem dX11_within_8 : decode cX11_within 8 = .ok (.iload 4, 2) := by decide +kernel
theorem dX11_within_10 : decode cX11_within 10 = .ok (.ireturn, 1) := by decide +kernel
theorem dX11_within_11 : decode cX11_within 11 = .ok (.aload_n 0, 1) := by decide +kernel
theorem dX11_within_12 : decode cX11_within 12 = .ok (.iload_n 2, 1) := by decide +kernel
theorem dX11_within_13 : decode cX11_within 13 = .ok (.invokevirtual 416, 3) := by decide +kernel
theorem dX11_within_16 : decode cX11_within 16 = .ok (.aload_n 0, 1) := by decide +kernel
theorem dX11_within_17 : decode cX11_within 17 = .ok (.iload_n 1, 1) := by decide +kernel
theorem dX11_within_18 : decode cX11_within 18 = .ok (.invokevirtual 419, 3) := by decide +kernel
theorem dX11_within_21 : decode cX11_within 21 = .ok (.ifCond .eq 22, 3) := by decide +kernel
theorem dX11_within_24 : decode cX11_within 24 = .ok (.lconst 0, 1) := by decide +kernel
theorem dX11_within_25 : decode cX11_within 25 = .ok (.iload_n 3, 1) := by decide +kernel
theorem dX11_within_26 : decode cX11_within 26 = .ok (.i2l, 1) := by decide +kernel
theorem dX11_within_27 : decode cX11_within 27 = .ok (.aload_n 0, 1) := by decide +kernel
theorem dX11_within_28 : decode cX11_within 28 = .ok (.getfield 69, 3) := by decide +kernel
theorem dX11_within_31 : decode cX11_within 31 = .ok (.iconst 0, 1) := by decide +kernel
theorem dX11_within_32 : decode cX11_within 32 = .ok (.laload, 1) := by decide +kernel
theorem dX11_within_33 : decode cX11_within 33 = .ok (.invokestatic 422, 3) := by decide +kernel
theorem dX11_within_36 : decode cX11_within 36 = .ok (.invokestatic 425, 3) := by decide +kernel
theorem dX11_within_39 : decode cX11_within 39 = .ok (.l2i, 1) := by decide +kernel
theorem dX11_within_40 : decode cX11_within 40 = .ok (.goto 5, 3) := by decide +kernel
theorem dX11_within_43 : decode cX11_within 43 = .ok (.iload 4, 2) := by decide +kernel
theorem dX11_within_45 : decode cX11_within 45 = .ok (.ireturn, 1) := by decide +kernel
theorem dX11_tells_0 : decode cX11_tells 0 = .ok (.aload_n 0, 1) := by decide +kernel
theorem dX11_tells_1 : decode cX11_tells 1 = .ok (.iload_n 1, 1) := by decide +kernel
theorem dX11_tells_2 : decode cX11_tells 2 = .ok (.invokevirtual 428, 3) := by decide +kernel
theorem dX11_tells_5 : decode cX11_tells 5 = .ok (.aload_n 0, 1) := by decide +kernel
theorem dX11_tells_6 : decode cX11_tells 6 = .ok (.getfield 115, 3) := by decide +kernel
theorem dX11_tells_9 : decode cX11_tells 9 = .ok (.sipush 729, 3) := by decide +kernel
theorem dX11_tells_12 : decode cX11_tells 12 = .ok (.iload_n 2, 1) := by decide +kernel
theorem dX11_tells_13 : decode cX11_tells 13 = .ok (.imul, 1) := by decide +kernel
theorem dX11_tells_14 : decode cX11_tells 14 = .ok (.aload_n 0, 1) := by decide +kernel
theorem dX11_tells_15 : decode cX11_tells 15 = .ok (.getfield 338, 3) := by decide +kernel
theorem dX11_tells_18 : decode cX11_tells 18 = .ok (.iadd, 1) := by decide +kernel
theorem dX11_tells_19 : decode cX11_tells 19 = .ok (.baload, 1) := by decide +kernel
theorem dX11_tells_20 : decode cX11_tells 20 = .ok (.ifCond .ne 5, 3) := by decide +kernel
theorem dX11_tells_23 : decode cX11_tells 23 = .ok (.iconst 0, 1) := by decide +kernel
theorem dX11_tells_24 : decode cX11_tells 24 = .ok (.ireturn, 1) := by decide +kernel
theorem dX11_tells_25 : decode cX11_tells 25 = .ok (.iconst 0, 1) := by decide +kernel
theorem dX11_tells_26 : decode cX11_tells 26 = .ok (.istore_n 3, 1) := by decide +kernel
theorem dX11_tells_27 : decode cX11_tells 27 = .ok (.iload_n 3, 1) := by decide +kernel
theorem dX11_tells_28 : decode cX11_tells 28 = .ok (.aload_n 0, 1) := by decide +kernel
theorem dX11_tells_29 : decode cX11_tells 29 = .ok (.getfield 335, 3) := by decide +kernel
theorem dX11_tells_32 : decode cX11_tells 32 = .ok (.if_icmp .ge 36, 3) := by decide +kernel
theorem dX11_tells_35 : decode cX11_tells 35 = .ok (.aload_n 0, 1) := by decide +kernel
theorem dX11_tells_36 : decode cX11_tells 36 = .ok (.getfield 96, 3) := by decide +kernel
theorem dX11_tells_39 : decode cX11_tells 39 = .ok (.sipush 729, 3) := by decide +kernel
theorem dX11_tells_42 : decode cX11_tells 42 = .ok (.iload_n 1, 1) := by decide +kernel
theorem dX11_tells_43 : decode cX11_tells 43 = .ok (.imul, 1) := by decide +kernel
theorem dX11_tells_44 : decode cX11_tells 44 = .ok (.iload_n 3, 1) := by decide +kernel
theorem dX11_tells_45 : decode cX11_tells 45 = .ok (.iadd, 1) := by decide +kernel
theorem dX11_tells_46 : decode cX11_tells 46 = .ok (.dup2, 1) := by decide +kernel
theorem dX11_tells_47 : decode cX11_tells 47 = .ok (.baload, 1) := by decide +kernel
theorem dX11_tells_48 : decode cX11_tells 48 = .ok (.aload_n 0, 1) := by decide +kernel
theorem dX11_tells_49 : decode cX11_tells 49 = .ok (.getfield 115, 3) := by decide +kernel
theorem dX11_tells_52 : decode cX11_tells 52 = .ok (.sipush 729, 3) := by decide +kernel
theorem dX11_tells_55 : decode cX11_tells 55 = .ok (.iload_n 2, 1) := by decide +kernel
theorem dX11_tells_56 : decode cX11_tells 56 = .ok (.imul, 1) := by decide +kernel
theorem dX11_tells_57 : decode cX11_tells 57 = .ok (.iload_n 3, 1) := by decide +kernel
theorem dX11_tells_58 : decode cX11_tells 58 = .ok (.iadd, 1) := by decide +kernel
theorem dX11_tells_59 : decode cX11_tells 59 = .ok (.baload, 1) := by decide +kernel
theorem dX11_tells_60 : decode cX11_tells 60 = .ok (.iand, 1) := by decide +kernel
theorem dX11_tells_61 : decode cX11_tells 61 = .ok (.bastore, 1) := by decide +kernel
theorem dX11_tells_62 : decode cX11_tells 62 = .ok (.iinc 3 1, 3) := by decide +kernel
theorem dX11_tells_65 : decode cX11_tells 65 = .ok (.goto (-38), 3) := by decide +kernel
theorem dX11_tells_68 : decode cX11_tells 68 = .ok (.aload_n 0, 1) := by decide +kernel
theorem dX11_tells_69 : decode cX11_tells 69 = .ok (.getfield 81, 3) := by decide +kernel
theorem dX11_tells_72 : decode cX11_tells 72 = .ok (.iload_n 1, 1) := by decide +kernel
theorem dX11_tells_73 : decode cX11_tells 73 = .ok (.dup2, 1) := by decide +kernel
theorem dX11_tells_74 : decode cX11_tells 74 = .ok (.iaload, 1) := by decide +kernel
theorem dX11_tells_75 : decode cX11_tells 75 = .ok (.iconst 1, 1) := by decide +kernel
theorem dX11_tells_76 : decode cX11_tells 76 = .ok (.iadd, 1) := by decide +kernel
theorem dX11_tells_77 : decode cX11_tells 77 = .ok (.iastore, 1) := by decide +kernel
theorem dX11_tells_78 : decode cX11_tells 78 = .ok (.iconst 1, 1) := by decide +kernel
theorem dX11_tells_79 : decode cX11_tells 79 = .ok (.ireturn, 1) := by decide +kernel
theorem dX11_hushOf_0 : decode cX11_hushOf 0 = .ok (.aload_n 0, 1) := by decide +kernel
theorem dX11_hushOf_1 : decode cX11_hushOf 1 = .ok (.getfield 431, 3) := by decide +kernel
theorem dX11_hushOf_4 : decode cX11_hushOf 4 = .ok (.iconst 5, 1) := by decide +kernel
theorem dX11_hushOf_5 : decode cX11_hushOf 5 = .ok (.if_icmp .ne 7, 3) := by decide +kernel
theorem dX11_hushOf_8 : decode cX11_hushOf 8 = .ok (.iconst 0, 1) := by decide +kernel
theorem dX11_hushOf_9 : decode cX11_hushOf 9 = .ok (.goto 30, 3) := by decide +kernel
theorem dX11_hushOf_12 : decode cX11_hushOf 12 = .ok (.aload_n 0, 1) := by decide +kernel
theorem dX11_hushOf_13 : decode cX11_hushOf 13 = .ok (.getfield 431, 3) := by decide +kernel
theorem dX11_hushOf_16 : decode cX11_hushOf 16 = .ok (.iconst 1, 1) := by decide +kernel
theorem dX11_hushOf_17 : decode cX11_hushOf 17 = .ok (.if_icmp .ne 8, 3) := by decide +kernel
theorem dX11_hushOf_20 : decode cX11_hushOf 20 = .ok (.bipush 100, 2) := by decide +kernel
theorem dX11_hushOf_22 : decode cX11_hushOf 22 = .ok (.goto 17, 3) := by decide +kernel
theorem dX11_hushOf_25 : decode cX11_hushOf 25 = .ok (.aload_n 0, 1) := by decide +kernel
theorem dX11_hushOf_26 : decode cX11_hushOf 26 = .ok (.iconst 1, 1) := by decide +kernel
theorem dX11_hushOf_27 : decode cX11_hushOf 27 = .ok (.iload_n 1, 1) := by decide +kernel
theorem dX11_hushOf_28 : decode cX11_hushOf 28 = .ok (.bipush 100, 2) := by decide +kernel
theorem dX11_hushOf_30 : decode cX11_hushOf 30 = .ok (.aload_n 0, 1) := by decide +kernel
theorem dX11_hushOf_31 : decode cX11_hushOf 31 = .ok (.getfield 13, 3) := by decide +kernel
theorem dX11_hushOf_34 : decode cX11_hushOf 34 = .ok (.iconst 5, 1) := by decide +kernel
theorem dX11_hushOf_35 : decode cX11_hushOf 35 = .ok (.iaload, 1) := by decide +kernel
theorem dX11_hushOf_36 : decode cX11_hushOf 36 = .ok (.invokevirtual 434, 3) := by decide +kernel
theorem dX11_hushOf_39 : decode cX11_hushOf 39 = .ok (.ireturn, 1) := by decide +kernel
theorem dX11_isHushed_0 : decode cX11_isHushed 0 = .ok (.iload_n 3, 1) := by decide +kernel
theorem dX11_isHushed_1 : decode cX11_isHushed 1 = .ok (.ifCond .eq 13, 3) := by decide +kernel
theorem dX11_isHushed_4 : decode cX11_isHushed 4 = .ok (.iload_n 2, 1) := by decide +kernel
theorem dX11_isHushed_5 : decode cX11_isHushed 5 = .ok (.ifCond .eq 9, 3) := by decide +kernel
theorem dX11_isHushed_8 : decode cX11_isHushed 8 = .ok (.iload_n 2, 1) := by decide +kernel
theorem dX11_isHushed_9 : decode cX11_isHushed 9 = .ok (.bipush 100, 2) := by decide +kernel
theorem dX11_isHushed_11 : decode cX11_isHushed 11 = .ok (.if_icmp .ne 15, 3) := by decide +kernel
theorem dX11_isHushed_14 : decode cX11_isHushed 14 = .ok (.iload_n 2, 1) := by decide +kernel
theorem dX11_isHushed_15 : decode cX11_isHushed 15 = .ok (.bipush 50, 2) := by decide +kernel
theorem dX11_isHushed_17 : decode cX11_isHushed 17 = .ok (.if_icmp .lt 7, 3) := by decide +kernel
theorem dX11_isHushed_20 : decode cX11_isHushed 20 = .ok (.iconst 1, 1) := by decide +kernel
theorem dX11_isHushed_21 : decode cX11_isHushed 21 = .ok (.goto 4, 3) := by decide +kernel
theorem dX11_isHushed_24 : decode cX11_isHushed 24 = .ok (.iconst 0, 1) := by decide +kernel
theorem dX11_isHushed_25 : decode cX11_isHushed 25 = .ok (.ireturn, 1) := by decide +kernel
theorem dX11_isHushed_26 : decode cX11_isHushed 26 = .ok (.aload_n 0, 1) := by decide +kernel
theorem dX11_isHushed_27 : decode cX11_isHushed 27 = .ok (.getfield 78, 3) := by decide +kernel
theorem dX11_isHushed_30 : decode cX11_isHushed 30 = .ok (.iload_n 1, 1) := by decide +kernel
theorem dX11_isHushed_31 : decode cX11_isHushed 31 = .ok (.aload_n 0, 1) := by decide +kernel
theorem dX11_isHushed_32 : decode cX11_isHushed 32 = .ok (.getfield 78, 3) := by decide +kernel
theorem dX11_isHushed_35 : decode cX11_isHushed 35 = .ok (.iload_n 1, 1) := by decide +kernel
theorem dX11_isHushed_36 : decode cX11_isHushed 36 = .ok (.iaload, 1) := by decide +kernel
theorem dX11_isHushed_37 : decode cX11_isHushed 37 = .ok (.ldc_w 438, 3) := by decide +kernel
theorem dX11_isHushed_40 : decode cX11_isHushed 40 = .ok (.imul, 1) := by decide +kernel
theorem dX11_isHushed_41 : decode cX11_isHushed 41 = .ok (.sipush 12345, 3) := by decide +kernel
theorem dX11_isHushed_44 : decode cX11_isHushed 44 = .ok (.iadd, 1) := by decide +kernel
theorem dX11_isHushed_45 : decode cX11_isHushed 45 = .ok (.ldc_w 441, 3) := by decide +kernel
theorem dX11_isHushed_48 : decode cX11_isHushed 48 = .ok (.iand, 1) := by decide +kernel
theorem dX11_isHushed_49 : decode cX11_isHushed 49 = .ok (.iastore, 1) := by decide +kernel
theorem dX11_isHushed_50 : decode cX11_isHushed 50 = .ok (.aload_n 0, 1) := by decide +kernel
theorem dX11_isHushed_51 : decode cX11_isHushed 51 = .ok (.getfield 78, 3) := by decide +kernel
theorem dX11_isHushed_54 : decode cX11_isHushed 54 = .ok (.iload_n 1, 1) := by decide +kernel
theorem dX11_isHushed_55 : decode cX11_isHushed 55 = .ok (.iaload, 1) := by decide +kernel
theorem dX11_isHushed_56 : decode cX11_isHushed 56 = .ok (.bipush 16, 2) := by decide +kernel
theorem dX11_isHushed_58 : decode cX11_isHushed 58 = .ok (.ishr, 1) := by decide +kernel
theorem dX11_isHushed_59 : decode cX11_isHushed 59 = .ok (.bipush 100, 2) := by decide +kernel
theorem dX11_isHushed_61 : decode cX11_isHushed 61 = .ok (.irem, 1) := by decide +kernel
theorem dX11_isHushed_62 : decode cX11_isHushed 62 = .ok (.iload_n 2, 1) := by decide +kernel
theorem dX11_isHushed_63 : decode cX11_isHushed 63 = .ok (.if_icmp .ge 7, 3) := by decide +kernel
theorem dX11_isHushed_66 : decode cX11_isHushed 66 = .ok (.iconst 1, 1) := by decide +kernel
theorem dX11_isHushed_67 : decode cX11_isHushed 67 = .ok (.goto 4, 3) := by decide +kernel
theorem dX11_isHushed_70 : decode cX11_isHushed 70 = .ok (.iconst 0, 1) := by decide +kernel
theorem dX11_isHushed_71 : decode cX11_isHushed 71 = .ok (.ireturn, 1) := by decide +kernel
theorem dX11_asks_0 : decode cX11_asks 0 = .ok (.aload_n 0, 1) := by decide +kernel
theorem dX11_asks_1 : decode cX11_asks 1 = .ok (.iload_n 1, 1) := by decide +kernel
theorem dX11_asks_2 : decode cX11_asks 2 = .ok (.invokevirtual 428, 3) := by decide +kernel
theorem dX11_asks_5 : decode cX11_asks 5 = .ok (.iconst 0, 1) := by decide +kernel
theorem dX11_asks_6 : decode cX11_asks 6 = .ok (.istore_n 3, 1) := by decide +kernel
theorem dX11_asks_7 : decode cX11_asks 7 = .ok (.iconst 0, 1) := by decide +kernel
theorem dX11_asks_8 : decode cX11_asks 8 = .ok (.istore 4, 2) := by decide +kernel
theorem dX11_asks_10 : decode cX11_asks 10 = .ok (.iconst 0, 1) := by decide +kernel
theorem dX11_asks_11 : decode cX11_asks 11 = .ok (.istore 5, 2) := by decide +kernel
theorem dX11_asks_13 : decode cX11_asks 13 = .ok (.iload 5, 2) := by decide +kernel
theorem dX11_asks_15 : decode cX11_asks 15 = .ok (.aload_n 0, 1) := by decide +kernel
theorem dX11_asks_16 : decode cX11_asks 16 = .ok (.getfield 13, 3) := by decide +kernel
theorem dX11_asks_19 : decode cX11_asks 19 = .ok (.iconst 1, 1) := by decide +kernel
theorem dX11_asks_20 : decode cX11_asks 20 = .ok (.iaload, 1) := by decide +kernel
theorem dX11_asks_21 : decode cX11_asks 21 = .ok (.if_icmp .ge 156, 3) := by decide +kernel
theorem dX11_asks_24 : decode cX11_asks 24 = .ok (.aload_n 0, 1) := by decide +kernel
theorem dX11_asks_25 : decode cX11_asks 25 = .ok (.getfield 431, 3) := by decide +kernel
theorem dX11_asks_28 : decode cX11_asks 28 = .ok (.iconst 2, 1) := by decide +kernel
theorem dX11_asks_29 : decode cX11_asks 29 = .ok (.if_icmp .ne 15, 3) := by decide +kernel
theorem dX11_asks_32 : decode cX11_asks 32 = .ok (.iload 5, 2) := by decide +kernel
theorem dX11_asks_34 : decode cX11_asks 34 = .ok (.aload_n 0, 1) := by decide +kernel
theorem dX11_asks_35 : decode cX11_asks 35 = .ok (.getfield 122, 3) := by decide +kernel
theorem dX11_asks_38 : decode cX11_asks 38 = .ok (.if_icmp .ne 6, 3) := by decide +kernel
theorem dX11_asks_41 : decode cX11_asks 41 = .ok (.goto 130, 3) := by decide +kernel
theorem dX11_asks_44 : decode cX11_asks 44 = .ok (.aload_n 0, 1) := by decide +kernel
theorem dX11_asks_45 : decode cX11_asks 45 = .ok (.iload 5, 2) := by decide +kernel
theorem dX11_asks_47 : decode cX11_asks 47 = .ok (.invokevirtual 442, 3) := by decide +kernel
theorem dX11_asks_50 : decode cX11_asks 50 = .ok (.istore 6, 2) := by decide +kernel
theorem dX11_asks_52 : decode cX11_asks 52 = .ok (.aload_n 0, 1) := by decide +kernel
theorem dX11_asks_53 : decode cX11_asks 53 = .ok (.getfield 103, 3) := by decide +kernel
theorem dX11_asks_56 : decode cX11_asks 56 = .ok (.sipush 729, 3) := by decide +kernel
theorem dX11_asks_59 : decode cX11_asks 59 = .ok (.iload 5, 2) := by decide +kernel
theorem dX11_asks_61 : decode cX11_asks 61 = .ok (.imul, 1) := by decide +kernel
theorem dX11_asks_62 : decode cX11_asks 62 = .ok (.aload_n 0, 1) := by decide +kernel
theorem dX11_asks_63 : decode cX11_asks 63 = .ok (.getfield 338, 3) := by decide +kernel
theorem dX11_asks_66 : decode cX11_asks 66 = .ok (.iadd, 1) := by decide +kernel
theorem dX11_asks_67 : decode cX11_asks 67 = .ok (.baload, 1) := by decide +kernel
theorem dX11_asks_68 : decode cX11_asks 68 = .ok (.ifCond .ne 24, 3) := by decide +kernel
theorem dX11_asks_71 : decode cX11_asks 71 = .ok (.iload 4, 2) := by decide +kernel
theorem dX11_asks_73 : decode cX11_asks 73 = .ok (.iload 6, 2) := by decide +kernel
theorem dX11_asks_75 : decode cX11_asks 75 = .ok (.ifCond .ne 10, 3) := by decide +kernel
theorem dX11_asks_78 : decode cX11_asks 78 = .ok (.iconst 1, 1) := by decide +kernel
theorem dX11_asks_79 : decode cX11_asks 79 = .ok (.iload 5, 2) := by decide +kernel
theorem dX11_asks_81 : decode cX11_asks 81 = .ok (.ishl, 1) := by decide +kernel
theorem dX11_asks_82 : decode cX11_asks 82 = .ok (.goto 4, 3) := by decide +kernel
theorem dX11_asks_85 : decode cX11_asks 85 = .ok (.iconst 0, 1) := by decide +kernel
theorem dX11_asks_86 : decode cX11_asks 86 = .ok (.ior, 1) := by decide +kernel
theorem dX11_asks_87 : decode cX11_asks 87 = .ok (.istore 4, 2) := by decide +kernel
theorem dX11_asks_89 : decode cX11_asks 89 = .ok (.goto 82, 3) := by decide +kernel
theorem dX11_asks_92 : decode cX11_asks 92 = .ok (.aload_n 0, 1) := by decide +kernel
theorem dX11_asks_93 : decode cX11_asks 93 = .ok (.iload_n 1, 1) := by decide +kernel
theorem dX11_asks_94 : decode cX11_asks 94 = .ok (.iload 6, 2) := by decide +kernel
theorem dX11_asks_96 : decode cX11_asks 96 = .ok (.iload_n 2, 1) := by decide +kernel
theorem dX11_asks_97 : decode cX11_asks 97 = .ok (.invokevirtual 445, 3) := by decide +kernel
theorem dX11_asks_100 : decode cX11_asks 100 = .ok (.ifCond .eq 6, 3) := by decide +kernel
theorem dX11_asks_103 : decode cX11_asks 103 = .ok (.goto 68, 3) := by decide +kernel
theorem dX11_asks_106 : decode cX11_asks 106 = .ok (.iload_n 3, 1) := by decide +kernel
theorem dX11_asks_107 : decode cX11_asks 107 = .ok (.iconst 1, 1) := by decide +kernel
theorem dX11_asks_108 : decode cX11_asks 108 = .ok (.iload 5, 2) := by decide +kernel
theorem dX11_asks_110 : decode cX11_asks 110 = .ok (.ishl, 1) := by decide +kernel
theorem dX11_asks_111 : decode cX11_asks 111 = .ok (.ior, 1) := by decide +kernel
theorem dX11_asks_112 : decode cX11_asks 112 = .ok (.istore_n 3, 1) := by decide +kernel
theorem dX11_asks_113 : decode cX11_asks 113 = .ok (.aload_n 0, 1) := by decide +kernel
theorem dX11_asks_114 : decode cX11_asks 114 = .ok (.getfield 87, 3) := by decide +kernel
theorem dX11_asks_117 : decode cX11_asks 117 = .ok (.iload_n 1, 1) := by decide +kernel
theorem dX11_asks_118 : decode cX11_asks 118 = .ok (.iaload, 1) := by decide +kernel
theorem dX11_asks_119 : decode cX11_asks 119 = .ok (.iload 5, 2) := by decide +kernel
theorem dX11_asks_121 : decode cX11_asks 121 = .ok (.ishr, 1) := by decide +kernel
theorem dX11_asks_122 : decode cX11_asks 122 = .ok (.iconst 1, 1) := by decide +kernel
theorem dX11_asks_123 : decode cX11_asks 123 = .ok (.iand, 1) := by decide +kernel
theorem dX11_asks_124 : decode cX11_asks 124 = .ok (.iconst 1, 1) := by decide +kernel
theorem dX11_asks_125 : decode cX11_asks 125 = .ok (.if_icmp .ne 6, 3) := by decide +kernel
theorem dX11_asks_128 : decode cX11_asks 128 = .ok (.goto 43, 3) := by decide +kernel
theorem dX11_asks_131 : decode cX11_asks 131 = .ok (.aload_n 0, 1) := by decide +kernel
theorem dX11_asks_132 : decode cX11_asks 132 = .ok (.getfield 93, 3) := by decide +kernel
theorem dX11_asks_135 : decode cX11_asks 135 = .ok (.bipush 6, 2) := by decide +kernel
theorem dX11_asks_137 : decode cX11_asks 137 = .ok (.iload_n 1, 1) := by decide +kernel
theorem dX11_asks_138 : decode cX11_asks 138 = .ok (.imul, 1) := by decide +kernel
theorem dX11_asks_139 : decode cX11_asks 139 = .ok (.iload 5, 2) := by decide +kernel
theorem dX11_asks_141 : decode cX11_asks 141 = .ok (.iadd, 1) := by decide +kernel
theorem dX11_asks_142 : decode cX11_asks 142 = .ok (.dup2, 1) := by decide +kernel
theorem dX11_asks_143 : decode cX11_asks 143 = .ok (.iaload, 1) := by decide +kernel
theorem dX11_asks_144 : decode cX11_asks 144 = .ok (.aload_n 0, 1) := by decide +kernel
theorem dX11_asks_145 : decode cX11_asks 145 = .ok (.iconst 0, 1) := by decide +kernel
theorem dX11_asks_146 : decode cX11_asks 146 = .ok (.iload 5, 2) := by decide +kernel
theorem dX11_asks_148 : decode cX11_asks 148 = .ok (.sipush 999, 3) := by decide +kernel
theorem dX11_asks_151 : decode cX11_asks 151 = .ok (.bipush 10, 2) := by decide +kernel
theorem dX11_asks_153 : decode cX11_asks 153 = .ok (.invokevirtual 434, 3) := by decide +kernel
theorem dX11_asks_156 : decode cX11_asks 156 = .ok (.iadd, 1) := by decide +kernel
theorem dX11_asks_157 : decode cX11_asks 157 = .ok (.iastore, 1) := by decide +kernel
theorem dX11_asks_158 : decode cX11_asks 158 = .ok (.aload_n 0, 1) := by decide +kernel
theorem dX11_asks_159 : decode cX11_asks 159 = .ok (.getfield 87, 3) := by decide +kernel
theorem dX11_asks_162 : decode cX11_asks 162 = .ok (.iload_n 1, 1) := by decide +kernel
theorem dX11_asks_163 : decode cX11_asks 163 = .ok (.dup2, 1) := by decide +kernel
theorem dX11_asks_164 : decode cX11_asks 164 = .ok (.iaload, 1) := by decide +kernel
theorem dX11_asks_165 : decode cX11_asks 165 = .ok (.iconst 1, 1) := by decide +kernel
theorem dX11_asks_166 : decode cX11_asks 166 = .ok (.iload 5, 2) := by decide +kernel
theorem dX11_asks_168 : decode cX11_asks 168 = .ok (.ishl, 1) := by decide +kernel
theorem dX11_asks_169 : decode cX11_asks 169 = .ok (.ior, 1) := by decide +kernel
theorem dX11_asks_170 : decode cX11_asks 170 = .ok (.iastore, 1) := by decide +kernel
theorem dX11_asks_171 : decode cX11_asks 171 = .ok (.iinc 5 1, 3) := by decide +kernel
theorem dX11_asks_174 : decode cX11_asks 174 = .ok (.goto (-161), 3) := by decide +kernel
theorem dX11_asks_177 : decode cX11_asks 177 = .ok (.iconst 0, 1) := by decide +kernel
theorem dX11_asks_178 : decode cX11_asks 178 = .ok (.istore 5, 2) := by decide +kernel
theorem dX11_asks_180 : decode cX11_asks 180 = .ok (.iload 5, 2) := by decide +kernel
theorem dX11_asks_182 : decode cX11_asks 182 = .ok (.aload_n 0, 1) := by decide +kernel
theorem dX11_asks_183 : decode cX11_asks 183 = .ok (.getfield 335, 3) := by decide +kernel
theorem dX11_asks_186 : decode cX11_asks 186 = .ok (.if_icmp .ge 90, 3) := by decide +kernel
theorem dX11_asks_189 : decode cX11_asks 189 = .ok (.iconst 0, 1) := by decide +kernel
theorem dX11_asks_190 : decode cX11_asks 190 = .ok (.istore 6, 2) := by decide +kernel
theorem dX11_asks_192 : decode cX11_asks 192 = .ok (.iload 6, 2) := by decide +kernel
theorem dX11_asks_194 : decode cX11_asks 194 = .ok (.aload_n 0, 1) := by decide +kernel
theorem dX11_asks_195 : decode cX11_asks 195 = .ok (.getfield 13, 3) := by decide +kernel
theorem dX11_asks_198 : decode cX11_asks 198 = .ok (.iconst 1, 1) := by decide +kernel
theorem dX11_asks_199 : decode cX11_asks 199 = .ok (.iaload, 1) := by decide +kernel
theorem dX11_asks_200 : decode cX11_asks 200 = .ok (.if_icmp .ge 70, 3) := by decide +kernel
theorem dX11_asks_203 : decode cX11_asks 203 = .ok (.aload_n 0, 1) := by decide +kernel
theorem dX11_asks_204 : decode cX11_asks 204 = .ok (.getfield 103, 3) := by decide +kernel
theorem dX11_asks_207 : decode cX11_asks 207 = .ok (.sipush 729, 3) := by decide +kernel
theorem dX11_asks_210 : decode cX11_asks 210 = .ok (.iload 6, 2) := by decide +kernel
theorem dX11_asks_212 : decode cX11_asks 212 = .ok (.imul, 1) := by decide +kernel
theorem dX11_asks_213 : decode cX11_asks 213 = .ok (.iload 5, 2) := by decide +kernel
theorem dX11_asks_215 : decode cX11_asks 215 = .ok (.iadd, 1) := by decide +kernel
theorem dX11_asks_216 : decode cX11_asks 216 = .ok (.baload, 1) := by decide +kernel
theorem dX11_asks_217 : decode cX11_asks 217 = .ok (.istore 7, 2) := by decide +kernel
theorem dX11_asks_219 : decode cX11_asks 219 = .ok (.iload_n 3, 1) := by decide +kernel
theorem dX11_asks_220 : decode cX11_asks 220 = .ok (.iload 6, 2) := by decide +kernel
theorem dX11_asks_222 : decode cX11_asks 222 = .ok (.ishr, 1) := by decide +kernel
theorem dX11_asks_223 : decode cX11_asks 223 = .ok (.iconst 1, 1) := by decide +kernel
theorem dX11_asks_224 : decode cX11_asks 224 = .ok (.iand, 1) := by decide +kernel
theorem dX11_asks_225 : decode cX11_asks 225 = .ok (.iconst 1, 1) := by decide +kernel
theorem dX11_asks_226 : decode cX11_asks 226 = .ok (.if_icmp .ne 8, 3) := by decide +kernel
theorem dX11_asks_229 : decode cX11_asks 229 = .ok (.iload 7, 2) := by decide +kernel
theorem dX11_asks_231 : decode cX11_asks 231 = .ok (.ifCond .eq 19, 3) := by decide +kernel
theorem dX11_asks_234 : decode cX11_asks 234 = .ok (.iload 4, 2) := by decide +kernel
theorem dX11_asks_236 : decode cX11_asks 236 = .ok (.iload 6, 2) := by decide +kernel
theorem dX11_asks_238 : decode cX11_asks 238 = .ok (.ishr, 1) := by decide +kernel
theorem dX11_asks_239 : decode cX11_asks 239 = .ok (.iconst 1, 1) := by decide +kernel
theorem dX11_asks_240 : decode cX11_asks 240 = .ok (.iand, 1) := by decide +kernel
theorem dX11_asks_241 : decode cX11_asks 241 = .ok (.iconst 1, 1) := by decide +kernel
theorem dX11_asks_242 : decode cX11_asks 242 = .ok (.if_icmp .ne 22, 3) := by decide +kernel
theorem dX11_asks_245 : decode cX11_asks 245 = .ok (.iload 7, 2) := by decide +kernel
theorem dX11_asks_247 : decode cX11_asks 247 = .ok (.ifCond .eq 17, 3) := by decide +kernel
theorem dX11_asks_250 : decode cX11_asks 250 = .ok (.aload_n 0, 1) := by decide +kernel
theorem dX11_asks_251 : decode cX11_asks 251 = .ok (.getfield 96, 3) := by decide +kernel
theorem dX11_asks_254 : decode cX11_asks 254 = .ok (.sipush 729, 3) := by decide +kernel
theorem dX11_asks_257 : decode cX11_asks 257 = .ok (.iload_n 1, 1) := by decide +kernel
theorem dX11_asks_258 : decode cX11_asks 258 = .ok (.imul, 1) := by decide +kernel
theorem dX11_asks_259 : decode cX11_asks 259 = .ok (.iload 5, 2) := by decide +kernel
theorem dX11_asks_261 : decode cX11_asks 261 = .ok (.iadd, 1) := by decide +kernel
theorem dX11_asks_262 : decode cX11_asks 262 = .ok (.iconst 0, 1) := by decide +kernel
theorem dX11_asks_263 : decode cX11_asks 263 = .ok (.bastore, 1) := by decide +kernel
theorem dX11_asks_264 : decode cX11_asks 264 = .ok (.iinc 6 1, 3) := by decide +kernel
theorem dX11_asks_267 : decode cX11_asks 267 = .ok (.goto (-75), 3) := by decide +kernel
theorem dX11_asks_270 : decode cX11_asks 270 = .ok (.iinc 5 1, 3) := by decide +kernel
theorem dX11_asks_273 : decode cX11_asks 273 = .ok (.goto (-93), 3) := by decide +kernel
theorem dX11_asks_276 : decode cX11_asks 276 = .ok (.iload_n 3, 1) := by decide +kernel
theorem dX11_asks_277 : decode cX11_asks 277 = .ok (.ireturn, 1) := by decide +kernel
theorem dX11_passes_0 : decode cX11_passes 0 = .ok (.iconst 0, 1) := by decide +kernel
theorem dX11_passes_1 : decode cX11_passes 1 = .ok (.istore_n 3, 1) := by decide +kernel
theorem dX11_passes_2 : decode cX11_passes 2 = .ok (.iload_n 3, 1) := by decide +kernel
theorem dX11_passes_3 : decode cX11_passes 3 = .ok (.aload_n 0, 1) := by decide +kernel
theorem dX11_passes_4 : decode cX11_passes 4 = .ok (.getfield 13, 3) := by decide +kernel
theorem dX11_passes_7 : decode cX11_passes 7 = .ok (.iconst 3, 1) := by decide +kernel
theorem dX11_passes_8 : decode cX11_passes 8 = .ok (.iaload, 1) := by decide +kernel
theorem dX11_passes_9 : decode cX11_passes 9 = .ok (.if_icmp .ge 56, 3) := by decide +kernel
theorem dX11_passes_12 : decode cX11_passes 12 = .ok (.aload_n 0, 1) := by decide +kernel
theorem dX11_passes_13 : decode cX11_passes 13 = .ok (.getfield 431, 3) := by decide +kernel
theorem dX11_passes_16 : decode cX11_passes 16 = .ok (.iconst 3, 1) := by decide +kernel
theorem dX11_passes_17 : decode cX11_passes 17 = .ok (.if_icmp .eq 48, 3) := by decide +kernel
theorem dX11_passes_20 : decode cX11_passes 20 = .ok (.aload_n 0, 1) := by decide +kernel
theorem dX11_passes_21 : decode cX11_passes 21 = .ok (.getfield 43, 3) := by decide +kernel
theorem dX11_passes_24 : decode cX11_passes 24 = .ok (.iload_n 3, 1) := by decide +kernel
theorem dX11_passes_25 : decode cX11_passes 25 = .ok (.iaload, 1) := by decide +kernel
theorem dX11_passes_26 : decode cX11_passes 26 = .ok (.aload_n 0, 1) := by decide +kernel
theorem dX11_passes_27 : decode cX11_passes 27 = .ok (.getfield 75, 3) := by decide +kernel
theorem dX11_passes_30 : decode cX11_passes 30 = .ok (.iload_n 1, 1) := by decide +kernel
theorem dX11_passes_31 : decode cX11_passes 31 = .ok (.iaload, 1) := by decide +kernel
theorem dX11_passes_32 : decode cX11_passes 32 = .ok (.if_icmp .ne 27, 3) := by decide +kernel
theorem dX11_passes_35 : decode cX11_passes 35 = .ok (.aload_n 0, 1) := by decide +kernel
theorem dX11_passes_36 : decode cX11_passes 36 = .ok (.iload_n 1, 1) := by decide +kernel
theorem dX11_passes_37 : decode cX11_passes 37 = .ok (.aload_n 0, 1) := by decide +kernel
theorem dX11_passes_38 : decode cX11_passes 38 = .ok (.getfield 40, 3) := by decide +kernel
theorem dX11_passes_41 : decode cX11_passes 41 = .ok (.iload_n 3, 1) := by decide +kernel
theorem dX11_passes_42 : decode cX11_passes 42 = .ok (.iaload, 1) := by decide +kernel
theorem dX11_passes_43 : decode cX11_passes 43 = .ok (.invokevirtual 449, 3) := by decide +kernel
theorem dX11_passes_46 : decode cX11_passes 46 = .ok (.ifCond .ne 13, 3) := by decide +kernel
theorem dX11_passes_49 : decode cX11_passes 49 = .ok (.aload_n 0, 1) := by decide +kernel
theorem dX11_passes_50 : decode cX11_passes 50 = .ok (.getfield 84, 3) := by decide +kernel
theorem dX11_passes_53 : decode cX11_passes 53 = .ok (.iload_n 1, 1) := by decide +kernel
theorem dX11_passes_54 : decode cX11_passes 54 = .ok (.dup2, 1) := by decide +kernel
theorem dX11_passes_55 : decode cX11_passes 55 = .ok (.iaload, 1) := by decide +kernel
theorem dX11_passes_56 : decode cX11_passes 56 = .ok (.iconst 1, 1) := by decide +kernel
theorem dX11_passes_57 : decode cX11_passes 57 = .ok (.iadd, 1) := by decide +kernel
theorem dX11_passes_58 : decode cX11_passes 58 = .ok (.iastore, 1) := by decide +kernel
theorem dX11_passes_59 : decode cX11_passes 59 = .ok (.iinc 3 1, 3) := by decide +kernel
theorem dX11_passes_62 : decode cX11_passes 62 = .ok (.goto (-60), 3) := by decide +kernel
theorem dX11_passes_65 : decode cX11_passes 65 = .ok (.iconst 0, 1) := by decide +kernel
theorem dX11_passes_66 : decode cX11_passes 66 = .ok (.istore_n 3, 1) := by decide +kernel
theorem dX11_passes_67 : decode cX11_passes 67 = .ok (.iload_n 3, 1) := by decide +kernel
theorem dX11_passes_68 : decode cX11_passes 68 = .ok (.aload_n 0, 1) := by decide +kernel
theorem dX11_passes_69 : decode cX11_passes 69 = .ok (.getfield 13, 3) := by decide +kernel
theorem dX11_passes_72 : decode cX11_passes 72 = .ok (.iconst 4, 1) := by decide +kernel
theorem dX11_passes_73 : decode cX11_passes 73 = .ok (.iaload, 1) := by decide +kernel
theorem dX11_passes_74 : decode cX11_passes 74 = .ok (.if_icmp .ge 31, 3) := by decide +kernel
theorem dX11_passes_77 : decode cX11_passes 77 = .ok (.aload_n 0, 1) := by decide +kernel
theorem dX11_passes_78 : decode cX11_passes 78 = .ok (.getfield 46, 3) := by decide +kernel
theorem dX11_passes_81 : decode cX11_passes 81 = .ok (.iload_n 3, 1) := by decide +kernel
theorem dX11_passes_82 : decode cX11_passes 82 = .ok (.iaload, 1) := by decide +kernel
theorem dX11_passes_83 : decode cX11_passes 83 = .ok (.aload_n 0, 1) := by decide +kernel
theorem dX11_passes_84 : decode cX11_passes 84 = .ok (.getfield 75, 3) := by decide +kernel
theorem dX11_passes_87 : decode cX11_passes 87 = .ok (.iload_n 1, 1) := by decide +kernel
theorem dX11_passes_88 : decode cX11_passes 88 = .ok (.iaload, 1) := by decide +kernel
theorem dX11_passes_89 : decode cX11_passes 89 = .ok (.if_icmp .ne 10, 3) := by decide +kernel
theorem dX11_passes_92 : decode cX11_passes 92 = .ok (.aload_n 0, 1) := by decide +kernel
theorem dX11_passes_93 : decode cX11_passes 93 = .ok (.iload_n 1, 1) := by decide +kernel
theorem dX11_passes_94 : decode cX11_passes 94 = .ok (.iload_n 2, 1) := by decide +kernel
theorem dX11_passes_95 : decode cX11_passes 95 = .ok (.invokevirtual 452, 3) := by decide +kernel
theorem dX11_passes_98 : decode cX11_passes 98 = .ok (.pop, 1) := by decide +kernel
theorem dX11_passes_99 : decode cX11_passes 99 = .ok (.iinc 3 1, 3) := by decide +kernel
theorem dX11_passes_102 : decode cX11_passes 102 = .ok (.goto (-35), 3) := by decide +kernel
theorem dX11_passes_105 : decode cX11_passes 105 = .ok (.aload_n 0, 1) := by decide +kernel
theorem dX11_passes_106 : decode cX11_passes 106 = .ok (.getfield 75, 3) := by decide +kernel
theorem dX11_passes_109 : decode cX11_passes 109 = .ok (.iload_n 1, 1) := by decide +kernel
theorem dX11_passes_110 : decode cX11_passes 110 = .ok (.dup2, 1) := by decide +kernel
theorem dX11_passes_111 : decode cX11_passes 111 = .ok (.iaload, 1) := by decide +kernel
theorem dX11_passes_112 : decode cX11_passes 112 = .ok (.iconst 1, 1) := by decide +kernel
theorem dX11_passes_113 : decode cX11_passes 113 = .ok (.iadd, 1) := by decide +kernel
theorem dX11_passes_114 : decode cX11_passes 114 = .ok (.iastore, 1) := by decide +kernel
theorem dX11_passes_115 : decode cX11_passes 115 = .ok (.return_, 1) := by decide +kernel
