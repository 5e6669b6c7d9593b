theorem dX11_token_0 : decode cX11_token 0 = .ok (.aload_n 0, 1) := by decide +kernel
theorem dX11_token_1 : decode cX11_token 1 = .ok (.invokevirtual 140, 3) := by decide +kernel
theorem dX11_token_4 : decode cX11_token 4 = .ok (.bipush 10, 2) := by decide +kernel
theorem dX11_token_6 : decode cX11_token 6 = .ok (.if_icmp .eq 12, 3) := by decide +kernel
theorem dX11_token_9 : decode cX11_token 9 = .ok (.aload_n 0, 1) := by decide +kernel
theorem dX11_token_10 : decode cX11_token 10 = .ok (.invokevirtual 140, 3) := by decide +kernel
theorem dX11_token_13 : decode cX11_token 13 = .ok (.bipush 32, 2) := by decide +kernel
theorem dX11_token_15 : decode cX11_token 15 = .ok (.if_icmp .ne 16, 3) := by decide +kernel
theorem dX11_token_18 : decode cX11_token 18 = .ok (.aload_n 0, 1) := by decide +kernel
theorem dX11_token_19 : decode cX11_token 19 = .ok (.dup, 1) := by decide +kernel
theorem dX11_token_20 : decode cX11_token 20 = .ok (.getfield 134, 3) := by decide +kernel
theorem dX11_token_23 : decode cX11_token 23 = .ok (.iconst 1, 1) := by decide +kernel
theorem dX11_token_24 : decode cX11_token 24 = .ok (.iadd, 1) := by decide +kernel
theorem dX11_token_25 : decode cX11_token 25 = .ok (.putfield 134, 3) := by decide +kernel
theorem dX11_token_28 : decode cX11_token 28 = .ok (.goto (-28), 3) := by decide +kernel
theorem dX11_token_31 : decode cX11_token 31 = .ok (.aload_n 0, 1) := by decide +kernel
theorem dX11_token_32 : decode cX11_token 32 = .ok (.aload_n 0, 1) := by decide +kernel
theorem dX11_token_33 : decode cX11_token 33 = .ok (.getfield 134, 3) := by decide +kernel
theorem dX11_token_36 : decode cX11_token 36 = .ok (.putfield 144, 3) := by decide +kernel
theorem dX11_token_39 : decode cX11_token 39 = .ok (.aload_n 0, 1) := by decide +kernel
theorem dX11_token_40 : decode cX11_token 40 = .ok (.invokevirtual 140, 3) := by decide +kernel
theorem dX11_token_43 : decode cX11_token 43 = .ok (.istore_n 1, 1) := by decide +kernel
theorem dX11_token_44 : decode cX11_token 44 = .ok (.iload_n 1, 1) := by decide +kernel
theorem dX11_token_45 : decode cX11_token 45 = .ok (.iconst (-1), 1) := by decide +kernel
theorem dX11_token_46 : decode cX11_token 46 = .ok (.if_icmp .ne 11, 3) := by decide +kernel
theorem dX11_token_49 : decode cX11_token 49 = .ok (.aload_n 0, 1) := by decide +kernel
theorem dX11_token_50 : decode cX11_token 50 = .ok (.iconst 4, 1) := by decide +kernel
theorem dX11_token_51 : decode cX11_token 51 = .ok (.putfield 147, 3) := by decide +kernel
theorem dX11_token_54 : decode cX11_token 54 = .ok (.goto 171, 3) := by decide +kernel
theorem dX11_token_57 : decode cX11_token 57 = .ok (.iload_n 1, 1) := by decide +kernel
theorem dX11_token_58 : decode cX11_token 58 = .ok (.invokestatic 150, 3) := by decide +kernel
theorem dX11_token_61 : decode cX11_token 61 = .ok (.ifCond .eq 84, 3) := by decide +kernel
theorem dX11_token_64 : decode cX11_token 64 = .ok (.aload_n 0, 1) := by decide +kernel
theorem dX11_token_65 : decode cX11_token 65 = .ok (.invokevirtual 140, 3) := by decide +kernel
theorem dX11_token_68 : decode cX11_token 68 = .ok (.invokestatic 150, 3) := by decide +kernel
theorem dX11_token_71 : decode cX11_token 71 = .ok (.ifCond .eq 16, 3) := by decide +kernel
theorem dX11_token_74 : decode cX11_token 74 = .ok (.aload_n 0, 1) := by decide +kernel
theorem dX11_token_75 : decode cX11_token 75 = .ok (.dup, 1) := by decide +kernel
theorem dX11_token_76 : decode cX11_token 76 = .ok (.getfield 134, 3) := by decide +kernel
theorem dX11_token_79 : decode cX11_token 79 = .ok (.iconst 1, 1) := by decide +kernel
theorem dX11_token_80 : decode cX11_token 80 = .ok (.iadd, 1) := by decide +kernel
theorem dX11_token_81 : decode cX11_token 81 = .ok (.putfield 134, 3) := by decide +kernel
theorem dX11_token_84 : decode cX11_token 84 = .ok (.goto (-20), 3) := by decide +kernel
theorem dX11_token_87 : decode cX11_token 87 = .ok (.aload_n 0, 1) := by decide +kernel
theorem dX11_token_88 : decode cX11_token 88 = .ok (.aload_n 0, 1) := by decide +kernel
theorem dX11_token_89 : decode cX11_token 89 = .ok (.invokevirtual 154, 3) := by decide +kernel
theorem dX11_token_92 : decode cX11_token 92 = .ok (.putfield 157, 3) := by decide +kernel
theorem dX11_token_95 : decode cX11_token 95 = .ok (.aload_n 0, 1) := by decide +kernel
theorem dX11_token_96 : decode cX11_token 96 = .ok (.aload_n 0, 1) := by decide +kernel
theorem dX11_token_97 : decode cX11_token 97 = .ok (.getfield 157, 3) := by decide +kernel
theorem dX11_token_100 : decode cX11_token 100 = .ok (.iconst (-1), 1) := by decide +kernel
theorem dX11_token_101 : decode cX11_token 101 = .ok (.if_icmp .eq 7, 3) := by decide +kernel
theorem dX11_token_104 : decode cX11_token 104 = .ok (.iconst 0, 1) := by decide +kernel
theorem dX11_token_105 : decode cX11_token 105 = .ok (.goto 22, 3) := by decide +kernel
theorem dX11_token_108 : decode cX11_token 108 = .ok (.aload_n 0, 1) := by decide +kernel
theorem dX11_token_109 : decode cX11_token 109 = .ok (.getfield 134, 3) := by decide +kernel
theorem dX11_token_112 : decode cX11_token 112 = .ok (.aload_n 0, 1) := by decide +kernel
theorem dX11_token_113 : decode cX11_token 113 = .ok (.getfield 144, 3) := by decide +kernel
theorem dX11_token_116 : decode cX11_token 116 = .ok (.isub, 1) := by decide +kernel
theorem dX11_token_117 : decode cX11_token 117 = .ok (.bipush 6, 2) := by decide +kernel
theorem dX11_token_119 : decode cX11_token 119 = .ok (.if_icmp .le 7, 3) := by decide +kernel
theorem dX11_token_122 : decode cX11_token 122 = .ok (.iconst 5, 1) := by decide +kernel
theorem dX11_token_123 : decode cX11_token 123 = .ok (.goto 4, 3) := by decide +kernel
theorem dX11_token_126 : decode cX11_token 126 = .ok (.iconst 1, 1) := by decide +kernel
theorem dX11_token_127 : decode cX11_token 127 = .ok (.putfield 147, 3) := by decide +kernel
theorem dX11_token_130 : decode cX11_token 130 = .ok (.aload_n 0, 1) := by decide +kernel
theorem dX11_token_131 : decode cX11_token 131 = .ok (.getfield 147, 3) := by decide +kernel
theorem dX11_token_134 : decode cX11_token 134 = .ok (.iconst 1, 1) := by decide +kernel
theorem dX11_token_135 : decode cX11_token 135 = .ok (.if_icmp .ne 90, 3) := by decide +kernel
theorem dX11_token_138 : decode cX11_token 138 = .ok (.aload_n 0, 1) := by decide +kernel
theorem dX11_token_139 : decode cX11_token 139 = .ok (.invokevirtual 160, 3) := by decide +kernel
theorem dX11_token_142 : decode cX11_token 142 = .ok (.goto 83, 3) := by decide +kernel
theorem dX11_token_145 : decode cX11_token 145 = .ok (.iload_n 1, 1) := by decide +kernel
theorem dX11_token_146 : decode cX11_token 146 = .ok (.invokestatic 163, 3) := by decide +kernel
theorem dX11_token_149 : decode cX11_token 149 = .ok (.ifCond .eq 71, 3) := by decide +kernel
theorem dX11_token_152 : decode cX11_token 152 = .ok (.aload_n 0, 1) := by decide +kernel
theorem dX11_token_153 : decode cX11_token 153 = .ok (.iconst 2, 1) := by decide +kernel
theorem dX11_token_154 : decode cX11_token 154 = .ok (.putfield 147, 3) := by decide +kernel
theorem dX11_token_157 : decode cX11_token 157 = .ok (.aload_n 0, 1) := by decide +kernel
theorem dX11_token_158 : decode cX11_token 158 = .ok (.iconst 0, 1) := by decide +kernel
theorem dX11_token_159 : decode cX11_token 159 = .ok (.putfield 157, 3) := by decide +kernel
theorem dX11_token_162 : decode cX11_token 162 = .ok (.aload_n 0, 1) := by decide +kernel
theorem dX11_token_163 : decode cX11_token 163 = .ok (.invokevirtual 140, 3) := by decide +kernel
theorem dX11_token_166 : decode cX11_token 166 = .ok (.invokestatic 163, 3) := by decide +kernel
theorem dX11_token_169 : decode cX11_token 169 = .ok (.ifCond .eq 56, 3) := by decide +kernel
theorem dX11_token_172 : decode cX11_token 172 = .ok (.aload_n 0, 1) := by decide +kernel
theorem dX11_token_173 : decode cX11_token 173 = .ok (.aload_n 0, 1) := by decide +kernel
theorem dX11_token_174 : decode cX11_token 174 = .ok (.getfield 157, 3) := by decide +kernel
theorem dX11_token_177 : decode cX11_token 177 = .ok (.ldc 166, 2) := by decide +kernel
theorem dX11_token_179 : decode cX11_token 179 = .ok (.if_icmp .le 10, 3) := by decide +kernel
theorem dX11_token_182 : decode cX11_token 182 = .ok (.aload_n 0, 1) := by decide +kernel
theorem dX11_token_183 : decode cX11_token 183 = .ok (.getfield 157, 3) := by decide +kernel
theorem dX11_token_186 : decode cX11_token 186 = .ok (.goto 18, 3) := by decide +kernel
theorem dX11_token_189 : decode cX11_token 189 = .ok (.bipush 10, 2) := by decide +kernel
theorem dX11_token_191 : decode cX11_token 191 = .ok (.aload_n 0, 1) := by decide +kernel
theorem dX11_token_192 : decode cX11_token 192 = .ok (.getfield 157, 3) := by decide +kernel
theorem dX11_token_195 : decode cX11_token 195 = .ok (.imul, 1) := by decide +kernel
theorem dX11_token_196 : decode cX11_token 196 = .ok (.aload_n 0, 1) := by decide +kernel
theorem dX11_token_197 : decode cX11_token 197 = .ok (.invokevirtual 140, 3) := by decide +kernel
theorem dX11_token_200 : decode cX11_token 200 = .ok (.iadd, 1) := by decide +kernel
theorem dX11_token_201 : decode cX11_token 201 = .ok (.bipush 48, 2) := by decide +kernel
theorem dX11_token_203 : decode cX11_token 203 = .ok (.isub, 1) := by decide +kernel
theorem dX11_token_204 : decode cX11_token 204 = .ok (.putfield 157, 3) := by decide +kernel
theorem dX11_token_207 : decode cX11_token 207 = .ok (.aload_n 0, 1) := by decide +kernel
theorem dX11_token_208 : decode cX11_token 208 = .ok (.dup, 1) := by decide +kernel
theorem dX11_token_209 : decode cX11_token 209 = .ok (.getfield 134, 3) := by decide +kernel
theorem dX11_token_212 : decode cX11_token 212 = .ok (.iconst 1, 1) := by decide +kernel
theorem dX11_token_213 : decode cX11_token 213 = .ok (.iadd, 1) := by decide +kernel
theorem dX11_token_214 : decode cX11_token 214 = .ok (.putfield 134, 3) := by decide +kernel
theorem dX11_token_217 : decode cX11_token 217 = .ok (.goto (-55), 3) := by decide +kernel
theorem dX11_token_220 : decode cX11_token 220 = .ok (.aload_n 0, 1) := by decide +kernel
theorem dX11_token_221 : decode cX11_token 221 = .ok (.iload_n 1, 1) := by decide +kernel
theorem dX11_token_222 : decode cX11_token 222 = .ok (.invokevirtual 167, 3) := by decide +kernel
theorem dX11_token_225 : decode cX11_token 225 = .ok (.return_, 1) := by decide +kernel
theorem dX11_sign_0 : decode cX11_sign 0 = .ok (.aload_n 0, 1) := by decide +kernel
theorem dX11_sign_1 : decode cX11_sign 1 = .ok (.dup, 1) := by decide +kernel
theorem dX11_sign_2 : decode cX11_sign 2 = .ok (.getfield 134, 3) := by decide +kernel
theorem dX11_sign_5 : decode cX11_sign 5 = .ok (.iconst 1, 1) := by decide +kernel
theorem dX11_sign_6 : decode cX11_sign 6 = .ok (.iadd, 1) := by decide +kernel
theorem dX11_sign_7 : decode cX11_sign 7 = .ok (.putfield 134, 3) := by decide +kernel
theorem dX11_sign_10 : decode cX11_sign 10 = .ok (.aload_n 0, 1) := by decide +kernel
theorem dX11_sign_11 : decode cX11_sign 11 = .ok (.iload_n 1, 1) := by decide +kernel
theorem dX11_sign_12 : decode cX11_sign 12 = .ok (.bipush 59, 2) := by decide +kernel
theorem dX11_sign_14 : decode cX11_sign 14 = .ok (.if_icmp .eq 57, 3) := by decide +kernel
theorem dX11_sign_17 : decode cX11_sign 17 = .ok (.iload_n 1, 1) := by decide +kernel
theorem dX11_sign_18 : decode cX11_sign 18 = .ok (.bipush 40, 2) := by decide +kernel
theorem dX11_sign_20 : decode cX11_sign 20 = .ok (.if_icmp .eq 51, 3) := by decide +kernel
theorem dX11_sign_23 : decode cX11_sign 23 = .ok (.iload_n 1, 1) := by decide +kernel
theorem dX11_sign_24 : decode cX11_sign 24 = .ok (.bipush 41, 2) := by decide +kernel
theorem dX11_sign_26 : decode cX11_sign 26 = .ok (.if_icmp .eq 45, 3) := by decide +kernel
theorem dX11_sign_29 : decode cX11_sign 29 = .ok (.iload_n 1, 1) := by decide +kernel
theorem dX11_sign_30 : decode cX11_sign 30 = .ok (.bipush 43, 2) := by decide +kernel
theorem dX11_sign_32 : decode cX11_sign 32 = .ok (.if_icmp .eq 39, 3) := by decide +kernel
theorem dX11_sign_35 : decode cX11_sign 35 = .ok (.iload_n 1, 1) := by decide +kernel
theorem dX11_sign_36 : decode cX11_sign 36 = .ok (.bipush 45, 2) := by decide +kernel
theorem dX11_sign_38 : decode cX11_sign 38 = .ok (.if_icmp .eq 33, 3) := by decide +kernel
theorem dX11_sign_41 : decode cX11_sign 41 = .ok (.iload_n 1, 1) := by decide +kernel
theorem dX11_sign_42 : decode cX11_sign 42 = .ok (.bipush 42, 2) := by decide +kernel
theorem dX11_sign_44 : decode cX11_sign 44 = .ok (.if_icmp .eq 27, 3) := by decide +kernel
theorem dX11_sign_47 : decode cX11_sign 47 = .ok (.iload_n 1, 1) := by decide +kernel
theorem dX11_sign_48 : decode cX11_sign 48 = .ok (.bipush 47, 2) := by decide +kernel
theorem dX11_sign_50 : decode cX11_sign 50 = .ok (.if_icmp .eq 21, 3) := by decide +kernel
theorem dX11_sign_53 : decode cX11_sign 53 = .ok (.iload_n 1, 1) := by decide +kernel
theorem dX11_sign_54 : decode cX11_sign 54 = .ok (.bipush 60, 2) := by decide +kernel
theorem dX11_sign_56 : decode cX11_sign 56 = .ok (.if_icmp .eq 15, 3) := by decide +kernel
theorem dX11_sign_59 : decode cX11_sign 59 = .ok (.iload_n 1, 1) := by decide +kernel
theorem dX11_sign_60 : decode cX11_sign 60 = .ok (.bipush 61, 2) := by decide +kernel
theorem dX11_sign_62 : decode cX11_sign 62 = .ok (.if_icmp .eq 9, 3) := by decide +kernel
theorem dX11_sign_65 : decode cX11_sign 65 = .ok (.iload_n 1, 1) := by decide +kernel
theorem dX11_sign_66 : decode cX11_sign 66 = .ok (.bipush 62, 2) := by decide +kernel
theorem dX11_sign_68 : decode cX11_sign 68 = .ok (.if_icmp .ne 7, 3) := by decide +kernel
theorem dX11_sign_71 : decode cX11_sign 71 = .ok (.iconst 3, 1) := by decide +kernel
theorem dX11_sign_72 : decode cX11_sign 72 = .ok (.goto 4, 3) := by decide +kernel
theorem dX11_sign_75 : decode cX11_sign 75 = .ok (.iconst 5, 1) := by decide +kernel
theorem dX11_sign_76 : decode cX11_sign 76 = .ok (.putfield 147, 3) := by decide +kernel
theorem dX11_sign_79 : decode cX11_sign 79 = .ok (.aload_n 0, 1) := by decide +kernel
theorem dX11_sign_80 : decode cX11_sign 80 = .ok (.iload_n 1, 1) := by decide +kernel
theorem dX11_sign_81 : decode cX11_sign 81 = .ok (.putfield 157, 3) := by decide +kernel
theorem dX11_sign_84 : decode cX11_sign 84 = .ok (.iload_n 1, 1) := by decide +kernel
theorem dX11_sign_85 : decode cX11_sign 85 = .ok (.bipush 60, 2) := by decide +kernel
theorem dX11_sign_87 : decode cX11_sign 87 = .ok (.if_icmp .ne 19, 3) := by decide +kernel
theorem dX11_sign_90 : decode cX11_sign 90 = .ok (.aload_n 0, 1) := by decide +kernel
theorem dX11_sign_91 : decode cX11_sign 91 = .ok (.invokevirtual 140, 3) := by decide +kernel
theorem dX11_sign_94 : decode cX11_sign 94 = .ok (.bipush 61, 2) := by decide +kernel
theorem dX11_sign_96 : decode cX11_sign 96 = .ok (.if_icmp .ne 10, 3) := by decide +kernel
theorem dX11_sign_99 : decode cX11_sign 99 = .ok (.aload_n 0, 1) := by decide +kernel
theorem dX11_sign_100 : decode cX11_sign 100 = .ok (.sipush 256, 3) := by decide +kernel
theorem dX11_sign_103 : decode cX11_sign 103 = .ok (.putfield 157, 3) := by decide +kernel
theorem dX11_sign_106 : decode cX11_sign 106 = .ok (.iload_n 1, 1) := by decide +kernel
theorem dX11_sign_107 : decode cX11_sign 107 = .ok (.bipush 60, 2) := by decide +kernel
theorem dX11_sign_109 : decode cX11_sign 109 = .ok (.if_icmp .ne 19, 3) := by decide +kernel
theorem dX11_sign_112 : decode cX11_sign 112 = .ok (.aload_n 0, 1) := by decide +kernel
theorem dX11_sign_113 : decode cX11_sign 113 = .ok (.invokevirtual 140, 3) := by decide +kernel
theorem dX11_sign_116 : decode cX11_sign 116 = .ok (.bipush 62, 2) := by decide +kernel
theorem dX11_sign_118 : decode cX11_sign 118 = .ok (.if_icmp .ne 10, 3) := by decide +kernel
theorem dX11_sign_121 : decode cX11_sign 121 = .ok (.aload_n 0, 1) := by decide +kernel
theorem dX11_sign_122 : decode cX11_sign 122 = .ok (.sipush 257, 3) := by decide +kernel
theorem dX11_sign_125 : decode cX11_sign 125 = .ok (.putfield 157, 3) := by decide +kernel
theorem dX11_sign_128 : decode cX11_sign 128 = .ok (.iload_n 1, 1) := by decide +kernel
theorem dX11_sign_129 : decode cX11_sign 129 = .ok (.bipush 62, 2) := by decide +kernel
theorem dX11_sign_131 : decode cX11_sign 131 = .ok (.if_icmp .ne 19, 3) := by decide +kernel
theorem dX11_sign_134 : decode cX11_sign 134 = .ok (.aload_n 0, 1) := by decide +kernel
theorem dX11_sign_135 : decode cX11_sign 135 = .ok (.invokevirtual 140, 3) := by decide +kernel
theorem dX11_sign_138 : decode cX11_sign 138 = .ok (.bipush 61, 2) := by decide +kernel
theorem dX11_sign_140 : decode cX11_sign 140 = .ok (.if_icmp .ne 10, 3) := by decide +kernel
theorem dX11_sign_143 : decode cX11_sign 143 = .ok (.aload_n 0, 1) := by decide +kernel
theorem dX11_sign_144 : decode cX11_sign 144 = .ok (.sipush 258, 3) := by decide +kernel
theorem dX11_sign_147 : decode cX11_sign 147 = .ok (.putfield 157, 3) := by decide +kernel
theorem dX11_sign_150 : decode cX11_sign 150 = .ok (.aload_n 0, 1) := by decide +kernel
theorem dX11_sign_151 : decode cX11_sign 151 = .ok (.getfield 157, 3) := by decide +kernel
theorem dX11_sign_154 : decode cX11_sign 154 = .ok (.sipush 256, 3) := by decide +kernel
theorem dX11_sign_157 : decode cX11_sign 157 = .ok (.if_icmp .lt 13, 3) := by decide +kernel
theorem dX11_sign_160 : decode cX11_sign 160 = .ok (.aload_n 0, 1) := by decide +kernel
theorem dX11_sign_161 : decode cX11_sign 161 = .ok (.dup, 1) := by decide +kernel
theorem dX11_sign_162 : decode cX11_sign 162 = .ok (.getfield 134, 3) := by decide +kernel
theorem dX11_sign_165 : decode cX11_sign 165 = .ok (.iconst 1, 1) := by decide +kernel
theorem dX11_sign_166 : decode cX11_sign 166 = .ok (.iadd, 1) := by decide +kernel
theorem dX11_sign_167 : decode cX11_sign 167 = .ok (.putfield 134, 3) := by decide +kernel
theorem dX11_sign_170 : decode cX11_sign 170 = .ok (.return_, 1) := by decide +kernel
theorem dX11_word_0 : decode cX11_word 0 = .ok (.iconst 0, 1) := by decide +kernel
theorem dX11_word_1 : decode cX11_word 1 = .ok (.istore_n 1, 1) := by decide +kernel
theorem dX11_word_2 : decode cX11_word 2 = .ok (.iconst 0, 1) := by decide +kernel
theorem dX11_word_3 : decode cX11_word 3 = .ok (.istore_n 2, 1) := by decide +kernel
theorem dX11_word_4 : decode cX11_word 4 = .ok (.iload_n 2, 1) := by decide +kernel
theorem dX11_word_5 : decode cX11_word 5 = .ok (.ldc 171, 2) := by decide +kernel
theorem dX11_word_7 : decode cX11_word 7 = .ok (.invokevirtual 173, 3) := by decide +kernel
theorem dX11_word_10 : decode cX11_word 10 = .ok (.if_icmp .ge 113, 3) := by decide +kernel
theorem dX11_word_13 : decode cX11_word 13 = .ok (.iconst 0, 1) := by decide +kernel
theorem dX11_word_14 : decode cX11_word 14 = .ok (.istore_n 3, 1) := by decide +kernel
theorem dX11_word_15 : decode cX11_word 15 = .ok (.ldc 171, 2) := by decide +kernel
theorem dX11_word_17 : decode cX11_word 17 = .ok (.iload_n 2, 1) := by decide +kernel
theorem dX11_word_18 : decode cX11_word 18 = .ok (.iload_n 3, 1) := by decide +kernel
theorem dX11_word_19 : decode cX11_word 19 = .ok (.iadd, 1) := by decide +kernel
theorem dX11_word_20 : decode cX11_word 20 = .ok (.invokevirtual 178, 3) := by decide +kernel
theorem dX11_word_23 : decode cX11_word 23 = .ok (.bipush 32, 2) := by decide +kernel
theorem dX11_word_25 : decode cX11_word 25 = .ok (.if_icmp .eq 44, 3) := by decide +kernel
theorem dX11_word_28 : decode cX11_word 28 = .ok (.aload_n 0, 1) := by decide +kernel
theorem dX11_word_29 : decode cX11_word 29 = .ok (.getfield 144, 3) := by decide +kernel
theorem dX11_word_32 : decode cX11_word 32 = .ok (.iload_n 3, 1) := by decide +kernel
theorem dX11_word_33 : decode cX11_word 33 = .ok (.iadd, 1) := by decide +kernel
theorem dX11_word_34 : decode cX11_word 34 = .ok (.aload_n 0, 1) := by decide +kernel
theorem dX11_word_35 : decode cX11_word 35 = .ok (.getfield 134, 3) := by decide +kernel
theorem dX11_word_38 : decode cX11_word 38 = .ok (.if_icmp .ge 31, 3) := by decide +kernel
theorem dX11_word_41 : decode cX11_word 41 = .ok (.aload_n 0, 1) := by decide +kernel
theorem dX11_word_42 : decode cX11_word 42 = .ok (.getfield 7, 3) := by decide +kernel
theorem dX11_word_45 : decode cX11_word 45 = .ok (.aload_n 0, 1) := by decide +kernel
theorem dX11_word_46 : decode cX11_word 46 = .ok (.getfield 144, 3) := by decide +kernel
theorem dX11_word_49 : decode cX11_word 49 = .ok (.iload_n 3, 1) := by decide +kernel
theorem dX11_word_50 : decode cX11_word 50 = .ok (.iadd, 1) := by decide +kernel
theorem dX11_word_51 : decode cX11_word 51 = .ok (.iaload, 1) := by decide +kernel
theorem dX11_word_52 : decode cX11_word 52 = .ok (.ldc 171, 2) := by decide +kernel
theorem dX11_word_54 : decode cX11_word 54 = .ok (.iload_n 2, 1) := by decide +kernel
theorem dX11_word_55 : decode cX11_word 55 = .ok (.iload_n 3, 1) := by decide +kernel
theorem dX11_word_56 : decode cX11_word 56 = .ok (.iadd, 1) := by decide +kernel
theorem dX11_word_57 : decode cX11_word 57 = .ok (.invokevirtual 178, 3) := by decide +kernel
theorem dX11_word_60 : decode cX11_word 60 = .ok (.if_icmp .ne 9, 3) := by decide +kernel
theorem dX11_word_63 : decode cX11_word 63 = .ok (.iinc 3 1, 3) := by decide +kernel
theorem dX11_word_66 : decode cX11_word 66 = .ok (.goto (-51), 3) := by decide +kernel
theorem dX11_word_69 : decode cX11_word 69 = .ok (.ldc 171, 2) := by decide +kernel
theorem dX11_word_71 : decode cX11_word 71 = .ok (.iload_n 2, 1) := by decide +kernel
theorem dX11_word_72 : decode cX11_word 72 = .ok (.iload_n 3, 1) := by decide +kernel
theorem dX11_word_73 : decode cX11_word 73 = .ok (.iadd, 1) := by decide +kernel
theorem dX11_word_74 : decode cX11_word 74 = .ok (.invokevirtual 178, 3) := by decide +kernel
theorem dX11_word_77 : decode cX11_word 77 = .ok (.bipush 32, 2) := by decide +kernel
theorem dX11_word_79 : decode cX11_word 79 = .ok (.if_icmp .ne 18, 3) := by decide +kernel
theorem dX11_word_82 : decode cX11_word 82 = .ok (.aload_n 0, 1) := by decide +kernel
theorem dX11_word_83 : decode cX11_word 83 = .ok (.getfield 144, 3) := by decide +kernel
theorem dX11_word_86 : decode cX11_word 86 = .ok (.iload_n 3, 1) := by decide +kernel
theorem dX11_word_87 : decode cX11_word 87 = .ok (.iadd, 1) := by decide +kernel
theorem dX11_word_88 : decode cX11_word 88 = .ok (.aload_n 0, 1) := by decide +kernel
theorem dX11_word_89 : decode cX11_word 89 = .ok (.getfield 134, 3) := by decide +kernel
theorem dX11_word_92 : decode cX11_word 92 = .ok (.if_icmp .ne 5, 3) := by decide +kernel
theorem dX11_word_95 : decode cX11_word 95 = .ok (.iload_n 1, 1) := by decide +kernel
theorem dX11_word_96 : decode cX11_word 96 = .ok (.ireturn, 1) := by decide +kernel
theorem dX11_word_97 : decode cX11_word 97 = .ok (.ldc 171, 2) := by decide +kernel
theorem dX11_word_99 : decode cX11_word 99 = .ok (.iload_n 2, 1) := by decide +kernel
theorem dX11_word_100 : decode cX11_word 100 = .ok (.invokevirtual 178, 3) := by decide +kernel
theorem dX11_word_103 : decode cX11_word 103 = .ok (.bipush 32, 2) := by decide +kernel
theorem dX11_word_105 : decode cX11_word 105 = .ok (.if_icmp .eq 9, 3) := by decide +kernel
theorem dX11_word_108 : decode cX11_word 108 = .ok (.iinc 2 1, 3) := by decide +kernel
theorem dX11_word_111 : decode cX11_word 111 = .ok (.goto (-14), 3) := by decide +kernel
theorem dX11_word_114 : decode cX11_word 114 = .ok (.iinc 2 1, 3) := by decide +kernel
theorem dX11_word_117 : decode cX11_word 117 = .ok (.iinc 1 1, 3) := by decide +kernel
theorem dX11_word_120 : decode cX11_word 120 = .ok (.goto (-116), 3) := by decide +kernel
theorem dX11_word_123 : decode cX11_word 123 = .ok (.iconst (-1), 1) := by decide +kernel
theorem dX11_word_124 : decode cX11_word 124 = .ok (.ireturn, 1) := by decide +kernel
theorem dX11_name_0 : decode cX11_name 0 = .ok (.aload_n 0, 1) := by decide +kernel
theorem dX11_name_1 : decode cX11_name 1 = .ok (.iconst 0, 1) := by decide +kernel
theorem dX11_name_2 : decode cX11_name 2 = .ok (.putfield 157, 3) := by decide +kernel
theorem dX11_name_5 : decode cX11_name 5 = .ok (.iconst 0, 1) := by decide +kernel
theorem dX11_name_6 : decode cX11_name 6 = .ok (.istore_n 1, 1) := by decide +kernel
theorem dX11_name_7 : decode cX11_name 7 = .ok (.iload_n 1, 1) := by decide +kernel
theorem dX11_name_8 : decode cX11_name 8 = .ok (.bipush 6, 2) := by decide +kernel
theorem dX11_name_10 : decode cX11_name 10 = .ok (.if_icmp .ge 53, 3) := by decide +kernel
theorem dX11_name_13 : decode cX11_name 13 = .ok (.aload_n 0, 1) := by decide +kernel
theorem dX11_name_14 : decode cX11_name 14 = .ok (.aload_n 0, 1) := by decide +kernel
theorem dX11_name_15 : decode cX11_name 15 = .ok (.getfield 157, 3) := by decide +kernel
theorem dX11_name_18 : decode cX11_name 18 = .ok (.iconst 5, 1) := by decide +kernel
theorem dX11_name_19 : decode cX11_name 19 = .ok (.ishl, 1) := by decide +kernel
theorem dX11_name_20 : decode cX11_name 20 = .ok (.aload_n 0, 1) := by decide +kernel
theorem dX11_name_21 : decode cX11_name 21 = .ok (.getfield 144, 3) := by decide +kernel
theorem dX11_name_24 : decode cX11_name 24 = .ok (.iload_n 1, 1) := by decide +kernel
theorem dX11_name_25 : decode cX11_name 25 = .ok (.iadd, 1) := by decide +kernel
theorem dX11_name_26 : decode cX11_name 26 = .ok (.aload_n 0, 1) := by decide +kernel
theorem dX11_name_27 : decode cX11_name 27 = .ok (.getfield 134, 3) := by decide +kernel
theorem dX11_name_30 : decode cX11_name 30 = .ok (.if_icmp .ge 22, 3) := by decide +kernel
theorem dX11_name_33 : decode cX11_name 33 = .ok (.aload_n 0, 1) := by decide +kernel
theorem dX11_name_34 : decode cX11_name 34 = .ok (.getfield 7, 3) := by decide +kernel
theorem dX11_name_37 : decode cX11_name 37 = .ok (.aload_n 0, 1) := by decide +kernel
theorem dX11_name_38 : decode cX11_name 38 = .ok (.getfield 144, 3) := by decide +kernel
theorem dX11_name_41 : decode cX11_name 41 = .ok (.iload_n 1, 1) := by decide +kernel
theorem dX11_name_42 : decode cX11_name 42 = .ok (.iadd, 1) := by decide +kernel
theorem dX11_name_43 : decode cX11_name 43 = .ok (.iaload, 1) := by decide +kernel
theorem dX11_name_44 : decode cX11_name 44 = .ok (.bipush 97, 2) := by decide +kernel
theorem dX11_name_46 : decode cX11_name 46 = .ok (.isub, 1) := by decide +kernel
theorem dX11_name_47 : decode cX11_name 47 = .ok (.iconst 1, 1) := by decide +kernel
theorem dX11_name_48 : decode cX11_name 48 = .ok (.iadd, 1) := by decide +kernel
theorem dX11_name_49 : decode cX11_name 49 = .ok (.goto 4, 3) := by decide +kernel
theorem dX11_name_52 : decode cX11_name 52 = .ok (.iconst 0, 1) := by decide +kernel
theorem dX11_name_53 : decode cX11_name 53 = .ok (.ior, 1) := by decide +kernel
theorem dX11_name_54 : decode cX11_name 54 = .ok (.putfield 157, 3) := by decide +kernel
theorem dX11_name_57 : decode cX11_name 57 = .ok (.iinc 1 1, 3) := by decide +kernel
theorem dX11_name_60 : decode cX11_name 60 = .ok (.goto (-53), 3) := by decide +kernel
theorem dX11_name_63 : decode cX11_name 63 = .ok (.return_, 1) := by decide +kernel
theorem dX11_wrong_0 : decode cX11_wrong 0 = .ok (.aload_n 0, 1) := by decide +kernel
theorem dX11_wrong_1 : decode cX11_wrong 1 = .ok (.getfield 182, 3) := by decide +kernel
theorem dX11_wrong_4 : decode cX11_wrong 4 = .ok (.ifCond .eq 4, 3) := by decide +kernel
theorem dX11_wrong_7 : decode cX11_wrong 7 = .ok (.return_, 1) := by decide +kernel
theorem dX11_wrong_8 : decode cX11_wrong 8 = .ok (.aload_n 0, 1) := by decide +kernel
theorem dX11_wrong_9 : decode cX11_wrong 9 = .ok (.iload_n 1, 1) := by decide +kernel
theorem dX11_wrong_10 : decode cX11_wrong 10 = .ok (.putfield 182, 3) := by decide +kernel
theorem dX11_wrong_13 : decode cX11_wrong 13 = .ok (.aload_n 0, 1) := by decide +kernel
theorem dX11_wrong_14 : decode cX11_wrong 14 = .ok (.aload_n 0, 1) := by decide +kernel
theorem dX11_wrong_15 : decode cX11_wrong 15 = .ok (.getfield 144, 3) := by decide +kernel
theorem dX11_wrong_18 : decode cX11_wrong 18 = .ok (.putfield 185, 3) := by decide +kernel
theorem dX11_wrong_21 : decode cX11_wrong 21 = .ok (.return_, 1) := by decide +kernel
theorem dX11_isWord_0 : decode cX11_isWord 0 = .ok (.aload_n 0, 1) := by decide +kernel
theorem dX11_isWord_1 : decode cX11_isWord 1 = .ok (.getfield 182, 3) := by decide +kernel
theorem dX11_isWord_4 : decode cX11_isWord 4 = .ok (.ifCond .ne 22, 3) := by decide +kernel
theorem dX11_isWord_7 : decode cX11_isWord 7 = .ok (.aload_n 0, 1) := by decide +kernel
theorem dX11_isWord_8 : decode cX11_isWord 8 = .ok (.getfield 147, 3) := by decide +kernel
theorem dX11_isWord_11 : decode cX11_isWord 11 = .ok (.ifCond .ne 15, 3) := by decide +kernel
theorem dX11_isWord_14 : decode cX11_isWord 14 = .ok (.aload_n 0, 1) := by decide +kernel
theorem dX11_isWord_15 : decode cX11_isWord 15 = .ok (.getfield 157, 3) := by decide +kernel
theorem dX11_isWord_18 : decode cX11_isWord 18 = .ok (.iload_n 1, 1) := by decide +kernel
theorem dX11_isWord_19 : decode cX11_isWord 19 = .ok (.if_icmp .ne 7, 3) := by decide +kernel
theorem dX11_isWord_22 : decode cX11_isWord 22 = .ok (.iconst 1, 1) := by decide +kernel
theorem dX11_isWord_23 : decode cX11_isWord 23 = .ok (.goto 4, 3) := by decide +kernel
theorem dX11_isWord_26 : decode cX11_isWord 26 = .ok (.iconst 0, 1) := by decide +kernel
theorem dX11_isWord_27 : decode cX11_isWord 27 = .ok (.ireturn, 1) := by decide +kernel
theorem dX11_isSign_0 : decode cX11_isSign 0 = .ok (.aload_n 0, 1) := by decide +kernel
theorem dX11_isSign_1 : decode cX11_isSign 1 = .ok (.getfield 182, 3) := by decide +kernel
theorem dX11_isSign_4 : decode cX11_isSign 4 = .ok (.ifCond .ne 23, 3) := by decide +kernel
theorem dX11_isSign_7 : decode cX11_isSign 7 = .ok (.aload_n 0, 1) := by decide +kernel
theorem dX11_isSign_8 : decode cX11_isSign 8 = .ok (.getfield 147, 3) := by decide +kernel
theorem dX11_isSign_11 : decode cX11_isSign 11 = .ok (.iconst 3, 1) := by decide +kernel
theorem dX11_isSign_12 : decode cX11_isSign 12 = .ok (.if_icmp .ne 15, 3) := by decide +kernel
theorem dX11_isSign_15 : decode cX11_isSign 15 = .ok (.aload_n 0, 1) := by decide +kernel
theorem dX11_isSign_16 : decode cX11_isSign 16 = .ok (.getfield 157, 3) := by decide +kernel
theorem dX11_isSign_19 : decode cX11_isSign 19 = .ok (.iload_n 1, 1) := by decide +kernel
theorem dX11_isSign_20 : decode cX11_isSign 20 = .ok (.if_icmp .ne 7, 3) := by decide +kernel
theorem dX11_isSign_23 : decode cX11_isSign 23 = .ok (.iconst 1, 1) := by decide +kernel
theorem dX11_isSign_24 : decode cX11_isSign 24 = .ok (.goto 4, 3) := by decide +kernel
theorem dX11_isSign_27 : decode cX11_isSign 27 = .ok (.iconst 0, 1) := by decide +kernel
theorem dX11_isSign_28 : decode cX11_isSign 28 = .ok (.ireturn, 1) := by decide +kernel
theorem dX11_goOn_0 : decode cX11_goOn 0 = .ok (.aload_n 0, 1) := by decide +kernel
theorem dX11_goOn_1 : decode cX11_goOn 1 = .ok (.getfield 182, 3) := by decide +kernel
theorem dX11_goOn_4 : decode cX11_goOn 4 = .ok (.ifCond .ne 7, 3) := by decide +kernel
theorem dX11_goOn_7 : decode cX11_goOn 7 = .ok (.aload_n 0, 1) := by decide +kernel
theorem dX11_goOn_8 : decode cX11_goOn 8 = .ok (.invokevirtual 188, 3) := by decide +kernel
theorem dX11_goOn_11 : decode cX11_goOn 11 = .ok (.return_, 1) := by decide +kernel
theorem dX11_numeral_0 : decode cX11_numeral 0 = .ok (.aload_n 0, 1) := by decide +kernel
theorem dX11_numeral_1 : decode cX11_numeral 1 = .ok (.getfield 182, 3) := by decide +kernel
theorem dX11_numeral_4 : decode cX11_numeral 4 = .ok (.ifCond .eq 5, 3) := by decide +kernel
theorem dX11_numeral_7 : decode cX11_numeral 7 = .ok (.iload_n 1, 1) := by decide +kernel
theorem dX11_numeral_8 : decode cX11_numeral 8 = .ok (.ireturn, 1) := by decide +kernel
theorem dX11_numeral_9 : decode cX11_numeral 9 = .ok (.aload_n 0, 1) := by decide +kernel
theorem dX11_numeral_10 : decode cX11_numeral 10 = .ok (.getfield 147, 3) := by decide +kernel
theorem dX11_numeral_13 : decode cX11_numeral 13 = .ok (.iconst 2, 1) := by decide +kernel
theorem dX11_numeral_14 : decode cX11_numeral 14 = .ok (.if_icmp .eq 11, 3) := by decide +kernel
theorem dX11_numeral_17 : decode cX11_numeral 17 = .ok (.aload_n 0, 1) := by decide +kernel
theorem dX11_numeral_18 : decode cX11_numeral 18 = .ok (.iconst 1, 1) := by decide +kernel
theorem dX11_numeral_19 : decode cX11_numeral 19 = .ok (.invokevirtual 191, 3) := by decide +kernel
theorem dX11_numeral_22 : decode cX11_numeral 22 = .ok (.goto 24, 3) := by decide +kernel
theorem dX11_numeral_25 : decode cX11_numeral 25 = .ok (.aload_n 0, 1) := by decide +kernel
theorem dX11_numeral_26 : decode cX11_numeral 26 = .ok (.getfield 157, 3) := by decide +kernel
theorem dX11_numeral_29 : decode cX11_numeral 29 = .ok (.iload_n 1, 1) := by decide +kernel
theorem dX11_numeral_30 : decode cX11_numeral 30 = .ok (.if_icmp .lt 11, 3) := by decide +kernel
theorem dX11_numeral_33 : decode cX11_numeral 33 = .ok (.aload_n 0, 1) := by decide +kernel
theorem dX11_numeral_34 : decode cX11_numeral 34 = .ok (.getfield 157, 3) := by decide +kernel
theorem dX11_numeral_37 : decode cX11_numeral 37 = .ok (.iload_n 2, 1) := by decide +kernel
theorem dX11_numeral_38 : decode cX11_numeral 38 = .ok (.if_icmp .le 8, 3) := by decide +kernel
theorem dX11_numeral_41 : decode cX11_numeral 41 = .ok (.aload_n 0, 1) := by decide +kernel
theorem dX11_numeral_42 : decode cX11_numeral 42 = .ok (.iconst 2, 1) := by decide +kernel
theorem dX11_numeral_43 : decode cX11_numeral 43 = .ok (.invokevirtual 191, 3) := by decide +kernel
theorem dX11_numeral_46 : decode cX11_numeral 46 = .ok (.aload_n 0, 1) := by decide +kernel
theorem dX11_numeral_47 : decode cX11_numeral 47 = .ok (.getfield 182, 3) := by decide +kernel
theorem dX11_numeral_50 : decode cX11_numeral 50 = .ok (.ifCond .eq 5, 3) := by decide +kernel
theorem dX11_numeral_53 : decode cX11_numeral 53 = .ok (.iload_n 1, 1) := by decide +kernel
theorem dX11_numeral_54 : decode cX11_numeral 54 = .ok (.ireturn, 1) := by decide +kernel
theorem dX11_numeral_55 : decode cX11_numeral 55 = .ok (.aload_n 0, 1) := by decide +kernel
theorem dX11_numeral_56 : decode cX11_numeral 56 = .ok (.getfield 157, 3) := by decide +kernel
theorem dX11_numeral_59 : decode cX11_numeral 59 = .ok (.istore_n 3, 1) := by decide +kernel
theorem dX11_numeral_60 : decode cX11_numeral 60 = .ok (.aload_n 0, 1) := by decide +kernel
theorem dX11_numeral_61 : decode cX11_numeral 61 = .ok (.invokevirtual 188, 3) := by decide +kernel
theorem dX11_numeral_64 : decode cX11_numeral 64 = .ok (.iload_n 3, 1) := by decide +kernel
theorem dX11_numeral_65 : decode cX11_numeral 65 = .ok (.ireturn, 1) := by decide +kernel
theorem dX11_found_0 : decode cX11_found 0 = .ok (.iconst 0, 1) := by decide +kernel
theorem dX11_found_1 : decode cX11_found 1 = .ok (.istore 4, 2) := by decide +kernel
theorem dX11_found_3 : decode cX11_found 3 = .ok (.iload 4, 2) := by decide +kernel
theorem dX11_found_5 : decode cX11_found 5 = .ok (.iload_n 2, 1) := by decide +kernel
theorem dX11_found_6 : decode cX11_found 6 = .ok (.if_icmp .ge 22, 3) := by decide +kernel
theorem dX11_found_9 : decode cX11_found 9 = .ok (.aload_n 0, 1) := by decide +kernel
theorem dX11_found_10 : decode cX11_found 10 = .ok (.iload_n 1, 1) := by decide +kernel
theorem dX11_found_11 : decode cX11_found 11 = .ok (.iload 4, 2) := by decide +kernel
theorem dX11_found_13 : decode cX11_found 13 = .ok (.iadd, 1) := by decide +kernel
theorem dX11_found_14 : decode cX11_found 14 = .ok (.iaload, 1) := by decide +kernel
theorem dX11_found_15 : decode cX11_found 15 = .ok (.iload_n 3, 1) := by decide +kernel
theorem dX11_found_16 : decode cX11_found 16 = .ok (.if_icmp .ne 6, 3) := by decide +kernel
theorem dX11_found_19 : decode cX11_found 19 = .ok (.iload 4, 2) := by decide +kernel
theorem dX11_found_21 : decode cX11_found 21 = .ok (.ireturn, 1) := by decide +kernel
theorem dX11_found_22 : decode cX11_found 22 = .ok (.iinc 4 1, 3) := by decide +kernel
theorem dX11_found_25 : decode cX11_found 25 = .ok (.goto (-22), 3) := by decide +kernel
theorem dX11_found_28 : decode cX11_found 28 = .ok (.iconst (-1), 1) := by decide +kernel
theorem dX11_found_29 : decode cX11_found 29 = .ok (.ireturn, 1) := by decide +kernel
theorem dX11_fresh_0 : decode cX11_fresh 0 = .ok (.aload_n 0, 1) := by decide +kernel
theorem dX11_fresh_1 : decode cX11_fresh 1 = .ok (.getfield 182, 3) := by decide +kernel
theorem dX11_fresh_4 : decode cX11_fresh 4 = .ok (.ifCond .eq 5, 3) := by decide +kernel
theorem dX11_fresh_7 : decode cX11_fresh 7 = .ok (.iconst 0, 1) := by decide +kernel
theorem dX11_fresh_8 : decode cX11_fresh 8 = .ok (.ireturn, 1) := by decide +kernel
theorem dX11_fresh_9 : decode cX11_fresh 9 = .ok (.aload_n 0, 1) := by decide +kernel
theorem dX11_fresh_10 : decode cX11_fresh 10 = .ok (.getfield 147, 3) := by decide +kernel
theorem dX11_fresh_13 : decode cX11_fresh 13 = .ok (.iconst 1, 1) := by decide +kernel
theorem dX11_fresh_14 : decode cX11_fresh 14 = .ok (.if_icmp .eq 11, 3) := by decide +kernel
theorem dX11_fresh_17 : decode cX11_fresh 17 = .ok (.aload_n 0, 1) := by decide +kernel
theorem dX11_fresh_18 : decode cX11_fresh 18 = .ok (.iconst 1, 1) := by decide +kernel
theorem dX11_fresh_19 : decode cX11_fresh 19 = .ok (.invokevirtual 191, 3) := by decide +kernel
theorem dX11_fresh_22 : decode cX11_fresh 22 = .ok (.goto 22, 3) := by decide +kernel
theorem dX11_fresh_25 : decode cX11_fresh 25 = .ok (.aload_n 1, 1) := by decide +kernel
theorem dX11_fresh_26 : decode cX11_fresh 26 = .ok (.iload_n 2, 1) := by decide +kernel
theorem dX11_fresh_27 : decode cX11_fresh 27 = .ok (.iload_n 3, 1) := by decide +kernel
theorem dX11_fresh_28 : decode cX11_fresh 28 = .ok (.aload_n 0, 1) := by decide +kernel
theorem dX11_fresh_29 : decode cX11_fresh 29 = .ok (.getfield 157, 3) := by decide +kernel
theorem dX11_fresh_32 : decode cX11_fresh 32 = .ok (.invokestatic 194, 3) := by decide +kernel
theorem dX11_fresh_35 : decode cX11_fresh 35 = .ok (.iconst (-1), 1) := by decide +kernel
theorem dX11_fresh_36 : decode cX11_fresh 36 = .ok (.if_icmp .eq 8, 3) := by decide +kernel
theorem dX11_fresh_39 : decode cX11_fresh 39 = .ok (.aload_n 0, 1) := by decide +kernel
theorem dX11_fresh_40 : decode cX11_fresh 40 = .ok (.iconst 3, 1) := by decide +kernel
theorem dX11_fresh_41 : decode cX11_fresh 41 = .ok (.invokevirtual 191, 3) := by decide +kernel
theorem dX11_fresh_44 : decode cX11_fresh 44 = .ok (.aload_n 0, 1) := by decide +kernel
theorem dX11_fresh_45 : decode cX11_fresh 45 = .ok (.getfield 182, 3) := by decide +kernel
theorem dX11_fresh_48 : decode cX11_fresh 48 = .ok (.ifCond .eq 5, 3) := by decide +kernel
theorem dX11_fresh_51 : decode cX11_fresh 51 = .ok (.iconst 0, 1) := by decide +kernel
theorem dX11_fresh_52 : decode cX11_fresh 52 = .ok (.ireturn, 1) := by decide +kernel
theorem dX11_fresh_53 : decode cX11_fresh 53 = .ok (.aload_n 0, 1) := by decide +kernel
theorem dX11_fresh_54 : decode cX11_fresh 54 = .ok (.getfield 157, 3) := by decide +kernel
theorem dX11_fresh_57 : decode cX11_fresh 57 = .ok (.istore 4, 2) := by decide +kernel
theorem dX11_fresh_59 : decode cX11_fresh 59 = .ok (.aload_n 0, 1) := by decide +kernel
theorem dX11_fresh_60 : decode cX11_fresh 60 = .ok (.invokevirtual 188, 3) := by decide +kernel
theorem dX11_fresh_63 : decode cX11_fresh 63 = .ok (.iload 4, 2) := by decide +kernel
theorem dX11_fresh_65 : decode cX11_fresh 65 = .ok (.ireturn, 1) := by decide +kernel
theorem dX11_fresher_0 : decode cX11_fresher 0 = .ok (.aload_n 0, 1) := by decide +kernel
theorem dX11_fresher_1 : decode cX11_fresher 1 = .ok (.getfield 13, 3) := by decide +kernel
theorem dX11_fresher_4 : decode cX11_fresher 4 = .ok (.bipush 9, 2) := by decide +kernel
theorem dX11_fresher_6 : decode cX11_fresher 6 = .ok (.iload_n 1, 1) := by decide +kernel
theorem dX11_fresher_7 : decode cX11_fresher 7 = .ok (.iadd, 1) := by decide +kernel
theorem dX11_fresher_8 : decode cX11_fresher 8 = .ok (.iaload, 1) := by decide +kernel
theorem dX11_fresher_9 : decode cX11_fresher 9 = .ok (.ireturn, 1) := by decide +kernel
theorem dX11_reads_0 : decode cX11_reads 0 = .ok (.aload_n 0, 1) := by decide +kernel
theorem dX11_reads_1 : decode cX11_reads 1 = .ok (.getfield 13, 3) := by decide +kernel
theorem dX11_reads_4 : decode cX11_reads 4 = .ok (.bipush 9, 2) := by decide +kernel
theorem dX11_reads_6 : decode cX11_reads 6 = .ok (.iload_n 1, 1) := by decide +kernel
theorem dX11_reads_7 : decode cX11_reads 7 = .ok (.iadd, 1) := by decide +kernel
theorem dX11_reads_8 : decode cX11_reads 8 = .ok (.iload_n 2, 1) := by decide +kernel
theorem dX11_reads_9 : decode cX11_reads 9 = .ok (.iastore, 1) := by decide +kernel
theorem dX11_reads_10 : decode cX11_reads 10 = .ok (.return_, 1) := by decide +kernel
theorem dX11_atHand_0 : decode cX11_atHand 0 = .ok (.aload_n 0, 1) := by decide +kernel
theorem dX11_atHand_1 : decode cX11_atHand 1 = .ok (.getfield 182, 3) := by decide +kernel
theorem dX11_atHand_4 : decode cX11_atHand 4 = .ok (.ifCond .eq 5, 3) := by decide +kernel
theorem dX11_atHand_7 : decode cX11_atHand 7 = .ok (.iconst 0, 1) := by decide +kernel
theorem dX11_atHand_8 : decode cX11_atHand 8 = .ok (.ireturn, 1) := by decide +kernel
theorem dX11_atHand_9 : decode cX11_atHand 9 = .ok (.aload_n 0, 1) := by decide +kernel
theorem dX11_atHand_10 : decode cX11_atHand 10 = .ok (.getfield 147, 3) := by decide +kernel
theorem dX11_atHand_13 : decode cX11_atHand 13 = .ok (.iconst 1, 1) := by decide +kernel
theorem dX11_atHand_14 : decode cX11_atHand 14 = .ok (.if_icmp .eq 8, 3) := by decide +kernel
theorem dX11_atHand_17 : decode cX11_atHand 17 = .ok (.aload_n 0, 1) := by decide +kernel
theorem dX11_atHand_18 : decode cX11_atHand 18 = .ok (.iconst 1, 1) := by decide +kernel
theorem dX11_atHand_19 : decode cX11_atHand 19 = .ok (.invokevirtual 191, 3) := by decide +kernel
theorem dX11_atHand_22 : decode cX11_atHand 22 = .ok (.aload_n 0, 1) := by decide +kernel
theorem dX11_atHand_23 : decode cX11_atHand 23 = .ok (.getfield 182, 3) := by decide +kernel
theorem dX11_atHand_26 : decode cX11_atHand 26 = .ok (.ifCond .ne 16, 3) := by decide +kernel
theorem dX11_atHand_29 : decode cX11_atHand 29 = .ok (.aload_n 1, 1) := by decide +kernel
theorem dX11_atHand_30 : decode cX11_atHand 30 = .ok (.iload_n 2, 1) := by decide +kernel
theorem dX11_atHand_31 : decode cX11_atHand 31 = .ok (.iload_n 3, 1) := by decide +kernel
theorem dX11_atHand_32 : decode cX11_atHand 32 = .ok (.aload_n 0, 1) := by decide +kernel
theorem dX11_atHand_33 : decode cX11_atHand 33 = .ok (.getfield 157, 3) := by decide +kernel
theorem dX11_atHand_36 : decode cX11_atHand 36 = .ok (.invokestatic 194, 3) := by decide +kernel
theorem dX11_atHand_39 : decode cX11_atHand 39 = .ok (.goto 4, 3) := by decide +kernel
theorem dX11_atHand_42 : decode cX11_atHand 42 = .ok (.iconst 0, 1) := by decide +kernel
theorem dX11_atHand_43 : decode cX11_atHand 43 = .ok (.istore 4, 2) := by decide +kernel
theorem dX11_atHand_45 : decode cX11_atHand 45 = .ok (.aload_n 0, 1) := by decide +kernel
theorem dX11_atHand_46 : decode cX11_atHand 46 = .ok (.getfield 182, 3) := by decide +kernel
theorem dX11_atHand_49 : decode cX11_atHand 49 = .ok (.ifCond .ne 14, 3) := by decide +kernel
theorem dX11_atHand_52 : decode cX11_atHand 52 = .ok (.iload 4, 2) := by decide +kernel
theorem dX11_atHand_54 : decode cX11_atHand 54 = .ok (.iconst (-1), 1) := by decide +kernel
theorem dX11_atHand_55 : decode cX11_atHand 55 = .ok (.if_icmp .ne 8, 3) := by decide +kernel
theorem dX11_atHand_58 : decode cX11_atHand 58 = .ok (.aload_n 0, 1) := by decide +kernel
theorem dX11_atHand_59 : decode cX11_atHand 59 = .ok (.iconst 4, 1) := by decide +kernel
theorem dX11_atHand_60 : decode cX11_atHand 60 = .ok (.invokevirtual 191, 3) := by decide +kernel
theorem dX11_atHand_63 : decode cX11_atHand 63 = .ok (.aload_n 0, 1) := by decide +kernel
theorem dX11_atHand_64 : decode cX11_atHand 64 = .ok (.getfield 182, 3) := by decide +kernel
theorem dX11_atHand_67 : decode cX11_atHand 67 = .ok (.ifCond .eq 7, 3) := by decide +kernel
theorem dX11_atHand_70 : decode cX11_atHand 70 = .ok (.iconst 0, 1) := by decide +kernel
theorem dX11_atHand_71 : decode cX11_atHand 71 = .ok (.goto 5, 3) := by decide +kernel
theorem dX11_atHand_74 : decode cX11_atHand 74 = .ok (.iload 4, 2) := by decide +kernel
theorem dX11_atHand_76 : decode cX11_atHand 76 = .ok (.ireturn, 1) := by decide +kernel
theorem dX11_personAtHand_0 : decode cX11_personAtHand 0 = .ok (.aload_n 0, 1) := by decide +kernel
theorem dX11_personAtHand_1 : decode cX11_personAtHand 1 = .ok (.aload_n 0, 1) := by decide +kernel
theorem dX11_personAtHand_2 : decode cX11_personAtHand 2 = .ok (.getfield 22, 3) := by decide +kernel
theorem dX11_personAtHand_5 : decode cX11_personAtHand 5 = .ok (.bipush 6, 2) := by decide +kernel
theorem dX11_personAtHand_7 : decode cX11_personAtHand 7 = .ok (.aload_n 0, 1) := by decide +kernel
theorem dX11_personAtHand_8 : decode cX11_personAtHand 8 = .ok (.iconst 1, 1) := by decide +kernel
theorem dX11_personAtHand_9 : decode cX11_personAtHand 9 = .ok (.invokevirtual 198, 3) := by decide +kernel
theorem dX11_personAtHand_12 : decode cX11_personAtHand 12 = .ok (.invokevirtual 202, 3) := by decide +kernel
theorem dX11_personAtHand_15 : decode cX11_personAtHand 15 = .ok (.ireturn, 1) := by decide +kernel
theorem dX11_colourAtHand_0 : decode cX11_colourAtHand 0 = .ok (.aload_n 0, 1) := by decide +kernel
theorem dX11_colourAtHand_1 : decode cX11_colourAtHand 1 = .ok (.aload_n 0, 1) := by decide +kernel
theorem dX11_colourAtHand_2 : decode cX11_colourAtHand 2 = .ok (.getfield 16, 3) := by decide +kernel
theorem dX11_colourAtHand_5 : decode cX11_colourAtHand 5 = .ok (.iconst 3, 1) := by decide +kernel
theorem dX11_colourAtHand_6 : decode cX11_colourAtHand 6 = .ok (.aload_n 0, 1) := by decide +kernel
theorem dX11_colourAtHand_7 : decode cX11_colourAtHand 7 = .ok (.iconst 0, 1) := by decide +kernel
theorem dX11_colourAtHand_8 : decode cX11_colourAtHand 8 = .ok (.invokevirtual 198, 3) := by decide +kernel
theorem dX11_colourAtHand_11 : decode cX11_colourAtHand 11 = .ok (.invokevirtual 202, 3) := by decide +kernel
theorem dX11_colourAtHand_14 : decode cX11_colourAtHand 14 = .ok (.ireturn, 1) := by decide +kernel
theorem dX11_factAtHand_0 : decode cX11_factAtHand 0 = .ok (.aload_n 0, 1) := by decide +kernel
theorem dX11_factAtHand_1 : decode cX11_factAtHand 1 = .ok (.aload_n 0, 1) := by decide +kernel
theorem dX11_factAtHand_2 : decode cX11_factAtHand 2 = .ok (.getfield 31, 3) := by decide +kernel
theorem dX11_factAtHand_5 : decode cX11_factAtHand 5 = .ok (.bipush 8, 2) := by decide +kernel
theorem dX11_factAtHand_7 : decode cX11_factAtHand 7 = .ok (.aload_n 0, 1) := by decide +kernel
theorem dX11_factAtHand_8 : decode cX11_factAtHand 8 = .ok (.iconst 2, 1) := by decide +kernel
theorem dX11_factAtHand_9 : decode cX11_factAtHand 9 = .ok (.invokevirtual 198, 3) := by decide +kernel
theorem dX11_factAtHand_12 : decode cX11_factAtHand 12 = .ok (.invokevirtual 202, 3) := by decide +kernel
theorem dX11_factAtHand_15 : decode cX11_factAtHand 15 = .ok (.ireturn, 1) := by decide +kernel
theorem dX11_isFull_0 : decode cX11_isFull 0 = .ok (.iload_n 1, 1) := by decide +kernel
theorem dX11_isFull_1 : decode cX11_isFull 1 = .ok (.tableswitch 118 0 5 #[39, 54, 118, 70, 86, 102], 39) := by decide +kernel
theorem dX11_isFull_40 : decode cX11_isFull 40 = .ok (.aload_n 0, 1) := by decide +kernel
theorem dX11_isFull_41 : decode cX11_isFull 41 = .ok (.iconst 0, 1) := by decide +kernel
theorem dX11_isFull_42 : decode cX11_isFull 42 = .ok (.invokevirtual 198, 3) := by decide +kernel
theorem dX11_isFull_45 : decode cX11_isFull 45 = .ok (.iconst 3, 1) := by decide +kernel
theorem dX11_isFull_46 : decode cX11_isFull 46 = .ok (.if_icmp .ne 7, 3) := by decide +kernel
theorem dX11_isFull_49 : decode cX11_isFull 49 = .ok (.iconst 1, 1) := by decide +kernel
theorem dX11_isFull_50 : decode cX11_isFull 50 = .ok (.goto 4, 3) := by decide +kernel
theorem dX11_isFull_53 : decode cX11_isFull 53 = .ok (.iconst 0, 1) := by decide +kernel
theorem dX11_isFull_54 : decode cX11_isFull 54 = .ok (.ireturn, 1) := by decide +kernel
theorem dX11_isFull_55 : decode cX11_isFull 55 = .ok (.aload_n 0, 1) := by decide +kernel
theorem dX11_isFull_56 : decode cX11_isFull 56 = .ok (.iconst 1, 1) := by decide +kernel
theorem dX11_isFull_57 : decode cX11_isFull 57 = .ok (.invokevirtual 198, 3) := by decide +kernel
theorem dX11_isFull_60 : decode cX11_isFull 60 = .ok (.bipush 6, 2) := by decide +kernel
theorem dX11_isFull_62 : decode cX11_isFull 62 = .ok (.if_icmp .ne 7, 3) := by decide +kernel
theorem dX11_isFull_65 : decode cX11_isFull 65 = .ok (.iconst 1, 1) := by decide +kernel
theorem dX11_isFull_66 : decode cX11_isFull 66 = .ok (.goto 4, 3) := by decide +kernel
theorem dX11_isFull_69 : decode cX11_isFull 69 = .ok (.iconst 0, 1) := by decide +kernel
theorem dX11_isFull_70 : decode cX11_isFull 70 = .ok (.ireturn, 1) := by decide +kernel
theorem dX11_isFull_71 : decode cX11_isFull 71 = .ok (.aload_n 0, 1) := by decide +kernel
theorem dX11_isFull_72 : decode cX11_isFull 72 = .ok (.iconst 2, 1) := by decide +kernel
theorem dX11_isFull_73 : decode cX11_isFull 73 = .ok (.invokevirtual 198, 3) := by decide +kernel
theorem dX11_isFull_76 : decode cX11_isFull 76 = .ok (.bipush 8, 2) := by decide +kernel
theorem dX11_isFull_78 : decode cX11_isFull 78 = .ok (.if_icmp .ne 7, 3) := by decide +kernel
theorem dX11_isFull_81 : decode cX11_isFull 81 = .ok (.iconst 1, 1) := by decide +kernel
theorem dX11_isFull_82 : decode cX11_isFull 82 = .ok (.goto 4, 3) := by decide +kernel
theorem dX11_isFull_85 : decode cX11_isFull 85 = .ok (.iconst 0, 1) := by decide +kernel
theorem dX11_isFull_86 : decode cX11_isFull 86 = .ok (.ireturn, 1) := by decide +kernel
theorem dX11_isFull_87 : decode cX11_isFull 87 = .ok (.aload_n 0, 1) := by decide +kernel
theorem dX11_isFull_88 : decode cX11_isFull 88 = .ok (.iconst 3, 1) := by decide +kernel
theorem dX11_isFull_89 : decode cX11_isFull 89 = .ok (.invokevirtual 198, 3) := by decide +kernel
theorem dX11_isFull_92 : decode cX11_isFull 92 = .ok (.bipush 12, 2) := by decide +kernel
theorem dX11_isFull_94 : decode cX11_isFull 94 = .ok (.if_icmp .ne 7, 3) := by decide +kernel
theorem dX11_isFull_97 : decode cX11_isFull 97 = .ok (.iconst 1, 1) := by decide +kernel
theorem dX11_isFull_98 : decode cX11_isFull 98 = .ok (.goto 4, 3) := by decide +kernel
theorem dX11_isFull_101 : decode cX11_isFull 101 = .ok (.iconst 0, 1) := by decide +kernel
theorem dX11_isFull_102 : decode cX11_isFull 102 = .ok (.ireturn, 1) := by decide +kernel
theorem dX11_isFull_103 : decode cX11_isFull 103 = .ok (.aload_n 0, 1) := by decide +kernel
theorem dX11_isFull_104 : decode cX11_isFull 104 = .ok (.iconst 4, 1) := by decide +kernel
theorem dX11_isFull_105 : decode cX11_isFull 105 = .ok (.invokevirtual 198, 3) := by decide +kernel
theorem dX11_isFull_108 : decode cX11_isFull 108 = .ok (.bipush 12, 2) := by decide +kernel
theorem dX11_isFull_110 : decode cX11_isFull 110 = .ok (.if_icmp .ne 7, 3) := by decide +kernel
theorem dX11_isFull_113 : decode cX11_isFull 113 = .ok (.iconst 1, 1) := by decide +kernel
theorem dX11_isFull_114 : decode cX11_isFull 114 = .ok (.goto 4, 3) := by decide +kernel
theorem dX11_isFull_117 : decode cX11_isFull 117 = .ok (.iconst 0, 1) := by decide +kernel
theorem dX11_isFull_118 : decode cX11_isFull 118 = .ok (.ireturn, 1) := by decide +kernel
theorem dX11_isFull_119 : decode cX11_isFull 119 = .ok (.iconst 0, 1) := by decide +kernel
theorem dX11_isFull_120 : decode cX11_isFull 120 = .ok (.ireturn, 1) := by decide +kernel
theorem dX11_line_0 : decode cX11_line 0 = .ok (.aload_n 0, 1) := by decide +kernel
theorem dX11_line_1 : decode cX11_line 1 = .ok (.getfield 147, 3) := by decide +kernel
theorem dX11_line_4 : decode cX11_line 4 = .ok (.ifCond .ne 12, 3) := by decide +kernel
theorem dX11_line_7 : decode cX11_line 7 = .ok (.aload_n 0, 1) := by decide +kernel
theorem dX11_line_8 : decode cX11_line 8 = .ok (.getfield 157, 3) := by decide +kernel
theorem dX11_line_11 : decode cX11_line 11 = .ok (.bipush 8, 2) := by decide +kernel
theorem dX11_line_13 : decode cX11_line 13 = .ok (.if_icmp .le 9, 3) := by decide +kernel
theorem dX11_line_16 : decode cX11_line 16 = .ok (.aload_n 0, 1) := by decide +kernel
theorem dX11_line_17 : decode cX11_line 17 = .ok (.iconst 1, 1) := by decide +kernel
theorem dX11_line_18 : decode cX11_line 18 = .ok (.invokevirtual 191, 3) := by decide +kernel
theorem dX11_line_21 : decode cX11_line 21 = .ok (.return_, 1) := by decide +kernel
theorem dX11_line_22 : decode cX11_line 22 = .ok (.aload_n 0, 1) := by decide +kernel
theorem dX11_line_23 : decode cX11_line 23 = .ok (.getfield 157, 3) := by decide +kernel
theorem dX11_line_26 : decode cX11_line 26 = .ok (.istore_n 1, 1) := by decide +kernel
theorem dX11_line_27 : decode cX11_line 27 = .ok (.aload_n 0, 1) := by decide +kernel
theorem dX11_line_28 : decode cX11_line 28 = .ok (.iload_n 1, 1) := by decide +kernel
theorem dX11_line_29 : decode cX11_line 29 = .ok (.invokevirtual 206, 3) := by decide +kernel
theorem dX11_line_32 : decode cX11_line 32 = .ok (.ifCond .eq 11, 3) := by decide +kernel
theorem dX11_line_35 : decode cX11_line 35 = .ok (.aload_n 0, 1) := by decide +kernel
theorem dX11_line_36 : decode cX11_line 36 = .ok (.iconst 2, 1) := by decide +kernel
theorem dX11_line_37 : decode cX11_line 37 = .ok (.invokevirtual 191, 3) := by decide +kernel
theorem dX11_line_40 : decode cX11_line 40 = .ok (.goto 32, 3) := by decide +kernel
theorem dX11_line_43 : decode cX11_line 43 = .ok (.iload_n 1, 1) := by decide +kernel
theorem dX11_line_44 : decode cX11_line 44 = .ok (.bipush 6, 2) := by decide +kernel
theorem dX11_line_46 : decode cX11_line 46 = .ok (.if_icmp .eq 9, 3) := by decide +kernel
theorem dX11_line_49 : decode cX11_line 49 = .ok (.iload_n 1, 1) := by decide +kernel
theorem dX11_line_50 : decode cX11_line 50 = .ok (.bipush 7, 2) := by decide +kernel
theorem dX11_line_52 : decode cX11_line 52 = .ok (.if_icmp .ne 20, 3) := by decide +kernel
theorem dX11_line_55 : decode cX11_line 55 = .ok (.aload_n 0, 1) := by decide +kernel
theorem dX11_line_56 : decode cX11_line 56 = .ok (.getfield 209, 3) := by decide +kernel
theorem dX11_line_59 : decode cX11_line 59 = .ok (.iload_n 1, 1) := by decide +kernel
theorem dX11_line_60 : decode cX11_line 60 = .ok (.ishr, 1) := by decide +kernel
theorem dX11_line_61 : decode cX11_line 61 = .ok (.iconst 1, 1) := by decide +kernel
theorem dX11_line_62 : decode cX11_line 62 = .ok (.iand, 1) := by decide +kernel
theorem dX11_line_63 : decode cX11_line 63 = .ok (.iconst 1, 1) := by decide +kernel
theorem dX11_line_64 : decode cX11_line 64 = .ok (.if_icmp .ne 8, 3) := by decide +kernel
theorem dX11_line_67 : decode cX11_line 67 = .ok (.aload_n 0, 1) := by decide +kernel
theorem dX11_line_68 : decode cX11_line 68 = .ok (.iconst 3, 1) := by decide +kernel
theorem dX11_line_69 : decode cX11_line 69 = .ok (.invokevirtual 191, 3) := by decide +kernel
theorem dX11_line_72 : decode cX11_line 72 = .ok (.aload_n 0, 1) := by decide +kernel
theorem dX11_line_73 : decode cX11_line 73 = .ok (.getfield 182, 3) := by decide +kernel
theorem dX11_line_76 : decode cX11_line 76 = .ok (.ifCond .eq 4, 3) := by decide +kernel
theorem dX11_line_79 : decode cX11_line 79 = .ok (.return_, 1) := by decide +kernel
theorem dX11_line_80 : decode cX11_line 80 = .ok (.aload_n 0, 1) := by decide +kernel
theorem dX11_line_81 : decode cX11_line 81 = .ok (.dup, 1) := by decide +kernel
theorem dX11_line_82 : decode cX11_line 82 = .ok (.getfield 209, 3) := by decide +kernel
theorem dX11_line_85 : decode cX11_line 85 = .ok (.iconst 1, 1) := by decide +kernel
theorem dX11_line_86 : decode cX11_line 86 = .ok (.iload_n 1, 1) := by decide +kernel
theorem dX11_line_87 : decode cX11_line 87 = .ok (.ishl, 1) := by decide +kernel
theorem dX11_line_88 : decode cX11_line 88 = .ok (.ior, 1) := by decide +kernel
theorem dX11_line_89 : decode cX11_line 89 = .ok (.putfield 209, 3) := by decide +kernel
theorem dX11_line_92 : decode cX11_line 92 = .ok (.aload_n 0, 1) := by decide +kernel
theorem dX11_line_93 : decode cX11_line 93 = .ok (.invokevirtual 188, 3) := by decide +kernel
theorem dX11_line_96 : decode cX11_line 96 = .ok (.iload_n 1, 1) := by decide +kernel
theorem dX11_line_97 : decode cX11_line 97 = .ok (.tableswitch 310 0 7 #[47, 103, 110, 117, 190, 244, 279, 294], 47) := by decide +kernel
theorem dX11_line_144 : decode cX11_line 144 = .ok (.iconst 3, 1) := by decide +kernel
theorem dX11_line_145 : decode cX11_line 145 = .ok (.aload_n 0, 1) := by decide +kernel
theorem dX11_line_146 : decode cX11_line 146 = .ok (.iconst 0, 1) := by decide +kernel
theorem dX11_line_147 : decode cX11_line 147 = .ok (.invokevirtual 198, 3) := by decide +kernel
theorem dX11_line_150 : decode cX11_line 150 = .ok (.iadd, 1) := by decide +kernel
theorem dX11_line_151 : decode cX11_line 151 = .ok (.istore_n 2, 1) := by decide +kernel
theorem dX11_line_152 : decode cX11_line 152 = .ok (.aload_n 0, 1) := by decide +kernel
theorem dX11_line_153 : decode cX11_line 153 = .ok (.getfield 16, 3) := by decide +kernel
theorem dX11_line_156 : decode cX11_line 156 = .ok (.iload_n 2, 1) := by decide +kernel
theorem dX11_line_157 : decode cX11_line 157 = .ok (.aload_n 0, 1) := by decide +kernel
theorem dX11_line_158 : decode cX11_line 158 = .ok (.aload_n 0, 1) := by decide +kernel
theorem dX11_line_159 : decode cX11_line 159 = .ok (.getfield 16, 3) := by decide +kernel
theorem dX11_line_162 : decode cX11_line 162 = .ok (.iconst 3, 1) := by decide +kernel
theorem dX11_line_163 : decode cX11_line 163 = .ok (.aload_n 0, 1) := by decide +kernel
theorem dX11_line_164 : decode cX11_line 164 = .ok (.iconst 0, 1) := by decide +kernel
theorem dX11_line_165 : decode cX11_line 165 = .ok (.invokevirtual 198, 3) := by decide +kernel
theorem dX11_line_168 : decode cX11_line 168 = .ok (.invokevirtual 212, 3) := by decide +kernel
theorem dX11_line_171 : decode cX11_line 171 = .ok (.iastore, 1) := by decide +kernel
theorem dX11_line_172 : decode cX11_line 172 = .ok (.aload_n 0, 1) := by decide +kernel
theorem dX11_line_173 : decode cX11_line 173 = .ok (.getfield 19, 3) := by decide +kernel
theorem dX11_line_176 : decode cX11_line 176 = .ok (.iload_n 2, 1) := by decide +kernel
theorem dX11_line_177 : decode cX11_line 177 = .ok (.aload_n 0, 1) := by decide +kernel
theorem dX11_line_178 : decode cX11_line 178 = .ok (.iconst 0, 1) := by decide +kernel
theorem dX11_line_179 : decode cX11_line 179 = .ok (.bipush 6, 2) := by decide +kernel
theorem dX11_line_181 : decode cX11_line 181 = .ok (.invokevirtual 215, 3) := by decide +kernel
theorem dX11_line_184 : decode cX11_line 184 = .ok (.iastore, 1) := by decide +kernel
theorem dX11_line_185 : decode cX11_line 185 = .ok (.aload_n 0, 1) := by decide +kernel
theorem dX11_line_186 : decode cX11_line 186 = .ok (.iconst 0, 1) := by decide +kernel
theorem dX11_line_187 : decode cX11_line 187 = .ok (.aload_n 0, 1) := by decide +kernel
theorem dX11_line_188 : decode cX11_line 188 = .ok (.iconst 0, 1) := by decide +kernel
theorem dX11_line_189 : decode cX11_line 189 = .ok (.invokevirtual 198, 3) := by decide +kernel
theorem dX11_line_192 : decode cX11_line 192 = .ok (.iconst 1, 1) := by decide +kernel
theorem dX11_line_193 : decode cX11_line 193 = .ok (.iadd, 1) := by decide +kernel
theorem dX11_line_194 : decode cX11_line 194 = .ok (.invokevirtual 219, 3) := by decide +kernel
theorem dX11_line_197 : decode cX11_line 197 = .ok (.goto 214, 3) := by decide +kernel
theorem dX11_line_200 : decode cX11_line 200 = .ok (.aload_n 0, 1) := by decide +kernel
theorem dX11_line_201 : decode cX11_line 201 = .ok (.invokevirtual 223, 3) := by decide +kernel
theorem dX11_line_204 : decode cX11_line 204 = .ok (.goto 207, 3) := by decide +kernel
theorem dX11_line_207 : decode cX11_line 207 = .ok (.aload_n 0, 1) := by decide +kernel
theorem dX11_line_208 : decode cX11_line 208 = .ok (.invokevirtual 226, 3) := by decide +kernel
theorem dX11_line_211 : decode cX11_line 211 = .ok (.goto 200, 3) := by decide +kernel
theorem dX11_line_214 : decode cX11_line 214 = .ok (.bipush 8, 2) := by decide +kernel
theorem dX11_line_216 : decode cX11_line 216 = .ok (.aload_n 0, 1) := by decide +kernel
theorem dX11_line_217 : decode cX11_line 217 = .ok (.iconst 2, 1) := by decide +kernel
theorem dX11_line_218 : decode cX11_line 218 = .ok (.invokevirtual 198, 3) := by decide +kernel
theorem dX11_line_221 : decode cX11_line 221 = .ok (.iadd, 1) := by decide +kernel
theorem dX11_line_222 : decode cX11_line 222 = .ok (.istore_n 3, 1) := by decide +kernel
theorem dX11_line_223 : decode cX11_line 223 = .ok (.aload_n 0, 1) := by decide +kernel
theorem dX11_line_224 : decode cX11_line 224 = .ok (.getfield 31, 3) := by decide +kernel
theorem dX11_line_227 : decode cX11_line 227 = .ok (.iload_n 3, 1) := by decide +kernel
theorem dX11_line_228 : decode cX11_line 228 = .ok (.aload_n 0, 1) := by decide +kernel
theorem dX11_line_229 : decode cX11_line 229 = .ok (.aload_n 0, 1) := by decide +kernel
theorem dX11_line_230 : decode cX11_line 230 = .ok (.getfield 31, 3) := by decide +kernel
theorem dX11_line_233 : decode cX11_line 233 = .ok (.bipush 8, 2) := by decide +kernel
theorem dX11_line_235 : decode cX11_line 235 = .ok (.aload_n 0, 1) := by decide +kernel
theorem dX11_line_236 : decode cX11_line 236 = .ok (.iconst 2, 1) := by decide +kernel
theorem dX11_line_237 : decode cX11_line 237 = .ok (.invokevirtual 198, 3) := by decide +kernel
theorem dX11_line_240 : decode cX11_line 240 = .ok (.invokevirtual 212, 3) := by decide +kernel
theorem dX11_line_243 : decode cX11_line 243 = .ok (.iastore, 1) := by decide +kernel
theorem dX11_line_244 : decode cX11_line 244 = .ok (.aload_n 0, 1) := by decide +kernel
theorem dX11_line_245 : decode cX11_line 245 = .ok (.getfield 34, 3) := by decide +kernel
theorem dX11_line_248 : decode cX11_line 248 = .ok (.iload_n 3, 1) := by decide +kernel
theorem dX11_line_249 : decode cX11_line 249 = .ok (.aload_n 0, 1) := by decide +kernel
theorem dX11_line_250 : decode cX11_line 250 = .ok (.bipush 7, 2) := by decide +kernel
theorem dX11_line_252 : decode cX11_line 252 = .ok (.invokevirtual 198, 3) := by decide +kernel
theorem dX11_line_255 : decode cX11_line 255 = .ok (.iastore, 1) := by decide +kernel
theorem dX11_line_256 : decode cX11_line 256 = .ok (.aload_n 0, 1) := by decide +kernel
theorem dX11_line_257 : decode cX11_line 257 = .ok (.invokevirtual 229, 3) := by decide +kernel
theorem dX11_line_260 : decode cX11_line 260 = .ok (.aload_n 0, 1) := by decide +kernel
theorem dX11_line_261 : decode cX11_line 261 = .ok (.getfield 37, 3) := by decide +kernel
theorem dX11_line_264 : decode cX11_line 264 = .ok (.iload_n 3, 1) := by decide +kernel
theorem dX11_line_265 : decode cX11_line 265 = .ok (.aload_n 0, 1) := by decide +kernel
theorem dX11_line_266 : decode cX11_line 266 = .ok (.bipush 7, 2) := by decide +kernel
theorem dX11_line_268 : decode cX11_line 268 = .ok (.invokevirtual 198, 3) := by decide +kernel
theorem dX11_line_271 : decode cX11_line 271 = .ok (.iastore, 1) := by decide +kernel
theorem dX11_line_272 : decode cX11_line 272 = .ok (.aload_n 0, 1) := by decide +kernel
theorem dX11_line_273 : decode cX11_line 273 = .ok (.iconst 2, 1) := by decide +kernel
theorem dX11_line_274 : decode cX11_line 274 = .ok (.aload_n 0, 1) := by decide +kernel
theorem dX11_line_275 : decode cX11_line 275 = .ok (.iconst 2, 1) := by decide +kernel
theorem dX11_line_276 : decode cX11_line 276 = .ok (.invokevirtual 198, 3) := by decide +kernel
theorem dX11_line_279 : decode cX11_line 279 = .ok (.iconst 1, 1) := by decide +kernel
theorem dX11_line_280 : decode cX11_line 280 = .ok (.iadd, 1) := by decide +kernel
theorem dX11_line_281 : decode cX11_line 281 = .ok (.invokevirtual 219, 3) := by decide +kernel
theorem dX11_line_284 : decode cX11_line 284 = .ok (.goto 127, 3) := by decide +kernel
theorem dX11_line_287 : decode cX11_line 287 = .ok (.bipush 12, 2) := by decide +kernel
theorem dX11_line_289 : decode cX11_line 289 = .ok (.aload_n 0, 1) := by decide +kernel
theorem dX11_line_290 : decode cX11_line 290 = .ok (.iconst 3, 1) := by decide +kernel
theorem dX11_line_291 : decode cX11_line 291 = .ok (.invokevirtual 198, 3) := by decide +kernel
theorem dX11_line_294 : decode cX11_line 294 = .ok (.iadd, 1) := by decide +kernel
theorem dX11_line_295 : decode cX11_line 295 = .ok (.istore 4, 2) := by decide +kernel
theorem dX11_line_297 : decode cX11_line 297 = .ok (.aload_n 0, 1) := by decide +kernel
theorem dX11_line_298 : decode cX11_line 298 = .ok (.getfield 40, 3) := by decide +kernel
theorem dX11_line_301 : decode cX11_line 301 = .ok (.iload 4, 2) := by decide +kernel
theorem dX11_line_303 : decode cX11_line 303 = .ok (.aload_n 0, 1) := by decide +kernel
theorem dX11_line_304 : decode cX11_line 304 = .ok (.invokevirtual 232, 3) := by decide +kernel
theorem dX11_line_307 : decode cX11_line 307 = .ok (.iastore, 1) := by decide +kernel
theorem dX11_line_308 : decode cX11_line 308 = .ok (.aload_n 0, 1) := by decide +kernel
theorem dX11_line_309 : decode cX11_line 309 = .ok (.invokevirtual 235, 3) := by decide +kernel
theorem dX11_line_312 : decode cX11_line 312 = .ok (.aload_n 0, 1) := by decide +kernel
theorem dX11_line_313 : decode cX11_line 313 = .ok (.getfield 43, 3) := by decide +kernel
theorem dX11_line_316 : decode cX11_line 316 = .ok (.iload 4, 2) := by decide +kernel
theorem dX11_line_318 : decode cX11_line 318 = .ok (.aload_n 0, 1) := by decide +kernel
theorem dX11_line_319 : decode cX11_line 319 = .ok (.iconst 0, 1) := by decide +kernel
theorem dX11_line_320 : decode cX11_line 320 = .ok (.bipush 99, 2) := by decide +kernel
theorem dX11_line_322 : decode cX11_line 322 = .ok (.invokevirtual 215, 3) := by decide +kernel
theorem dX11_line_325 : decode cX11_line 325 = .ok (.iastore, 1) := by decide +kernel
theorem dX11_line_326 : decode cX11_line 326 = .ok (.aload_n 0, 1) := by decide +kernel
theorem dX11_line_327 : decode cX11_line 327 = .ok (.iconst 3, 1) := by decide +kernel
theorem dX11_line_328 : decode cX11_line 328 = .ok (.aload_n 0, 1) := by decide +kernel
theorem dX11_line_329 : decode cX11_line 329 = .ok (.iconst 3, 1) := by decide +kernel
theorem dX11_line_330 : decode cX11_line 330 = .ok (.invokevirtual 198, 3) := by decide +kernel
theorem dX11_line_333 : decode cX11_line 333 = .ok (.iconst 1, 1) := by decide +kernel
theorem dX11_line_334 : decode cX11_line 334 = .ok (.iadd, 1) := by decide +kernel
theorem dX11_line_335 : decode cX11_line 335 = .ok (.invokevirtual 219, 3) := by decide +kernel
theorem dX11_line_338 : decode cX11_line 338 = .ok (.goto 73, 3) := by decide +kernel
theorem dX11_line_341 : decode cX11_line 341 = .ok (.aload_n 0, 1) := by decide +kernel
theorem dX11_line_342 : decode cX11_line 342 = .ok (.getfield 46, 3) := by decide +kernel
theorem dX11_line_345 : decode cX11_line 345 = .ok (.bipush 12, 2) := by decide +kernel
theorem dX11_line_347 : decode cX11_line 347 = .ok (.aload_n 0, 1) := by decide +kernel
theorem dX11_line_348 : decode cX11_line 348 = .ok (.iconst 4, 1) := by decide +kernel
theorem dX11_line_349 : decode cX11_line 349 = .ok (.invokevirtual 198, 3) := by decide +kernel
theorem dX11_line_352 : decode cX11_line 352 = .ok (.iadd, 1) := by decide +kernel
theorem dX11_line_353 : decode cX11_line 353 = .ok (.aload_n 0, 1) := by decide +kernel
theorem dX11_line_354 : decode cX11_line 354 = .ok (.iconst 0, 1) := by decide +kernel
theorem dX11_line_355 : decode cX11_line 355 = .ok (.bipush 99, 2) := by decide +kernel
theorem dX11_line_357 : decode cX11_line 357 = .ok (.invokevirtual 215, 3) := by decide +kernel
theorem dX11_line_360 : decode cX11_line 360 = .ok (.iastore, 1) := by decide +kernel
theorem dX11_line_361 : decode cX11_line 361 = .ok (.aload_n 0, 1) := by decide +kernel
theorem dX11_line_362 : decode cX11_line 362 = .ok (.iconst 4, 1) := by decide +kernel
theorem dX11_line_363 : decode cX11_line 363 = .ok (.aload_n 0, 1) := by decide +kernel
theorem dX11_line_364 : decode cX11_line 364 = .ok (.iconst 4, 1) := by decide +kernel
theorem dX11_line_365 : decode cX11_line 365 = .ok (.invokevirtual 198, 3) := by decide +kernel
theorem dX11_line_368 : decode cX11_line 368 = .ok (.iconst 1, 1) := by decide +kernel
theorem dX11_line_369 : decode cX11_line 369 = .ok (.iadd, 1) := by decide +kernel
theorem dX11_line_370 : decode cX11_line 370 = .ok (.invokevirtual 219, 3) := by decide +kernel
theorem dX11_line_373 : decode cX11_line 373 = .ok (.goto 38, 3) := by decide +kernel
theorem dX11_line_376 : decode cX11_line 376 = .ok (.aload_n 0, 1) := by decide +kernel
theorem dX11_line_377 : decode cX11_line 377 = .ok (.iconst 5, 1) := by decide +kernel
theorem dX11_line_378 : decode cX11_line 378 = .ok (.aload_n 0, 1) := by decide +kernel
theorem dX11_line_379 : decode cX11_line 379 = .ok (.iconst 0, 1) := by decide +kernel
theorem dX11_line_380 : decode cX11_line 380 = .ok (.bipush 100, 2) := by decide +kernel
theorem dX11_line_382 : decode cX11_line 382 = .ok (.invokevirtual 215, 3) := by decide +kernel
theorem dX11_line_385 : decode cX11_line 385 = .ok (.invokevirtual 219, 3) := by decide +kernel
theorem dX11_line_388 : decode cX11_line 388 = .ok (.goto 23, 3) := by decide +kernel
theorem dX11_line_391 : decode cX11_line 391 = .ok (.aload_n 0, 1) := by decide +kernel
theorem dX11_line_392 : decode cX11_line 392 = .ok (.bipush 6, 2) := by decide +kernel
theorem dX11_line_394 : decode cX11_line 394 = .ok (.aload_n 0, 1) := by decide +kernel
theorem dX11_line_395 : decode cX11_line 395 = .ok (.iconst 0, 1) := by decide +kernel
theorem dX11_line_396 : decode cX11_line 396 = .ok (.ldc 166, 2) := by decide +kernel
theorem dX11_line_398 : decode cX11_line 398 = .ok (.invokevirtual 215, 3) := by decide +kernel
theorem dX11_line_401 : decode cX11_line 401 = .ok (.invokevirtual 219, 3) := by decide +kernel
theorem dX11_line_404 : decode cX11_line 404 = .ok (.goto 7, 3) := by decide +kernel
theorem dX11_line_407 : decode cX11_line 407 = .ok (.aload_n 0, 1) := by decide +kernel
theorem dX11_line_408 : decode cX11_line 408 = .ok (.invokevirtual 238, 3) := by decide +kernel
theorem dX11_line_411 : decode cX11_line 411 = .ok (.aload_n 0, 1) := by decide +kernel
theorem dX11_line_412 : decode cX11_line 412 = .ok (.getfield 182, 3) := by decide +kernel
theorem dX11_line_415 : decode cX11_line 415 = .ok (.ifCond .eq 4, 3) := by decide +kernel
theorem dX11_line_418 : decode cX11_line 418 = .ok (.return_, 1) := by decide +kernel
theorem dX11_line_419 : decode cX11_line 419 = .ok (.aload_n 0, 1) := by decide +kernel
theorem dX11_line_420 : decode cX11_line 420 = .ok (.bipush 59, 2) := by decide +kernel
theorem dX11_line_422 : decode cX11_line 422 = .ok (.invokevirtual 241, 3) := by decide +kernel
theorem dX11_line_425 : decode cX11_line 425 = .ok (.ifCond .ne 11, 3) := by decide +kernel
theorem dX11_line_428 : decode cX11_line 428 = .ok (.aload_n 0, 1) := by decide +kernel
theorem dX11_line_429 : decode cX11_line 429 = .ok (.iconst 1, 1) := by decide +kernel
theorem dX11_line_430 : decode cX11_line 430 = .ok (.invokevirtual 191, 3) := by decide +kernel
theorem dX11_line_433 : decode cX11_line 433 = .ok (.goto 7, 3) := by decide +kernel
theorem dX11_line_436 : decode cX11_line 436 = .ok (.aload_n 0, 1) := by decide +kernel
theorem dX11_line_437 : decode cX11_line 437 = .ok (.invokevirtual 188, 3) := by decide +kernel
theorem dX11_line_440 : decode cX11_line 440 = .ok (.aload_n 0, 1) := by decide +kernel
theorem dX11_line_441 : decode cX11_line 441 = .ok (.dup, 1) := by decide +kernel
theorem dX11_line_442 : decode cX11_line 442 = .ok (.getfield 244, 3) := by decide +kernel
theorem dX11_line_445 : decode cX11_line 445 = .ok (.iconst 1, 1) := by decide +kernel
theorem dX11_line_446 : decode cX11_line 446 = .ok (.iadd, 1) := by decide +kernel
theorem dX11_line_447 : decode cX11_line 447 = .ok (.putfield 244, 3) := by decide +kernel
theorem dX11_line_450 : decode cX11_line 450 = .ok (.return_, 1) := by decide +kernel
theorem dX11_personLine_0 : decode cX11_personLine 0 = .ok (.bipush 6, 2) := by decide +kernel
theorem dX11_personLine_2 : decode cX11_personLine 2 = .ok (.aload_n 0, 1) := by decide +kernel
theorem dX11_personLine_3 : decode cX11_personLine 3 = .ok (.iconst 1, 1) := by decide +kernel
theorem dX11_personLine_4 : decode cX11_personLine 4 = .ok (.invokevirtual 198, 3) := by decide +kernel
theorem dX11_personLine_7 : decode cX11_personLine 7 = .ok (.iadd, 1) := by decide +kernel
theorem dX11_personLine_8 : decode cX11_personLine 8 = .ok (.istore_n 1, 1) := by decide +kernel
theorem dX11_personLine_9 : decode cX11_personLine 9 = .ok (.aload_n 0, 1) := by decide +kernel
theorem dX11_personLine_10 : decode cX11_personLine 10 = .ok (.getfield 22, 3) := by decide +kernel
theorem dX11_personLine_13 : decode cX11_personLine 13 = .ok (.iload_n 1, 1) := by decide +kernel
theorem dX11_personLine_14 : decode cX11_personLine 14 = .ok (.aload_n 0, 1) := by decide +kernel
theorem dX11_personLine_15 : decode cX11_personLine 15 = .ok (.aload_n 0, 1) := by decide +kernel
theorem dX11_personLine_16 : decode cX11_personLine 16 = .ok (.getfield 22, 3) := by decide +kernel
theorem dX11_personLine_19 : decode cX11_personLine 19 = .ok (.bipush 6, 2) := by decide +kernel
theorem dX11_personLine_21 : decode cX11_personLine 21 = .ok (.aload_n 0, 1) := by decide +kernel
theorem dX11_personLine_22 : decode cX11_personLine 22 = .ok (.iconst 1, 1) := by decide +kernel
theorem dX11_personLine_23 : decode cX11_personLine 23 = .ok (.invokevirtual 198, 3) := by decide +kernel
theorem dX11_personLine_26 : decode cX11_personLine 26 = .ok (.invokevirtual 212, 3) := by decide +kernel
theorem dX11_personLine_29 : decode cX11_personLine 29 = .ok (.iastore, 1) := by decide +kernel
theorem dX11_personLine_30 : decode cX11_personLine 30 = .ok (.aload_n 0, 1) := by decide +kernel
theorem dX11_personLine_31 : decode cX11_personLine 31 = .ok (.getfield 25, 3) := by decide +kernel
theorem dX11_personLine_34 : decode cX11_personLine 34 = .ok (.iload_n 1, 1) := by decide +kernel
theorem dX11_personLine_35 : decode cX11_personLine 35 = .ok (.aload_n 0, 1) := by decide +kernel
theorem dX11_personLine_36 : decode cX11_personLine 36 = .ok (.invokevirtual 247, 3) := by decide +kernel
theorem dX11_personLine_39 : decode cX11_personLine 39 = .ok (.iastore, 1) := by decide +kernel
theorem dX11_personLine_40 : decode cX11_personLine 40 = .ok (.iconst 0, 1) := by decide +kernel
theorem dX11_personLine_41 : decode cX11_personLine 41 = .ok (.istore_n 2, 1) := by decide +kernel
theorem dX11_personLine_42 : decode cX11_personLine 42 = .ok (.bipush 6, 2) := by decide +kernel
theorem dX11_personLine_44 : decode cX11_personLine 44 = .ok (.istore_n 3, 1) := by decide +kernel
theorem dX11_personLine_45 : decode cX11_personLine 45 = .ok (.iload_n 3, 1) := by decide +kernel
theorem dX11_personLine_46 : decode cX11_personLine 46 = .ok (.iload_n 1, 1) := by decide +kernel
theorem dX11_personLine_47 : decode cX11_personLine 47 = .ok (.if_icmp .ge 32, 3) := by decide +kernel
theorem dX11_personLine_50 : decode cX11_personLine 50 = .ok (.iload_n 2, 1) := by decide +kernel
theorem dX11_personLine_51 : decode cX11_personLine 51 = .ok (.aload_n 0, 1) := by decide +kernel
theorem dX11_personLine_52 : decode cX11_personLine 52 = .ok (.getfield 25, 3) := by decide +kernel
theorem dX11_personLine_55 : decode cX11_personLine 55 = .ok (.iload_n 3, 1) := by decide +kernel
theorem dX11_personLine_56 : decode cX11_personLine 56 = .ok (.iaload, 1) := by decide +kernel
theorem dX11_personLine_57 : decode cX11_personLine 57 = .ok (.aload_n 0, 1) := by decide +kernel
theorem dX11_personLine_58 : decode cX11_personLine 58 = .ok (.getfield 25, 3) := by decide +kernel
theorem dX11_personLine_61 : decode cX11_personLine 61 = .ok (.iload_n 1, 1) := by decide +kernel
theorem dX11_personLine_62 : decode cX11_personLine 62 = .ok (.iaload, 1) := by decide +kernel
theorem dX11_personLine_63 : decode cX11_personLine 63 = .ok (.if_icmp .ne 7, 3) := by decide +kernel
theorem dX11_personLine_66 : decode cX11_personLine 66 = .ok (.iconst 1, 1) := by decide +kernel
theorem dX11_personLine_67 : decode cX11_personLine 67 = .ok (.goto 4, 3) := by decide +kernel
theorem dX11_personLine_70 : decode cX11_personLine 70 = .ok (.iconst 0, 1) := by decide +kernel
theorem dX11_personLine_71 : decode cX11_personLine 71 = .ok (.iadd, 1) := by decide +kernel
theorem dX11_personLine_72 : decode cX11_personLine 72 = .ok (.istore_n 2, 1) := by decide +kernel
theorem dX11_personLine_73 : decode cX11_personLine 73 = .ok (.iinc 3 1, 3) := by decide +kernel
theorem dX11_personLine_76 : decode cX11_personLine 76 = .ok (.goto (-31), 3) := by decide +kernel
theorem dX11_personLine_79 : decode cX11_personLine 79 = .ok (.aload_n 0, 1) := by decide +kernel
theorem dX11_personLine_80 : decode cX11_personLine 80 = .ok (.getfield 182, 3) := by decide +kernel
theorem dX11_personLine_83 : decode cX11_personLine 83 = .ok (.ifCond .ne 25, 3) := by decide +kernel
theorem dX11_personLine_86 : decode cX11_personLine 86 = .ok (.iload_n 2, 1) := by decide +kernel
theorem dX11_personLine_87 : decode cX11_personLine 87 = .ok (.aload_n 0, 1) := by decide +kernel
theorem dX11_personLine_88 : decode cX11_personLine 88 = .ok (.getfield 19, 3) := by decide +kernel
theorem dX11_personLine_91 : decode cX11_personLine 91 = .ok (.iconst 3, 1) := by decide +kernel
theorem dX11_personLine_92 : decode cX11_personLine 92 = .ok (.aload_n 0, 1) := by decide +kernel
theorem dX11_personLine_93 : decode cX11_personLine 93 = .ok (.getfield 25, 3) := by decide +kernel
theorem dX11_personLine_96 : decode cX11_personLine 96 = .ok (.iload_n 1, 1) := by decide +kernel
theorem dX11_personLine_97 : decode cX11_personLine 97 = .ok (.iaload, 1) := by decide +kernel
theorem dX11_personLine_98 : decode cX11_personLine 98 = .ok (.iadd, 1) := by decide +kernel
theorem dX11_personLine_99 : decode cX11_personLine 99 = .ok (.iaload, 1) := by decide +kernel
theorem dX11_personLine_100 : decode cX11_personLine 100 = .ok (.if_icmp .ne 8, 3) := by decide +kernel
theorem dX11_personLine_103 : decode cX11_personLine 103 = .ok (.aload_n 0, 1) := by decide +kernel
theorem dX11_personLine_104 : decode cX11_personLine 104 = .ok (.iconst 5, 1) := by decide +kernel
theorem dX11_personLine_105 : decode cX11_personLine 105 = .ok (.invokevirtual 191, 3) := by decide +kernel
theorem dX11_personLine_108 : decode cX11_personLine 108 = .ok (.aload_n 0, 1) := by decide +kernel
theorem dX11_personLine_109 : decode cX11_personLine 109 = .ok (.invokevirtual 235, 3) := by decide +kernel
theorem dX11_personLine_112 : decode cX11_personLine 112 = .ok (.aload_n 0, 1) := by decide +kernel
theorem dX11_personLine_113 : decode cX11_personLine 113 = .ok (.getfield 28, 3) := by decide +kernel
theorem dX11_personLine_116 : decode cX11_personLine 116 = .ok (.iload_n 1, 1) := by decide +kernel
theorem dX11_personLine_117 : decode cX11_personLine 117 = .ok (.iconst 0, 1) := by decide +kernel
theorem dX11_personLine_118 : decode cX11_personLine 118 = .ok (.iastore, 1) := by decide +kernel
theorem dX11_personLine_119 : decode cX11_personLine 119 = .ok (.aload_n 0, 1) := by decide +kernel
theorem dX11_personLine_120 : decode cX11_personLine 120 = .ok (.iconst 1, 1) := by decide +kernel
theorem dX11_personLine_121 : decode cX11_personLine 121 = .ok (.aload_n 0, 1) := by decide +kernel
theorem dX11_personLine_122 : decode cX11_personLine 122 = .ok (.iconst 1, 1) := by decide +kernel
theorem dX11_personLine_123 : decode cX11_personLine 123 = .ok (.invokevirtual 198, 3) := by decide +kernel
theorem dX11_personLine_126 : decode cX11_personLine 126 = .ok (.iconst 1, 1) := by decide +kernel
theorem dX11_personLine_127 : decode cX11_personLine 127 = .ok (.iadd, 1) := by decide +kernel
theorem dX11_personLine_128 : decode cX11_personLine 128 = .ok (.invokevirtual 219, 3) := by decide +kernel
theorem dX11_personLine_131 : decode cX11_personLine 131 = .ok (.return_, 1) := by decide +kernel
theorem dX11_seesLine_0 : decode cX11_seesLine 0 = .ok (.aload_n 0, 1) := by decide +kernel
theorem dX11_seesLine_1 : decode cX11_seesLine 1 = .ok (.invokevirtual 250, 3) := by decide +kernel
theorem dX11_seesLine_4 : decode cX11_seesLine 4 = .ok (.istore_n 1, 1) := by decide +kernel
theorem dX11_seesLine_5 : decode cX11_seesLine 5 = .ok (.aload_n 0, 1) := by decide +kernel
theorem dX11_seesLine_6 : decode cX11_seesLine 6 = .ok (.getfield 182, 3) := by decide +kernel
theorem dX11_seesLine_9 : decode cX11_seesLine 9 = .ok (.ifCond .ne 22, 3) := by decide +kernel
theorem dX11_seesLine_12 : decode cX11_seesLine 12 = .ok (.aload_n 0, 1) := by decide +kernel
theorem dX11_seesLine_13 : decode cX11_seesLine 13 = .ok (.bipush 8, 2) := by decide +kernel
theorem dX11_seesLine_15 : decode cX11_seesLine 15 = .ok (.invokevirtual 198, 3) := by decide +kernel
theorem dX11_seesLine_18 : decode cX11_seesLine 18 = .ok (.iload_n 1, 1) := by decide +kernel
theorem dX11_seesLine_19 : decode cX11_seesLine 19 = .ok (.ishr, 1) := by decide +kernel
theorem dX11_seesLine_20 : decode cX11_seesLine 20 = .ok (.iconst 1, 1) := by decide +kernel
theorem dX11_seesLine_21 : decode cX11_seesLine 21 = .ok (.iand, 1) := by decide +kernel
theorem dX11_seesLine_22 : decode cX11_seesLine 22 = .ok (.iconst 1, 1) := by decide +kernel
theorem dX11_seesLine_23 : decode cX11_seesLine 23 = .ok (.if_icmp .ne 8, 3) := by decide +kernel
theorem dX11_seesLine_26 : decode cX11_seesLine 26 = .ok (.aload_n 0, 1) := by decide +kernel
theorem dX11_seesLine_27 : decode cX11_seesLine 27 = .ok (.iconst 3, 1) := by decide +kernel
theorem dX11_seesLine_28 : decode cX11_seesLine 28 = .ok (.invokevirtual 191, 3) := by decide +kernel
theorem dX11_seesLine_31 : decode cX11_seesLine 31 = .ok (.aload_n 0, 1) := by decide +kernel
theorem dX11_seesLine_32 : decode cX11_seesLine 32 = .ok (.invokevirtual 235, 3) := by decide +kernel
theorem dX11_seesLine_35 : decode cX11_seesLine 35 = .ok (.iconst 0, 1) := by decide +kernel
theorem dX11_seesLine_36 : decode cX11_seesLine 36 = .ok (.istore_n 2, 1) := by decide +kernel
theorem dX11_seesLine_37 : decode cX11_seesLine 37 = .ok (.iconst 1, 1) := by decide +kernel
theorem dX11_seesLine_38 : decode cX11_seesLine 38 = .ok (.istore_n 3, 1) := by decide +kernel
theorem dX11_seesLine_39 : decode cX11_seesLine 39 = .ok (.aload_n 0, 1) := by decide +kernel
theorem dX11_seesLine_40 : decode cX11_seesLine 40 = .ok (.getfield 182, 3) := by decide +kernel
theorem dX11_seesLine_43 : decode cX11_seesLine 43 = .ok (.ifCond .ne 81, 3) := by decide +kernel
theorem dX11_seesLine_46 : decode cX11_seesLine 46 = .ok (.iload_n 3, 1) := by decide +kernel
theorem dX11_seesLine_47 : decode cX11_seesLine 47 = .ok (.ifCond .eq 77, 3) := by decide +kernel
theorem dX11_seesLine_50 : decode cX11_seesLine 50 = .ok (.aload_n 0, 1) := by decide +kernel
theorem dX11_seesLine_51 : decode cX11_seesLine 51 = .ok (.invokevirtual 250, 3) := by decide +kernel
theorem dX11_seesLine_54 : decode cX11_seesLine 54 = .ok (.istore 4, 2) := by decide +kernel
theorem dX11_seesLine_56 : decode cX11_seesLine 56 = .ok (.aload_n 0, 1) := by decide +kernel
theorem dX11_seesLine_57 : decode cX11_seesLine 57 = .ok (.getfield 182, 3) := by decide +kernel
theorem dX11_seesLine_60 : decode cX11_seesLine 60 = .ok (.ifCond .ne 14, 3) := by decide +kernel
theorem dX11_seesLine_63 : decode cX11_seesLine 63 = .ok (.iload 4, 2) := by decide +kernel
theorem dX11_seesLine_65 : decode cX11_seesLine 65 = .ok (.iload_n 1, 1) := by decide +kernel
theorem dX11_seesLine_66 : decode cX11_seesLine 66 = .ok (.if_icmp .ne 8, 3) := by decide +kernel
theorem dX11_seesLine_69 : decode cX11_seesLine 69 = .ok (.aload_n 0, 1) := by decide +kernel
theorem dX11_seesLine_70 : decode cX11_seesLine 70 = .ok (.iconst 5, 1) := by decide +kernel
theorem dX11_seesLine_71 : decode cX11_seesLine 71 = .ok (.invokevirtual 191, 3) := by decide +kernel
theorem dX11_seesLine_74 : decode cX11_seesLine 74 = .ok (.aload_n 0, 1) := by decide +kernel
theorem dX11_seesLine_75 : decode cX11_seesLine 75 = .ok (.getfield 182, 3) := by decide +kernel
theorem dX11_seesLine_78 : decode cX11_seesLine 78 = .ok (.ifCond .ne 18, 3) := by decide +kernel
theorem dX11_seesLine_81 : decode cX11_seesLine 81 = .ok (.iload_n 2, 1) := by decide +kernel
theorem dX11_seesLine_82 : decode cX11_seesLine 82 = .ok (.iload 4, 2) := by decide +kernel
theorem dX11_seesLine_84 : decode cX11_seesLine 84 = .ok (.ishr, 1) := by decide +kernel
theorem dX11_seesLine_85 : decode cX11_seesLine 85 = .ok (.iconst 1, 1) := by decide +kernel
theorem dX11_seesLine_86 : decode cX11_seesLine 86 = .ok (.iand, 1) := by decide +kernel
theorem dX11_seesLine_87 : decode cX11_seesLine 87 = .ok (.iconst 1, 1) := by decide +kernel
theorem dX11_seesLine_88 : decode cX11_seesLine 88 = .ok (.if_icmp .ne 8, 3) := by decide +kernel
theorem dX11_seesLine_91 : decode cX11_seesLine 91 = .ok (.aload_n 0, 1) := by decide +kernel
theorem dX11_seesLine_92 : decode cX11_seesLine 92 = .ok (.iconst 3, 1) := by decide +kernel
theorem dX11_seesLine_93 : decode cX11_seesLine 93 = .ok (.invokevirtual 191, 3) := by decide +kernel
theorem dX11_seesLine_96 : decode cX11_seesLine 96 = .ok (.aload_n 0, 1) := by decide +kernel
theorem dX11_seesLine_97 : decode cX11_seesLine 97 = .ok (.invokevirtual 235, 3) := by decide +kernel
theorem dX11_seesLine_100 : decode cX11_seesLine 100 = .ok (.iload_n 2, 1) := by decide +kernel
theorem dX11_seesLine_101 : decode cX11_seesLine 101 = .ok (.iconst 1, 1) := by decide +kernel
theorem dX11_seesLine_102 : decode cX11_seesLine 102 = .ok (.iload 4, 2) := by decide +kernel
theorem dX11_seesLine_104 : decode cX11_seesLine 104 = .ok (.ishl, 1) := by decide +kernel
theorem dX11_seesLine_105 : decode cX11_seesLine 105 = .ok (.ior, 1) := by decide +kernel
theorem dX11_seesLine_106 : decode cX11_seesLine 106 = .ok (.istore_n 2, 1) := by decide +kernel
theorem dX11_seesLine_107 : decode cX11_seesLine 107 = .ok (.aload_n 0, 1) := by decide +kernel
theorem dX11_seesLine_108 : decode cX11_seesLine 108 = .ok (.getfield 147, 3) := by decide +kernel
theorem dX11_seesLine_111 : decode cX11_seesLine 111 = .ok (.iconst 1, 1) := by decide +kernel
theorem dX11_seesLine_112 : decode cX11_seesLine 112 = .ok (.if_icmp .ne 7, 3) := by decide +kernel
theorem dX11_seesLine_115 : decode cX11_seesLine 115 = .ok (.iconst 1, 1) := by decide +kernel
theorem dX11_seesLine_116 : decode cX11_seesLine 116 = .ok (.goto 4, 3) := by decide +kernel
theorem dX11_seesLine_119 : decode cX11_seesLine 119 = .ok (.iconst 0, 1) := by decide +kernel
theorem dX11_seesLine_120 : decode cX11_seesLine 120 = .ok (.istore_n 3, 1) := by decide +kernel
theorem dX11_seesLine_121 : decode cX11_seesLine 121 = .ok (.goto (-82), 3) := by decide +kernel
theorem dX11_seesLine_124 : decode cX11_seesLine 124 = .ok (.aload_n 0, 1) := by decide +kernel
theorem dX11_seesLine_125 : decode cX11_seesLine 125 = .ok (.getfield 182, 3) := by decide +kernel
theorem dX11_seesLine_128 : decode cX11_seesLine 128 = .ok (.ifCond .eq 4, 3) := by decide +kernel
theorem dX11_seesLine_131 : decode cX11_seesLine 131 = .ok (.return_, 1) := by decide +kernel
theorem dX11_seesLine_132 : decode cX11_seesLine 132 = .ok (.aload_n 0, 1) := by decide +kernel
theorem dX11_seesLine_133 : decode cX11_seesLine 133 = .ok (.getfield 28, 3) := by decide +kernel
theorem dX11_seesLine_136 : decode cX11_seesLine 136 = .ok (.bipush 6, 2) := by decide +kernel
theorem dX11_seesLine_138 : decode cX11_seesLine 138 = .ok (.iload_n 1, 1) := by decide +kernel
theorem dX11_seesLine_139 : decode cX11_seesLine 139 = .ok (.iadd, 1) := by decide +kernel
theorem dX11_seesLine_140 : decode cX11_seesLine 140 = .ok (.iload_n 2, 1) := by decide +kernel
theorem dX11_seesLine_141 : decode cX11_seesLine 141 = .ok (.iastore, 1) := by decide +kernel
theorem dX11_seesLine_142 : decode cX11_seesLine 142 = .ok (.aload_n 0, 1) := by decide +kernel
theorem dX11_seesLine_143 : decode cX11_seesLine 143 = .ok (.bipush 8, 2) := by decide +kernel
theorem dX11_seesLine_145 : decode cX11_seesLine 145 = .ok (.aload_n 0, 1) := by decide +kernel
theorem dX11_seesLine_146 : decode cX11_seesLine 146 = .ok (.bipush 8, 2) := by decide +kernel
theorem dX11_seesLine_148 : decode cX11_seesLine 148 = .ok (.invokevirtual 198, 3) := by decide +kernel
theorem dX11_seesLine_151 : decode cX11_seesLine 151 = .ok (.iconst 1, 1) := by decide +kernel
theorem dX11_seesLine_152 : decode cX11_seesLine 152 = .ok (.iload_n 1, 1) := by decide +kernel
theorem dX11_seesLine_153 : decode cX11_seesLine 153 = .ok (.ishl, 1) := by decide +kernel
theorem dX11_seesLine_154 : decode cX11_seesLine 154 = .ok (.ior, 1) := by decide +kernel
theorem dX11_seesLine_155 : decode cX11_seesLine 155 = .ok (.invokevirtual 219, 3) := by decide +kernel
theorem dX11_seesLine_158 : decode cX11_seesLine 158 = .ok (.return_, 1) := by decide +kernel
theorem dX11_lawLine_0 : decode cX11_lawLine 0 = .ok (.aload_n 0, 1) := by decide +kernel
theorem dX11_lawLine_1 : decode cX11_lawLine 1 = .ok (.getfield 147, 3) := by decide +kernel
theorem dX11_lawLine_4 : decode cX11_lawLine 4 = .ok (.ifCond .ne 21, 3) := by decide +kernel
theorem dX11_lawLine_7 : decode cX11_lawLine 7 = .ok (.aload_n 0, 1) := by decide +kernel
theorem dX11_lawLine_8 : decode cX11_lawLine 8 = .ok (.getfield 157, 3) := by decide +kernel
theorem dX11_lawLine_11 : decode cX11_lawLine 11 = .ok (.bipush 9, 2) := by decide +kernel
theorem dX11_lawLine_13 : decode cX11_lawLine 13 = .ok (.if_icmp .eq 17, 3) := by decide +kernel
theorem dX11_lawLine_16 : decode cX11_lawLine 16 = .ok (.aload_n 0, 1) := by decide +kernel
theorem dX11_lawLine_17 : decode cX11_lawLine 17 = .ok (.getfield 157, 3) := by decide +kernel
theorem dX11_lawLine_20 : decode cX11_lawLine 20 = .ok (.bipush 10, 2) := by decide +kernel
theorem dX11_lawLine_22 : decode cX11_lawLine 22 = .ok (.if_icmp .eq 8, 3) := by decide +kernel
theorem dX11_lawLine_25 : decode cX11_lawLine 25 = .ok (.aload_n 0, 1) := by decide +kernel
theorem dX11_lawLine_26 : decode cX11_lawLine 26 = .ok (.iconst 1, 1) := by decide +kernel
theorem dX11_lawLine_27 : decode cX11_lawLine 27 = .ok (.invokevirtual 191, 3) := by decide +kernel
theorem dX11_lawLine_30 : decode cX11_lawLine 30 = .ok (.aload_n 0, 1) := by decide +kernel
theorem dX11_lawLine_31 : decode cX11_lawLine 31 = .ok (.getfield 157, 3) := by decide +kernel
theorem dX11_lawLine_34 : decode cX11_lawLine 34 = .ok (.bipush 9, 2) := by decide +kernel
theorem dX11_lawLine_36 : decode cX11_lawLine 36 = .ok (.isub, 1) := by decide +kernel
theorem dX11_lawLine_37 : decode cX11_lawLine 37 = .ok (.istore_n 1, 1) := by decide +kernel
theorem dX11_lawLine_38 : decode cX11_lawLine 38 = .ok (.aload_n 0, 1) := by decide +kernel
theorem dX11_lawLine_39 : decode cX11_lawLine 39 = .ok (.getfield 182, 3) := by decide +kernel
theorem dX11_lawLine_42 : decode cX11_lawLine 42 = .ok (.ifCond .ne 23, 3) := by decide +kernel
theorem dX11_lawLine_45 : decode cX11_lawLine 45 = .ok (.aload_n 0, 1) := by decide +kernel
theorem dX11_lawLine_46 : decode cX11_lawLine 46 = .ok (.getfield 209, 3) := by decide +kernel
theorem dX11_lawLine_49 : decode cX11_lawLine 49 = .ok (.bipush 16, 2) := by decide +kernel
theorem dX11_lawLine_51 : decode cX11_lawLine 51 = .ok (.iload_n 1, 1) := by decide +kernel
theorem dX11_lawLine_52 : decode cX11_lawLine 52 = .ok (.iadd, 1) := by decide +kernel
theorem dX11_lawLine_53 : decode cX11_lawLine 53 = .ok (.ishr, 1) := by decide +kernel
theorem dX11_lawLine_54 : decode cX11_lawLine 54 = .ok (.iconst 1, 1) := by decide +kernel
theorem dX11_lawLine_55 : decode cX11_lawLine 55 = .ok (.iand, 1) := by decide +kernel
theorem dX11_lawLine_56 : decode cX11_lawLine 56 = .ok (.iconst 1, 1) := by decide +kernel
theorem dX11_lawLine_57 : decode cX11_lawLine 57 = .ok (.if_icmp .ne 8, 3) := by decide +kernel
theorem dX11_lawLine_60 : decode cX11_lawLine 60 = .ok (.aload_n 0, 1) := by decide +kernel
theorem dX11_lawLine_61 : decode cX11_lawLine 61 = .ok (.iconst 3, 1) := by decide +kernel
theorem dX11_lawLine_62 : decode cX11_lawLine 62 = .ok (.invokevirtual 191, 3) := by decide +kernel
theorem dX11_lawLine_65 : decode cX11_lawLine 65 = .ok (.aload_n 0, 1) := by decide +kernel
theorem dX11_lawLine_66 : decode cX11_lawLine 66 = .ok (.getfield 182, 3) := by decide +kernel
theorem dX11_lawLine_69 : decode cX11_lawLine 69 = .ok (.ifCond .eq 4, 3) := by decide +kernel
theorem dX11_lawLine_72 : decode cX11_lawLine 72 = .ok (.return_, 1) := by decide +kernel
theorem dX11_lawLine_73 : decode cX11_lawLine 73 = .ok (.aload_n 0, 1) := by decide +kernel
theorem dX11_lawLine_74 : decode cX11_lawLine 74 = .ok (.dup, 1) := by decide +kernel
theorem dX11_lawLine_75 : decode cX11_lawLine 75 = .ok (.getfield 209, 3) := by decide +kernel
theorem dX11_lawLine_78 : decode cX11_lawLine 78 = .ok (.iconst 1, 1) := by decide +kernel
theorem dX11_lawLine_79 : decode cX11_lawLine 79 = .ok (.bipush 16, 2) := by decide +kernel
theorem dX11_lawLine_81 : decode cX11_lawLine 81 = .ok (.iload_n 1, 1) := by decide +kernel
theorem dX11_lawLine_82 : decode cX11_lawLine 82 = .ok (.iadd, 1) := by decide +kernel
theorem dX11_lawLine_83 : decode cX11_lawLine 83 = .ok (.ishl, 1) := by decide +kernel
theorem dX11_lawLine_84 : decode cX11_lawLine 84 = .ok (.ior, 1) := by decide +kernel
theorem dX11_lawLine_85 : decode cX11_lawLine 85 = .ok (.putfield 209, 3) := by decide +kernel
theorem dX11_lawLine_88 : decode cX11_lawLine 88 = .ok (.aload_n 0, 1) := by decide +kernel
theorem dX11_lawLine_89 : decode cX11_lawLine 89 = .ok (.invokevirtual 188, 3) := by decide +kernel
theorem dX11_lawLine_92 : decode cX11_lawLine 92 = .ok (.aload_n 0, 1) := by decide +kernel
theorem dX11_lawLine_93 : decode cX11_lawLine 93 = .ok (.getfield 49, 3) := by decide +kernel
theorem dX11_lawLine_96 : decode cX11_lawLine 96 = .ok (.iconst 2, 1) := by decide +kernel
theorem dX11_lawLine_97 : decode cX11_lawLine 97 = .ok (.iload_n 1, 1) := by decide +kernel
theorem dX11_lawLine_98 : decode cX11_lawLine 98 = .ok (.iadd, 1) := by decide +kernel
theorem dX11_lawLine_99 : decode cX11_lawLine 99 = .ok (.aload_n 0, 1) := by decide +kernel
theorem dX11_lawLine_100 : decode cX11_lawLine 100 = .ok (.bipush 7, 2) := by decide +kernel
theorem dX11_lawLine_102 : decode cX11_lawLine 102 = .ok (.invokevirtual 198, 3) := by decide +kernel
theorem dX11_lawLine_105 : decode cX11_lawLine 105 = .ok (.iastore, 1) := by decide +kernel
theorem dX11_lawLine_106 : decode cX11_lawLine 106 = .ok (.aload_n 0, 1) := by decide +kernel
theorem dX11_lawLine_107 : decode cX11_lawLine 107 = .ok (.invokevirtual 253, 3) := by decide +kernel
theorem dX11_lawLine_110 : decode cX11_lawLine 110 = .ok (.aload_n 0, 1) := by decide +kernel
theorem dX11_lawLine_111 : decode cX11_lawLine 111 = .ok (.getfield 52, 3) := by decide +kernel
theorem dX11_lawLine_114 : decode cX11_lawLine 114 = .ok (.iconst 2, 1) := by decide +kernel
theorem dX11_lawLine_115 : decode cX11_lawLine 115 = .ok (.iload_n 1, 1) := by decide +kernel
theorem dX11_lawLine_116 : decode cX11_lawLine 116 = .ok (.iadd, 1) := by decide +kernel
theorem dX11_lawLine_117 : decode cX11_lawLine 117 = .ok (.aload_n 0, 1) := by decide +kernel
theorem dX11_lawLine_118 : decode cX11_lawLine 118 = .ok (.bipush 7, 2) := by decide +kernel
theorem dX11_lawLine_120 : decode cX11_lawLine 120 = .ok (.invokevirtual 198, 3) := by decide +kernel
theorem dX11_lawLine_123 : decode cX11_lawLine 123 = .ok (.iastore, 1) := by decide +kernel
theorem dX11_lawLine_124 : decode cX11_lawLine 124 = .ok (.return_, 1) := by decide +kernel
theorem dX11_eithers_0 : decode cX11_eithers 0 = .ok (.aload_n 0, 1) := by decide +kernel
theorem dX11_eithers_1 : decode cX11_eithers 1 = .ok (.invokevirtual 256, 3) := by decide +kernel
theorem dX11_eithers_4 : decode cX11_eithers 4 = .ok (.aload_n 0, 1) := by decide +kernel
theorem dX11_eithers_5 : decode cX11_eithers 5 = .ok (.bipush 11, 2) := by decide +kernel
theorem dX11_eithers_7 : decode cX11_eithers 7 = .ok (.invokevirtual 259, 3) := by decide +kernel
theorem dX11_eithers_10 : decode cX11_eithers 10 = .ok (.ifCond .eq 26, 3) := by decide +kernel
theorem dX11_eithers_13 : decode cX11_eithers 13 = .ok (.aload_n 0, 1) := by decide +kernel
theorem dX11_eithers_14 : decode cX11_eithers 14 = .ok (.invokevirtual 262, 3) := by decide +kernel
theorem dX11_eithers_17 : decode cX11_eithers 17 = .ok (.aload_n 0, 1) := by decide +kernel
theorem dX11_eithers_18 : decode cX11_eithers 18 = .ok (.invokevirtual 235, 3) := by decide +kernel
theorem dX11_eithers_21 : decode cX11_eithers 21 = .ok (.aload_n 0, 1) := by decide +kernel
theorem dX11_eithers_22 : decode cX11_eithers 22 = .ok (.invokevirtual 256, 3) := by decide +kernel
theorem dX11_eithers_25 : decode cX11_eithers 25 = .ok (.aload_n 0, 1) := by decide +kernel
theorem dX11_eithers_26 : decode cX11_eithers 26 = .ok (.iconst 2, 1) := by decide +kernel
theorem dX11_eithers_27 : decode cX11_eithers 27 = .ok (.sipush 262, 3) := by decide +kernel
theorem dX11_eithers_30 : decode cX11_eithers 30 = .ok (.invokevirtual 265, 3) := by decide +kernel
theorem dX11_eithers_33 : decode cX11_eithers 33 = .ok (.goto (-29), 3) := by decide +kernel
theorem dX11_eithers_36 : decode cX11_eithers 36 = .ok (.return_, 1) := by decide +kernel
theorem dX11_boths_0 : decode cX11_boths 0 = .ok (.aload_n 0, 1) := by decide +kernel
theorem dX11_boths_1 : decode cX11_boths 1 = .ok (.invokevirtual 268, 3) := by decide +kernel
theorem dX11_boths_4 : decode cX11_boths 4 = .ok (.aload_n 0, 1) := by decide +kernel
theorem dX11_boths_5 : decode cX11_boths 5 = .ok (.bipush 12, 2) := by decide +kernel
theorem dX11_boths_7 : decode cX11_boths 7 = .ok (.invokevirtual 259, 3) := by decide +kernel
theorem dX11_boths_10 : decode cX11_boths 10 = .ok (.ifCond .eq 26, 3) := by decide +kernel
theorem dX11_boths_13 : decode cX11_boths 13 = .ok (.aload_n 0, 1) := by decide +kernel
theorem dX11_boths_14 : decode cX11_boths 14 = .ok (.invokevirtual 262, 3) := by decide +kernel
theorem dX11_boths_17 : decode cX11_boths 17 = .ok (.aload_n 0, 1) := by decide +kernel
theorem dX11_boths_18 : decode cX11_boths 18 = .ok (.invokevirtual 235, 3) := by decide +kernel
theorem dX11_boths_21 : decode cX11_boths 21 = .ok (.aload_n 0, 1) := by decide +kernel
theorem dX11_boths_22 : decode cX11_boths 22 = .ok (.invokevirtual 268, 3) := by decide +kernel
theorem dX11_boths_25 : decode cX11_boths 25 = .ok (.aload_n 0, 1) := by decide +kernel
theorem dX11_boths_26 : decode cX11_boths 26 = .ok (.iconst 2, 1) := by decide +kernel
theorem dX11_boths_27 : decode cX11_boths 27 = .ok (.sipush 261, 3) := by decide +kernel
theorem dX11_boths_30 : decode cX11_boths 30 = .ok (.invokevirtual 265, 3) := by decide +kernel
theorem dX11_boths_33 : decode cX11_boths 33 = .ok (.goto (-29), 3) := by decide +kernel
theorem dX11_boths_36 : decode cX11_boths 36 = .ok (.return_, 1) := by decide +kernel
theorem dX11_unless_0 : decode cX11_unless 0 = .ok (.aload_n 0, 1) := by decide +kernel
theorem dX11_unless_1 : decode cX11_unless 1 = .ok (.bipush 13, 2) := by decide +kernel
theorem dX11_unless_3 : decode cX11_unless 3 = .ok (.invokevirtual 259, 3) := by decide +kernel
theorem dX11_unless_6 : decode cX11_unless 6 = .ok (.ifCond .ne 8, 3) := by decide +kernel
theorem dX11_unless_9 : decode cX11_unless 9 = .ok (.aload_n 0, 1) := by decide +kernel
theorem dX11_unless_10 : decode cX11_unless 10 = .ok (.invokevirtual 271, 3) := by decide +kernel
theorem dX11_unless_13 : decode cX11_unless 13 = .ok (.return_, 1) := by decide +kernel
theorem dX11_unless_14 : decode cX11_unless 14 = .ok (.aload_n 0, 1) := by decide +kernel
theorem dX11_unless_15 : decode cX11_unless 15 = .ok (.invokevirtual 262, 3) := by decide +kernel
theorem dX11_unless_18 : decode cX11_unless 18 = .ok (.aload_n 0, 1) := by decide +kernel
theorem dX11_unless_19 : decode cX11_unless 19 = .ok (.invokevirtual 235, 3) := by decide +kernel
theorem dX11_unless_22 : decode cX11_unless 22 = .ok (.aload_n 0, 1) := by decide +kernel
theorem dX11_unless_23 : decode cX11_unless 23 = .ok (.invokevirtual 268, 3) := by decide +kernel
theorem dX11_unless_26 : decode cX11_unless 26 = .ok (.aload_n 0, 1) := by decide +kernel
theorem dX11_unless_27 : decode cX11_unless 27 = .ok (.iconst 2, 1) := by decide +kernel
theorem dX11_unless_28 : decode cX11_unless 28 = .ok (.sipush 260, 3) := by decide +kernel
theorem dX11_unless_31 : decode cX11_unless 31 = .ok (.invokevirtual 265, 3) := by decide +kernel
theorem dX11_unless_34 : decode cX11_unless 34 = .ok (.return_, 1) := by decide +kernel
theorem dX11_bracket_0 : decode cX11_bracket 0 = .ok (.aload_n 0, 1) := by decide +kernel
theorem dX11_bracket_1 : decode cX11_bracket 1 = .ok (.getfield 274, 3) := by decide +kernel
theorem dX11_bracket_4 : decode cX11_bracket 4 = .ok (.bipush 8, 2) := by decide +kernel
theorem dX11_bracket_6 : decode cX11_bracket 6 = .ok (.if_icmp .ne 8, 3) := by decide +kernel
theorem dX11_bracket_9 : decode cX11_bracket 9 = .ok (.aload_n 0, 1) := by decide +kernel
theorem dX11_bracket_10 : decode cX11_bracket 10 = .ok (.iconst 2, 1) := by decide +kernel
theorem dX11_bracket_11 : decode cX11_bracket 11 = .ok (.invokevirtual 191, 3) := by decide +kernel
theorem dX11_bracket_14 : decode cX11_bracket 14 = .ok (.aload_n 0, 1) := by decide +kernel
theorem dX11_bracket_15 : decode cX11_bracket 15 = .ok (.getfield 182, 3) := by decide +kernel
theorem dX11_bracket_18 : decode cX11_bracket 18 = .ok (.ifCond .eq 4, 3) := by decide +kernel
theorem dX11_bracket_21 : decode cX11_bracket 21 = .ok (.return_, 1) := by decide +kernel
theorem dX11_bracket_22 : decode cX11_bracket 22 = .ok (.aload_n 0, 1) := by decide +kernel
theorem dX11_bracket_23 : decode cX11_bracket 23 = .ok (.dup, 1) := by decide +kernel
theorem dX11_bracket_24 : decode cX11_bracket 24 = .ok (.getfield 274, 3) := by decide +kernel
theorem dX11_bracket_27 : decode cX11_bracket 27 = .ok (.iconst 1, 1) := by decide +kernel
theorem dX11_bracket_28 : decode cX11_bracket 28 = .ok (.iadd, 1) := by decide +kernel
theorem dX11_bracket_29 : decode cX11_bracket 29 = .ok (.putfield 274, 3) := by decide +kernel
theorem dX11_bracket_32 : decode cX11_bracket 32 = .ok (.aload_n 0, 1) := by decide +kernel
theorem dX11_bracket_33 : decode cX11_bracket 33 = .ok (.invokevirtual 188, 3) := by decide +kernel
theorem dX11_bracket_36 : decode cX11_bracket 36 = .ok (.aload_n 0, 1) := by decide +kernel
theorem dX11_bracket_37 : decode cX11_bracket 37 = .ok (.invokevirtual 229, 3) := by decide +kernel
theorem dX11_bracket_40 : decode cX11_bracket 40 = .ok (.aload_n 0, 1) := by decide +kernel
theorem dX11_bracket_41 : decode cX11_bracket 41 = .ok (.getfield 182, 3) := by decide +kernel
theorem dX11_bracket_44 : decode cX11_bracket 44 = .ok (.ifCond .ne 17, 3) := by decide +kernel
theorem dX11_bracket_47 : decode cX11_bracket 47 = .ok (.aload_n 0, 1) := by decide +kernel
theorem dX11_bracket_48 : decode cX11_bracket 48 = .ok (.bipush 41, 2) := by decide +kernel
theorem dX11_bracket_50 : decode cX11_bracket 50 = .ok (.invokevirtual 241, 3) := by decide +kernel
theorem dX11_bracket_53 : decode cX11_bracket 53 = .ok (.ifCond .ne 8, 3) := by decide +kernel
theorem dX11_bracket_56 : decode cX11_bracket 56 = .ok (.aload_n 0, 1) := by decide +kernel
theorem dX11_bracket_57 : decode cX11_bracket 57 = .ok (.iconst 1, 1) := by decide +kernel
theorem dX11_bracket_58 : decode cX11_bracket 58 = .ok (.invokevirtual 191, 3) := by decide +kernel
theorem dX11_bracket_61 : decode cX11_bracket 61 = .ok (.aload_n 0, 1) := by decide +kernel
theorem dX11_bracket_62 : decode cX11_bracket 62 = .ok (.getfield 182, 3) := by decide +kernel
theorem dX11_bracket_65 : decode cX11_bracket 65 = .ok (.ifCond .eq 4, 3) := by decide +kernel
theorem dX11_bracket_68 : decode cX11_bracket 68 = .ok (.return_, 1) := by decide +kernel
theorem dX11_bracket_69 : decode cX11_bracket 69 = .ok (.aload_n 0, 1) := by decide +kernel
theorem dX11_bracket_70 : decode cX11_bracket 70 = .ok (.dup, 1) := by decide +kernel
theorem dX11_bracket_71 : decode cX11_bracket 71 = .ok (.getfield 274, 3) := by decide +kernel
theorem dX11_bracket_74 : decode cX11_bracket 74 = .ok (.iconst 1, 1) := by decide +kernel
theorem dX11_bracket_75 : decode cX11_bracket 75 = .ok (.isub, 1) := by decide +kernel
theorem dX11_bracket_76 : decode cX11_bracket 76 = .ok (.putfield 274, 3) := by decide +kernel
theorem dX11_bracket_79 : decode cX11_bracket 79 = .ok (.aload_n 0, 1) := by decide +kernel
theorem dX11_bracket_80 : decode cX11_bracket 80 = .ok (.invokevirtual 188, 3) := by decide +kernel
theorem dX11_bracket_83 : decode cX11_bracket 83 = .ok (.return_, 1) := by decide +kernel
theorem dX11_plain_0 : decode cX11_plain 0 = .ok (.aload_n 0, 1) := by decide +kernel
theorem dX11_plain_1 : decode cX11_plain 1 = .ok (.getfield 182, 3) := by decide +kernel
theorem dX11_plain_4 : decode cX11_plain 4 = .ok (.ifCond .eq 4, 3) := by decide +kernel
theorem dX11_plain_7 : decode cX11_plain 7 = .ok (.return_, 1) := by decide +kernel
theorem dX11_plain_8 : decode cX11_plain 8 = .ok (.aload_n 0, 1) := by decide +kernel
theorem dX11_plain_9 : decode cX11_plain 9 = .ok (.bipush 40, 2) := by decide +kernel
theorem dX11_plain_11 : decode cX11_plain 11 = .ok (.invokevirtual 241, 3) := by decide +kernel
theorem dX11_plain_14 : decode cX11_plain 14 = .ok (.ifCond .eq 8, 3) := by decide +kernel
theorem dX11_plain_17 : decode cX11_plain 17 = .ok (.aload_n 0, 1) := by decide +kernel
theorem dX11_plain_18 : decode cX11_plain 18 = .ok (.invokevirtual 277, 3) := by decide +kernel
theorem dX11_plain_21 : decode cX11_plain 21 = .ok (.return_, 1) := by decide +kernel
theorem dX11_plain_22 : decode cX11_plain 22 = .ok (.aload_n 0, 1) := by decide +kernel
theorem dX11_plain_23 : decode cX11_plain 23 = .ok (.getfield 147, 3) := by decide +kernel
theorem dX11_plain_26 : decode cX11_plain 26 = .ok (.ifCond .ne 21, 3) := by decide +kernel
theorem dX11_plain_29 : decode cX11_plain 29 = .ok (.aload_n 0, 1) := by decide +kernel
theorem dX11_plain_30 : decode cX11_plain 30 = .ok (.getfield 157, 3) := by decide +kernel
theorem dX11_plain_33 : decode cX11_plain 33 = .ok (.bipush 14, 2) := by decide +kernel
theorem dX11_plain_35 : decode cX11_plain 35 = .ok (.if_icmp .lt 12, 3) := by decide +kernel
theorem dX11_plain_38 : decode cX11_plain 38 = .ok (.aload_n 0, 1) := by decide +kernel
theorem dX11_plain_39 : decode cX11_plain 39 = .ok (.getfield 157, 3) := by decide +kernel
theorem dX11_plain_42 : decode cX11_plain 42 = .ok (.bipush 20, 2) := by decide +kernel
theorem dX11_plain_44 : decode cX11_plain 44 = .ok (.if_icmp .le 8, 3) := by decide +kernel
theorem dX11_plain_47 : decode cX11_plain 47 = .ok (.aload_n 0, 1) := by decide +kernel
theorem dX11_plain_48 : decode cX11_plain 48 = .ok (.iconst 1, 1) := by decide +kernel
theorem dX11_plain_49 : decode cX11_plain 49 = .ok (.invokevirtual 191, 3) := by decide +kernel
theorem dX11_plain_52 : decode cX11_plain 52 = .ok (.aload_n 0, 1) := by decide +kernel
theorem dX11_plain_53 : decode cX11_plain 53 = .ok (.getfield 157, 3) := by decide +kernel
theorem dX11_plain_56 : decode cX11_plain 56 = .ok (.istore_n 1, 1) := by decide +kernel
theorem dX11_plain_57 : decode cX11_plain 57 = .ok (.aload_n 0, 1) := by decide +kernel
theorem dX11_plain_58 : decode cX11_plain 58 = .ok (.invokevirtual 262, 3) := by decide +kernel
theorem dX11_plain_61 : decode cX11_plain 61 = .ok (.aload_n 0, 1) := by decide +kernel
theorem dX11_plain_62 : decode cX11_plain 62 = .ok (.invokevirtual 235, 3) := by decide +kernel
theorem dX11_plain_65 : decode cX11_plain 65 = .ok (.aload_n 0, 1) := by decide +kernel
theorem dX11_plain_66 : decode cX11_plain 66 = .ok (.getfield 182, 3) := by decide +kernel
theorem dX11_plain_69 : decode cX11_plain 69 = .ok (.ifCond .eq 4, 3) := by decide +kernel
theorem dX11_plain_72 : decode cX11_plain 72 = .ok (.return_, 1) := by decide +kernel
theorem dX11_plain_73 : decode cX11_plain 73 = .ok (.iconst 0, 1) := by decide +kernel
theorem dX11_plain_74 : decode cX11_plain 74 = .ok (.istore_n 2, 1) := by decide +kernel
theorem dX11_plain_75 : decode cX11_plain 75 = .ok (.iload_n 1, 1) := by decide +kernel
theorem dX11_plain_76 : decode cX11_plain 76 = .ok (.tableswitch 135 14 20 #[44, 70, 82, 135, 135, 98, 123], 44) := by decide +kernel
theorem dX11_plain_120 : decode cX11_plain 120 = .ok (.bipush 8, 2) := by decide +kernel
theorem dX11_plain_122 : decode cX11_plain 122 = .ok (.aload_n 0, 1) := by decide +kernel
theorem dX11_plain_123 : decode cX11_plain 123 = .ok (.invokevirtual 250, 3) := by decide +kernel
theorem dX11_plain_126 : decode cX11_plain 126 = .ok (.imul, 1) := by decide +kernel
theorem dX11_plain_127 : decode cX11_plain 127 = .ok (.istore_n 2, 1) := by decide +kernel
theorem dX11_plain_128 : decode cX11_plain 128 = .ok (.aload_n 0, 1) := by decide +kernel
theorem dX11_plain_129 : decode cX11_plain 129 = .ok (.invokevirtual 235, 3) := by decide +kernel
theorem dX11_plain_132 : decode cX11_plain 132 = .ok (.iload_n 2, 1) := by decide +kernel
theorem dX11_plain_133 : decode cX11_plain 133 = .ok (.aload_n 0, 1) := by decide +kernel
theorem dX11_plain_134 : decode cX11_plain 134 = .ok (.invokevirtual 247, 3) := by decide +kernel
theorem dX11_plain_137 : decode cX11_plain 137 = .ok (.iadd, 1) := by decide +kernel
theorem dX11_plain_138 : decode cX11_plain 138 = .ok (.istore_n 2, 1) := by decide +kernel
theorem dX11_plain_139 : decode cX11_plain 139 = .ok (.aload_n 0, 1) := by decide +kernel
theorem dX11_plain_140 : decode cX11_plain 140 = .ok (.invokevirtual 235, 3) := by decide +kernel
theorem dX11_plain_143 : decode cX11_plain 143 = .ok (.goto 72, 3) := by decide +kernel
theorem dX11_plain_146 : decode cX11_plain 146 = .ok (.aload_n 0, 1) := by decide +kernel
theorem dX11_plain_147 : decode cX11_plain 147 = .ok (.invokevirtual 250, 3) := by decide +kernel
theorem dX11_plain_150 : decode cX11_plain 150 = .ok (.istore_n 2, 1) := by decide +kernel
theorem dX11_plain_151 : decode cX11_plain 151 = .ok (.aload_n 0, 1) := by decide +kernel
theorem dX11_plain_152 : decode cX11_plain 152 = .ok (.invokevirtual 235, 3) := by decide +kernel
theorem dX11_plain_155 : decode cX11_plain 155 = .ok (.goto 60, 3) := by decide +kernel
theorem dX11_plain_158 : decode cX11_plain 158 = .ok (.aload_n 0, 1) := by decide +kernel
theorem dX11_plain_159 : decode cX11_plain 159 = .ok (.invokevirtual 250, 3) := by decide +kernel
theorem dX11_plain_162 : decode cX11_plain 162 = .ok (.istore_n 2, 1) := by decide +kernel
theorem dX11_plain_163 : decode cX11_plain 163 = .ok (.aload_n 0, 1) := by decide +kernel
theorem dX11_plain_164 : decode cX11_plain 164 = .ok (.invokevirtual 235, 3) := by decide +kernel
theorem dX11_plain_167 : decode cX11_plain 167 = .ok (.aload_n 0, 1) := by decide +kernel
theorem dX11_plain_168 : decode cX11_plain 168 = .ok (.invokevirtual 271, 3) := by decide +kernel
theorem dX11_plain_171 : decode cX11_plain 171 = .ok (.goto 44, 3) := by decide +kernel
theorem dX11_plain_174 : decode cX11_plain 174 = .ok (.bipush 8, 2) := by decide +kernel
theorem dX11_plain_176 : decode cX11_plain 176 = .ok (.aload_n 0, 1) := by decide +kernel
theorem dX11_plain_177 : decode cX11_plain 177 = .ok (.invokevirtual 247, 3) := by decide +kernel
theorem dX11_plain_180 : decode cX11_plain 180 = .ok (.imul, 1) := by decide +kernel
theorem dX11_plain_181 : decode cX11_plain 181 = .ok (.istore_n 2, 1) := by decide +kernel
theorem dX11_plain_182 : decode cX11_plain 182 = .ok (.aload_n 0, 1) := by decide +kernel
theorem dX11_plain_183 : decode cX11_plain 183 = .ok (.invokevirtual 235, 3) := by decide +kernel
theorem dX11_plain_186 : decode cX11_plain 186 = .ok (.iload_n 2, 1) := by decide +kernel
theorem dX11_plain_187 : decode cX11_plain 187 = .ok (.aload_n 0, 1) := by decide +kernel
theorem dX11_plain_188 : decode cX11_plain 188 = .ok (.iconst 0, 1) := by decide +kernel
theorem dX11_plain_189 : decode cX11_plain 189 = .ok (.bipush 6, 2) := by decide +kernel
theorem dX11_plain_191 : decode cX11_plain 191 = .ok (.invokevirtual 215, 3) := by decide +kernel
theorem dX11_plain_194 : decode cX11_plain 194 = .ok (.iadd, 1) := by decide +kernel
theorem dX11_plain_195 : decode cX11_plain 195 = .ok (.istore_n 2, 1) := by decide +kernel
theorem dX11_plain_196 : decode cX11_plain 196 = .ok (.goto 19, 3) := by decide +kernel
theorem dX11_plain_199 : decode cX11_plain 199 = .ok (.aload_n 0, 1) := by decide +kernel
theorem dX11_plain_200 : decode cX11_plain 200 = .ok (.invokevirtual 232, 3) := by decide +kernel
theorem dX11_plain_203 : decode cX11_plain 203 = .ok (.istore_n 2, 1) := by decide +kernel
theorem dX11_plain_204 : decode cX11_plain 204 = .ok (.aload_n 0, 1) := by decide +kernel
theorem dX11_plain_205 : decode cX11_plain 205 = .ok (.invokevirtual 235, 3) := by decide +kernel
theorem dX11_plain_208 : decode cX11_plain 208 = .ok (.goto 7, 3) := by decide +kernel
theorem dX11_plain_211 : decode cX11_plain 211 = .ok (.aload_n 0, 1) := by decide +kernel
theorem dX11_plain_212 : decode cX11_plain 212 = .ok (.invokevirtual 271, 3) := by decide +kernel
theorem dX11_plain_215 : decode cX11_plain 215 = .ok (.aload_n 0, 1) := by decide +kernel
theorem dX11_plain_216 : decode cX11_plain 216 = .ok (.iconst 3, 1) := by decide +kernel
theorem dX11_plain_217 : decode cX11_plain 217 = .ok (.iload_n 1, 1) := by decide +kernel
theorem dX11_plain_218 : decode cX11_plain 218 = .ok (.iadd, 1) := by decide +kernel
theorem dX11_plain_219 : decode cX11_plain 219 = .ok (.bipush 14, 2) := by decide +kernel
theorem dX11_plain_221 : decode cX11_plain 221 = .ok (.isub, 1) := by decide +kernel
theorem dX11_plain_222 : decode cX11_plain 222 = .ok (.iload_n 2, 1) := by decide +kernel
theorem dX11_plain_223 : decode cX11_plain 223 = .ok (.invokevirtual 265, 3) := by decide +kernel
theorem dX11_plain_226 : decode cX11_plain 226 = .ok (.return_, 1) := by decide +kernel
theorem dX11_puts_0 : decode cX11_puts 0 = .ok (.aload_n 0, 1) := by decide +kernel
theorem dX11_puts_1 : decode cX11_puts 1 = .ok (.getfield 182, 3) := by decide +kernel
theorem dX11_puts_4 : decode cX11_puts 4 = .ok (.ifCond .eq 4, 3) := by decide +kernel
theorem dX11_puts_7 : decode cX11_puts 7 = .ok (.return_, 1) := by decide +kernel
theorem dX11_puts_8 : decode cX11_puts 8 = .ok (.aload_n 0, 1) := by decide +kernel
theorem dX11_puts_9 : decode cX11_puts 9 = .ok (.getfield 55, 3) := by decide +kernel
theorem dX11_puts_12 : decode cX11_puts 12 = .ok (.bipush 64, 2) := by decide +kernel
theorem dX11_puts_14 : decode cX11_puts 14 = .ok (.aload_n 0, 1) := by decide +kernel
theorem dX11_puts_15 : decode cX11_puts 15 = .ok (.bipush 7, 2) := by decide +kernel
theorem dX11_puts_17 : decode cX11_puts 17 = .ok (.invokevirtual 198, 3) := by decide +kernel
theorem dX11_puts_20 : decode cX11_puts 20 = .ok (.iadd, 1) := by decide +kernel
theorem dX11_puts_21 : decode cX11_puts 21 = .ok (.iload_n 1, 1) := by decide +kernel
theorem dX11_puts_22 : decode cX11_puts 22 = .ok (.iastore, 1) := by decide +kernel
theorem dX11_puts_23 : decode cX11_puts 23 = .ok (.aload_n 0, 1) := by decide +kernel
theorem dX11_puts_24 : decode cX11_puts 24 = .ok (.getfield 58, 3) := by decide +kernel
theorem dX11_puts_27 : decode cX11_puts 27 = .ok (.bipush 64, 2) := by decide +kernel
theorem dX11_puts_29 : decode cX11_puts 29 = .ok (.aload_n 0, 1) := by decide +kernel
theorem dX11_puts_30 : decode cX11_puts 30 = .ok (.bipush 7, 2) := by decide +kernel
theorem dX11_puts_32 : decode cX11_puts 32 = .ok (.invokevirtual 198, 3) := by decide +kernel
theorem dX11_puts_35 : decode cX11_puts 35 = .ok (.iadd, 1) := by decide +kernel
theorem dX11_puts_36 : decode cX11_puts 36 = .ok (.iload_n 2, 1) := by decide +kernel
theorem dX11_puts_37 : decode cX11_puts 37 = .ok (.iastore, 1) := by decide +kernel
theorem dX11_puts_38 : decode cX11_puts 38 = .ok (.aload_n 0, 1) := by decide +kernel
theorem dX11_puts_39 : decode cX11_puts 39 = .ok (.bipush 7, 2) := by decide +kernel
theorem dX11_puts_41 : decode cX11_puts 41 = .ok (.aload_n 0, 1) := by decide +kernel
theorem dX11_puts_42 : decode cX11_puts 42 = .ok (.bipush 7, 2) := by decide +kernel
theorem dX11_puts_44 : decode cX11_puts 44 = .ok (.invokevirtual 198, 3) := by decide +kernel
theorem dX11_puts_47 : decode cX11_puts 47 = .ok (.iconst 1, 1) := by decide +kernel
theorem dX11_puts_48 : decode cX11_puts 48 = .ok (.iadd, 1) := by decide +kernel
theorem dX11_puts_49 : decode cX11_puts 49 = .ok (.invokevirtual 219, 3) := by decide +kernel
theorem dX11_puts_52 : decode cX11_puts 52 = .ok (.return_, 1) := by decide +kernel
theorem dX11_knot_0 : decode cX11_knot 0 = .ok (.aload_n 0, 1) := by decide +kernel
theorem dX11_knot_1 : decode cX11_knot 1 = .ok (.getfield 182, 3) := by decide +kernel
theorem dX11_knot_4 : decode cX11_knot 4 = .ok (.ifCond .eq 4, 3) := by decide +kernel
theorem dX11_knot_7 : decode cX11_knot 7 = .ok (.return_, 1) := by decide +kernel
theorem dX11_knot_8 : decode cX11_knot 8 = .ok (.aload_n 0, 1) := by decide +kernel
theorem dX11_knot_9 : decode cX11_knot 9 = .ok (.getfield 280, 3) := by decide +kernel
theorem dX11_knot_12 : decode cX11_knot 12 = .ok (.bipush 64, 2) := by decide +kernel
theorem dX11_knot_14 : decode cX11_knot 14 = .ok (.if_icmp .ne 11, 3) := by decide +kernel
theorem dX11_knot_17 : decode cX11_knot 17 = .ok (.aload_n 0, 1) := by decide +kernel
theorem dX11_knot_18 : decode cX11_knot 18 = .ok (.iconst 2, 1) := by decide +kernel
theorem dX11_knot_19 : decode cX11_knot 19 = .ok (.invokevirtual 191, 3) := by decide +kernel
theorem dX11_knot_22 : decode cX11_knot 22 = .ok (.goto 13, 3) := by decide +kernel
theorem dX11_knot_25 : decode cX11_knot 25 = .ok (.aload_n 0, 1) := by decide +kernel
theorem dX11_knot_26 : decode cX11_knot 26 = .ok (.dup, 1) := by decide +kernel
theorem dX11_knot_27 : decode cX11_knot 27 = .ok (.getfield 280, 3) := by decide +kernel
theorem dX11_knot_30 : decode cX11_knot 30 = .ok (.iconst 1, 1) := by decide +kernel
theorem dX11_knot_31 : decode cX11_knot 31 = .ok (.iadd, 1) := by decide +kernel
theorem dX11_knot_32 : decode cX11_knot 32 = .ok (.putfield 280, 3) := by decide +kernel
theorem dX11_knot_35 : decode cX11_knot 35 = .ok (.return_, 1) := by decide +kernel
